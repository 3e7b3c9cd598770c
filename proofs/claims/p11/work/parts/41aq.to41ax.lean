-- part 41aq
section
noncomputable section
theorem ho_234 : (xm_y n_234).cls = "RobotCellHouse" := rfl
def dn_234_0_0 : List (Nat × Instr × Nat) := [(0, .iload_n 1, 1), (1, .iconst 0, 1), (2, .bipush 7, 2), (4, .invokestatic 82, 3), (7, .ifCond .eq 15, 3), (10, .aload_n 0, 1), (11, .getfield 19, 3), (14, .getfield 368, 3), (17, .iload_n 1, 1), (18, .iaload, 1), (19, .goto 4, 3), (22, .iconst (-1), 1), (23, .ireturn, 1)]
set_option maxRecDepth 20000 in
theorem dn_234_0_0_ok : dn_234_0_0.all (fun q => decide (decode (xm_b n_234) q.1 = .ok (q.2.1, q.2.2))) = true := xa_g_ok (by decide +kernel)
def te_234_0 : Nat → eE := (e_T 10 (e_T 2 (e_T 0 (e_L 0 (0, ei_load 1 0 1, 0, 0)) (e_T 1 (e_L 1 (0, ei_push (0, 0) 2, 0, 0)) (e_L 2 (0, ei_push (0, 7) 4, 0, 0)))) (e_T 4 (e_L 4 (2, e_nof, 242, 3)) (e_T 7 (e_L 7 (0, ei_if1 0 22 10, 0, 0)) (e_L 10 (0, ei_load 0 2 11, 0, 0))))) (e_T 17 (e_T 11 (e_L 11 (0, ei_getf eft elay 11 1 14, 0, 0)) (e_T 14 (e_L 14 (0, ei_getf eft elay 3 5 17, 0, 0)) (e_L 17 (0, ei_load 1 0 18, 0, 0)))) (e_T 19 (e_T 18 (e_L 18 (0, ei_ald elay false 19, 0, 0)) (e_L 19 (0, ei_goto 23, 0, 0))) (e_T 22 (e_L 22 (0, ei_push (0, (-1)) 23, 0, 0)) (e_L 23 (1, e_nof, 1, 0))))))
set_option maxRecDepth 20000 in
set_option maxHeartbeats 4000000 in
theorem te_234_0_ok : ∀ pc, e_EOq eft cls elay eI n_234 pc (te_234_0 pc) :=
  (e_Tok2
  (e_Tok2
  (e_Tok2
  (e_Lok (ld_iload_n_1 (x_dk dn_234_0_0_ok 0 rfl)))
  (e_Tok2
  (e_Lok (ps_iconst_0 (x_dk dn_234_0_0_ok 1 rfl)))
  (e_Lok (ps_bipush_7 (x_dk dn_234_0_0_ok 2 rfl)))))
  (e_Tok2
  (e_Lok (lk_11_82 ho_234 (x_dk dn_234_0_0_ok 3 rfl)))
  (e_Tok2
  (e_Lok (e_st (I := eI) (er_ifeq (off := 15) (tg := 22) (x_dk dn_234_0_0_ok 4 rfl) (by decide)) nx_if1))
  (e_Lok (ld_aload_n_0 (x_dk dn_234_0_0_ok 5 rfl))))))
  (e_Tok2
  (e_Tok2
  (e_Lok (lk_11_19g ho_234 (x_dk dn_234_0_0_ok 6 rfl)))
  (e_Tok2
  (e_Lok (lk_11_368g ho_234 (x_dk dn_234_0_0_ok 7 rfl)))
  (e_Lok (ld_iload_n_1 (x_dk dn_234_0_0_ok 8 rfl)))))
  (e_Tok2
  (e_Tok2
  (e_Lok (sm_iaload (x_dk dn_234_0_0_ok 9 rfl)))
  (e_Lok (e_st (I := eI) (er_goto (off := 4) (tg := 23) (x_dk dn_234_0_0_ok 10 rfl) (by decide)) nx_goto)))
  (e_Tok2
  (e_Lok (ps_iconst_m1 (x_dk dn_234_0_0_ok 11 rfl)))
  (e_Lok (e_rt (I := eI) (k := 1) ⟨(x_dk dn_234_0_0_ok 12 rfl), rfl⟩))))))
def te_234 : Nat → eE := te_234_0
theorem te_234_ok : ∀ pc, e_EOq eft cls elay eI n_234 pc (te_234 pc) := te_234_0_ok
theorem ho_235 : (xm_y n_235).cls = "RobotCellHouse" := rfl
def dn_235_0_0 : List (Nat × Instr × Nat) := [(0, .iload_n 1, 1), (1, .iconst 0, 1), (2, .aload_n 0, 1), (3, .getfield 37, 3), (6, .getfield 371, 3), (9, .iconst 1, 1), (10, .isub, 1), (11, .invokestatic 82, 3), (14, .ifCond .ne 5, 3), (17, .iconst (-1), 1), (18, .ireturn, 1), (19, .aload_n 0, 1), (20, .getfield 37, 3), (23, .getfield 374, 3), (26, .iload_n 1, 1), (27, .iaload, 1), (28, .istore_n 3, 1), (29, .iload_n 3, 1), (30, .iconst 4, 1), (31, .bipush 7, 2), (33, .invokestatic 82, 3), (36, .ifCond .eq 14, 3), (39, .aload_n 0, 1), (40, .getfield 27, 3), (43, .iload_n 3, 1)]
set_option maxRecDepth 20000 in
theorem dn_235_0_0_ok : dn_235_0_0.all (fun q => decide (decode (xm_b n_235) q.1 = .ok (q.2.1, q.2.2))) = true := xa_g_ok (by decide +kernel)
def dn_235_0_1 : List (Nat × Instr × Nat) := [(44, .iconst 4, 1), (45, .isub, 1), (46, .aaload, 1), (47, .goto 4, 3), (50, .aconst_null, 1), (51, .astore 4, 2), (53, .iload_n 2, 1), (54, .tableswitch 107 0 3 #[30, 32, 60, 88], 30), (84, .iload_n 3, 1), (85, .ireturn, 1), (86, .aload 4, 2), (88, .ifnull 17, 3), (91, .aload 4, 2), (93, .getfield 329, 3), (96, .aload 4, 2), (98, .getfield 112, 3), (101, .iaload, 1), (102, .goto 11, 3), (105, .aload_n 0, 1), (106, .getfield 37, 3), (109, .iload_n 1, 1), (110, .invokevirtual 377, 3), (113, .ireturn, 1), (114, .aload 4, 2), (116, .ifnull 17, 3)]
set_option maxRecDepth 20000 in
theorem dn_235_0_1_ok : dn_235_0_1.all (fun q => decide (decode (xm_b n_235) q.1 = .ok (q.2.1, q.2.2))) = true := xa_g_ok (by decide +kernel)
def dn_235_0_2 : List (Nat × Instr × Nat) := [(119, .aload 4, 2), (121, .getfield 332, 3), (124, .aload 4, 2), (126, .getfield 112, 3), (129, .iaload, 1), (130, .goto 11, 3), (133, .aload_n 0, 1), (134, .getfield 37, 3), (137, .iload_n 1, 1), (138, .invokevirtual 380, 3), (141, .ireturn, 1), (142, .iload_n 3, 1), (143, .iconst 4, 1), (144, .if_icmp .ge 15, 3), (147, .aload_n 0, 1), (148, .getfield 37, 3), (151, .getfield 383, 3), (154, .iload_n 1, 1), (155, .iaload, 1), (156, .goto 4, 3), (159, .iconst 0, 1), (160, .ireturn, 1), (161, .iconst (-1), 1), (162, .ireturn, 1)]
set_option maxRecDepth 20000 in
theorem dn_235_0_2_ok : dn_235_0_2.all (fun q => decide (decode (xm_b n_235) q.1 = .ok (q.2.1, q.2.2))) = true := xa_g_ok (by decide +kernel)
def te_235_0 : Nat → eE := (e_T 29 (e_T 14 (e_T 3 (e_T 1 (e_T 0 (e_L 0 (0, ei_load 1 0 1, 0, 0)) (e_L 1 (0, ei_push (0, 0) 2, 0, 0))) (e_T 2 (e_L 2 (0, ei_load 0 2 3, 0, 0)) (e_L 3 (0, ei_getf eft elay 11 4 6, 0, 0)))) (e_T 9 (e_T 6 (e_L 6 (0, ei_getf eft elay 4 1 9, 0, 0)) (e_L 9 (0, ei_push (0, 1) 10, 0, 0))) (e_T 10 (e_L 10 (0, ei_bin eF_sub 11, 0, 0)) (e_T 11 (e_L 11 (2, e_nof, 242, 3)) (e_L 14 (0, ei_if1 1 19 17, 0, 0)))))) (e_T 20 (e_T 18 (e_T 17 (e_L 17 (0, ei_push (0, (-1)) 18, 0, 0)) (e_L 18 (1, e_nof, 1, 0))) (e_T 19 (e_L 19 (0, ei_load 0 2 20, 0, 0)) (e_L 20 (0, ei_getf eft elay 11 4 23, 0, 0)))) (e_T 26 (e_T 23 (e_L 23 (0, ei_getf eft elay 4 14 26, 0, 0)) (e_L 26 (0, ei_load 1 0 27, 0, 0))) (e_T 27 (e_L 27 (0, ei_ald elay false 28, 0, 0)) (e_T 28 (e_L 28 (0, ei_stor 3 0 29, 0, 0)) (e_L 29 (0, ei_load 3 0 30, 0, 0))))))) (e_T 45 (e_T 36 (e_T 31 (e_T 30 (e_L 30 (0, ei_push (0, 4) 31, 0, 0)) (e_L 31 (0, ei_push (0, 7) 33, 0, 0))) (e_T 33 (e_L 33 (2, e_nof, 242, 3)) (e_L 36 (0, ei_if1 0 50 39, 0, 0)))) (e_T 40 (e_T 39 (e_L 39 (0, ei_load 0 2 40, 0, 0)) (e_L 40 (0, ei_getf eft elay 11 2 43, 0, 0))) (e_T 43 (e_L 43 (0, ei_load 3 0 44, 0, 0)) (e_T 44 (e_L 44 (0, ei_push (0, 4) 45, 0, 0)) (e_L 45 (0, ei_bin eF_sub 46, 0, 0)))))) (e_T 53 (e_T 47 (e_T 46 (e_L 46 (0, ei_aald elay 47, 0, 0)) (e_L 47 (0, ei_goto 51, 0, 0))) (e_T 50 (e_L 50 (0, ei_push (2, 0) 51, 0, 0)) (e_T 51 (e_L 51 (0, ei_stor 4 2 53, 0, 0)) (e_L 53 (0, ei_load 2 0 54, 0, 0))))) (e_T 84 (e_T 54 (e_L 54 (0, ei_sw [((-2147483648), (-1), 161), (0, 0, 84), (1, 1, 86), (2, 2, 114), (3, 3, 142), (4, 2147483647, 161)], 0, 0)) (e_L 84 (0, ei_load 3 0 85, 0, 0))) (e_T 85 (e_L 85 (1, e_nof, 1, 0)) (e_T 86 (e_L 86 (0, ei_load 4 2 88, 0, 0)) (e_L 88 (0, ei_null 105 91, 0, 0))))))))
set_option maxRecDepth 20000 in
set_option maxHeartbeats 4000000 in
theorem te_235_0_ok : ∀ pc, e_EOq eft cls elay eI n_235 pc (te_235_0 pc) :=
  (e_Tok2
  (e_Tok2
  (e_Tok2
  (e_Tok2
  (e_Tok2
  (e_Lok (ld_iload_n_1 (x_dk dn_235_0_0_ok 0 rfl)))
  (e_Lok (ps_iconst_0 (x_dk dn_235_0_0_ok 1 rfl))))
  (e_Tok2
  (e_Lok (ld_aload_n_0 (x_dk dn_235_0_0_ok 2 rfl)))
  (e_Lok (lk_11_37g ho_235 (x_dk dn_235_0_0_ok 3 rfl)))))
  (e_Tok2
  (e_Tok2
  (e_Lok (lk_11_371g ho_235 (x_dk dn_235_0_0_ok 4 rfl)))
  (e_Lok (ps_iconst_1 (x_dk dn_235_0_0_ok 5 rfl))))
  (e_Tok2
  (e_Lok (sm_isub (x_dk dn_235_0_0_ok 6 rfl)))
  (e_Tok2
  (e_Lok (lk_11_82 ho_235 (x_dk dn_235_0_0_ok 7 rfl)))
  (e_Lok (e_st (I := eI) (er_ifne (off := 5) (tg := 19) (x_dk dn_235_0_0_ok 8 rfl) (by decide)) nx_if1))))))
  (e_Tok2
  (e_Tok2
  (e_Tok2
  (e_Lok (ps_iconst_m1 (x_dk dn_235_0_0_ok 9 rfl)))
  (e_Lok (e_rt (I := eI) (k := 1) ⟨(x_dk dn_235_0_0_ok 10 rfl), rfl⟩)))
  (e_Tok2
  (e_Lok (ld_aload_n_0 (x_dk dn_235_0_0_ok 11 rfl)))
  (e_Lok (lk_11_37g ho_235 (x_dk dn_235_0_0_ok 12 rfl)))))
  (e_Tok2
  (e_Tok2
  (e_Lok (lk_11_374g ho_235 (x_dk dn_235_0_0_ok 13 rfl)))
  (e_Lok (ld_iload_n_1 (x_dk dn_235_0_0_ok 14 rfl))))
  (e_Tok2
  (e_Lok (sm_iaload (x_dk dn_235_0_0_ok 15 rfl)))
  (e_Tok2
  (e_Lok (e_st (I := eI) (er_istore_n (i := 3) (x_dk dn_235_0_0_ok 16 rfl) (by decide +kernel)) nx_stor))
  (e_Lok (ld_iload_n_3 (x_dk dn_235_0_0_ok 17 rfl))))))))
  (e_Tok2
  (e_Tok2
  (e_Tok2
  (e_Tok2
  (e_Lok (ps_iconst_4 (x_dk dn_235_0_0_ok 18 rfl)))
  (e_Lok (ps_bipush_7 (x_dk dn_235_0_0_ok 19 rfl))))
  (e_Tok2
  (e_Lok (lk_11_82 ho_235 (x_dk dn_235_0_0_ok 20 rfl)))
  (e_Lok (e_st (I := eI) (er_ifeq (off := 14) (tg := 50) (x_dk dn_235_0_0_ok 21 rfl) (by decide)) nx_if1))))
  (e_Tok2
  (e_Tok2
  (e_Lok (ld_aload_n_0 (x_dk dn_235_0_0_ok 22 rfl)))
  (e_Lok (lk_11_27g ho_235 (x_dk dn_235_0_0_ok 23 rfl))))
  (e_Tok2
  (e_Lok (ld_iload_n_3 (x_dk dn_235_0_0_ok 24 rfl)))
  (e_Tok2
  (e_Lok (ps_iconst_4 (x_dk dn_235_0_1_ok 0 rfl)))
  (e_Lok (sm_isub (x_dk dn_235_0_1_ok 1 rfl)))))))
  (e_Tok2
  (e_Tok2
  (e_Tok2
  (e_Lok (e_st (I := eI) (er_aaload (x_dk dn_235_0_1_ok 2 rfl)) nx_aald))
  (e_Lok (e_st (I := eI) (er_goto (off := 4) (tg := 51) (x_dk dn_235_0_1_ok 3 rfl) (by decide)) nx_goto)))
  (e_Tok2
  (e_Lok (e_st (I := eI) (er_null (x_dk dn_235_0_1_ok 4 rfl)) (nx_push (Or.inl rfl))))
  (e_Tok2
  (e_Lok (e_st (I := eI) (er_astore (i := 4) (x_dk dn_235_0_1_ok 5 rfl) (by decide +kernel)) nx_stor))
  (e_Lok (ld_iload_n_2 (x_dk dn_235_0_1_ok 6 rfl))))))
  (e_Tok2
  (e_Tok2
  (e_Lok (e_st (I := eI) (er_tsw (dflt := 107) (lo := 0) (hi := 3) (offs := #[30, 32, 60, 88]) (len := 30) (n := 4) (x_dk dn_235_0_1_ok 7 rfl) (by decide) (by decide +kernel)) nx_sw))
  (e_Lok (ld_iload_n_3 (x_dk dn_235_0_1_ok 8 rfl))))
  (e_Tok2
  (e_Lok (e_rt (I := eI) (k := 1) ⟨(x_dk dn_235_0_1_ok 9 rfl), rfl⟩))
  (e_Tok2
  (e_Lok (ld_aload_4 (x_dk dn_235_0_1_ok 10 rfl)))
  (e_Lok (e_st (I := eI) (er_ifnull (off := 17) (tg := 105) (x_dk dn_235_0_1_ok 11 rfl) (by decide)) nx_null))))))))
def te_235_37 : Nat → eE := (e_T 129 (e_T 109 (e_T 98 (e_T 93 (e_T 91 (e_L 91 (0, ei_load 4 2 93, 0, 0)) (e_L 93 (0, ei_getf eft elay 0 1 96, 0, 0))) (e_T 96 (e_L 96 (0, ei_load 4 2 98, 0, 0)) (e_L 98 (0, ei_getf eft elay 0 8 101, 0, 0)))) (e_T 102 (e_T 101 (e_L 101 (0, ei_ald elay false 102, 0, 0)) (e_L 102 (0, ei_goto 113, 0, 0))) (e_T 105 (e_L 105 (0, ei_load 0 2 106, 0, 0)) (e_T 106 (e_L 106 (0, ei_getf eft elay 11 4 109, 0, 0)) (e_L 109 (0, ei_load 1 0 110, 0, 0)))))) (e_T 116 (e_T 113 (e_T 110 (e_L 110 (2, e_nof, 81, 2)) (e_L 113 (1, e_nof, 1, 0))) (e_T 114 (e_L 114 (0, ei_load 4 2 116, 0, 0)) (e_L 116 (0, ei_null 133 119, 0, 0)))) (e_T 121 (e_T 119 (e_L 119 (0, ei_load 4 2 121, 0, 0)) (e_L 121 (0, ei_getf eft elay 0 2 124, 0, 0))) (e_T 124 (e_L 124 (0, ei_load 4 2 126, 0, 0)) (e_T 126 (e_L 126 (0, ei_getf eft elay 0 8 129, 0, 0)) (e_L 129 (0, ei_ald elay false 130, 0, 0))))))) (e_T 144 (e_T 137 (e_T 133 (e_T 130 (e_L 130 (0, ei_goto 141, 0, 0)) (e_L 133 (0, ei_load 0 2 134, 0, 0))) (e_T 134 (e_L 134 (0, ei_getf eft elay 11 4 137, 0, 0)) (e_L 137 (0, ei_load 1 0 138, 0, 0)))) (e_T 141 (e_T 138 (e_L 138 (2, e_nof, 82, 2)) (e_L 141 (1, e_nof, 1, 0))) (e_T 142 (e_L 142 (0, ei_load 3 0 143, 0, 0)) (e_T 143 (e_L 143 (0, ei_push (0, 4) 144, 0, 0)) (e_L 144 (0, ei_if2 3 159 147, 0, 0)))))) (e_T 155 (e_T 148 (e_T 147 (e_L 147 (0, ei_load 0 2 148, 0, 0)) (e_L 148 (0, ei_getf eft elay 11 4 151, 0, 0))) (e_T 151 (e_L 151 (0, ei_getf eft elay 4 15 154, 0, 0)) (e_T 154 (e_L 154 (0, ei_load 1 0 155, 0, 0)) (e_L 155 (0, ei_ald elay false 156, 0, 0))))) (e_T 159 (e_T 156 (e_L 156 (0, ei_goto 160, 0, 0)) (e_L 159 (0, ei_push (0, 0) 160, 0, 0))) (e_T 160 (e_L 160 (1, e_nof, 1, 0)) (e_T 161 (e_L 161 (0, ei_push (0, (-1)) 162, 0, 0)) (e_L 162 (1, e_nof, 1, 0))))))))
set_option maxRecDepth 20000 in
set_option maxHeartbeats 4000000 in
theorem te_235_37_ok : ∀ pc, e_EOq eft cls elay eI n_235 pc (te_235_37 pc) :=
  (e_Tok2
  (e_Tok2
  (e_Tok2
  (e_Tok2
  (e_Tok2
  (e_Lok (ld_aload_4 (x_dk dn_235_0_1_ok 12 rfl)))
  (e_Lok (lk_11_329g ho_235 (x_dk dn_235_0_1_ok 13 rfl))))
  (e_Tok2
  (e_Lok (ld_aload_4 (x_dk dn_235_0_1_ok 14 rfl)))
  (e_Lok (lk_11_112g ho_235 (x_dk dn_235_0_1_ok 15 rfl)))))
  (e_Tok2
  (e_Tok2
  (e_Lok (sm_iaload (x_dk dn_235_0_1_ok 16 rfl)))
  (e_Lok (e_st (I := eI) (er_goto (off := 11) (tg := 113) (x_dk dn_235_0_1_ok 17 rfl) (by decide)) nx_goto)))
  (e_Tok2
  (e_Lok (ld_aload_n_0 (x_dk dn_235_0_1_ok 18 rfl)))
  (e_Tok2
  (e_Lok (lk_11_37g ho_235 (x_dk dn_235_0_1_ok 19 rfl)))
  (e_Lok (ld_iload_n_1 (x_dk dn_235_0_1_ok 20 rfl)))))))
  (e_Tok2
  (e_Tok2
  (e_Tok2
  (e_Lok (lk_11_377 ho_235 (x_dk dn_235_0_1_ok 21 rfl)))
  (e_Lok (e_rt (I := eI) (k := 1) ⟨(x_dk dn_235_0_1_ok 22 rfl), rfl⟩)))
  (e_Tok2
  (e_Lok (ld_aload_4 (x_dk dn_235_0_1_ok 23 rfl)))
  (e_Lok (e_st (I := eI) (er_ifnull (off := 17) (tg := 133) (x_dk dn_235_0_1_ok 24 rfl) (by decide)) nx_null))))
  (e_Tok2
  (e_Tok2
  (e_Lok (ld_aload_4 (x_dk dn_235_0_2_ok 0 rfl)))
  (e_Lok (lk_11_332g ho_235 (x_dk dn_235_0_2_ok 1 rfl))))
  (e_Tok2
  (e_Lok (ld_aload_4 (x_dk dn_235_0_2_ok 2 rfl)))
  (e_Tok2
  (e_Lok (lk_11_112g ho_235 (x_dk dn_235_0_2_ok 3 rfl)))
  (e_Lok (sm_iaload (x_dk dn_235_0_2_ok 4 rfl))))))))
  (e_Tok2
  (e_Tok2
  (e_Tok2
  (e_Tok2
  (e_Lok (e_st (I := eI) (er_goto (off := 11) (tg := 141) (x_dk dn_235_0_2_ok 5 rfl) (by decide)) nx_goto))
  (e_Lok (ld_aload_n_0 (x_dk dn_235_0_2_ok 6 rfl))))
  (e_Tok2
  (e_Lok (lk_11_37g ho_235 (x_dk dn_235_0_2_ok 7 rfl)))
  (e_Lok (ld_iload_n_1 (x_dk dn_235_0_2_ok 8 rfl)))))
  (e_Tok2
  (e_Tok2
  (e_Lok (lk_11_380 ho_235 (x_dk dn_235_0_2_ok 9 rfl)))
  (e_Lok (e_rt (I := eI) (k := 1) ⟨(x_dk dn_235_0_2_ok 10 rfl), rfl⟩)))
  (e_Tok2
  (e_Lok (ld_iload_n_3 (x_dk dn_235_0_2_ok 11 rfl)))
  (e_Tok2
  (e_Lok (ps_iconst_4 (x_dk dn_235_0_2_ok 12 rfl)))
  (e_Lok (e_st (I := eI) (er_icmpge (off := 15) (tg := 159) (x_dk dn_235_0_2_ok 13 rfl) (by decide)) nx_if2))))))
  (e_Tok2
  (e_Tok2
  (e_Tok2
  (e_Lok (ld_aload_n_0 (x_dk dn_235_0_2_ok 14 rfl)))
  (e_Lok (lk_11_37g ho_235 (x_dk dn_235_0_2_ok 15 rfl))))
  (e_Tok2
  (e_Lok (lk_11_383g ho_235 (x_dk dn_235_0_2_ok 16 rfl)))
  (e_Tok2
  (e_Lok (ld_iload_n_1 (x_dk dn_235_0_2_ok 17 rfl)))
  (e_Lok (sm_iaload (x_dk dn_235_0_2_ok 18 rfl))))))
  (e_Tok2
  (e_Tok2
  (e_Lok (e_st (I := eI) (er_goto (off := 4) (tg := 160) (x_dk dn_235_0_2_ok 19 rfl) (by decide)) nx_goto))
  (e_Lok (ps_iconst_0 (x_dk dn_235_0_2_ok 20 rfl))))
  (e_Tok2
  (e_Lok (e_rt (I := eI) (k := 1) ⟨(x_dk dn_235_0_2_ok 21 rfl), rfl⟩))
  (e_Tok2
  (e_Lok (ps_iconst_m1 (x_dk dn_235_0_2_ok 22 rfl)))
  (e_Lok (e_rt (I := eI) (k := 1) ⟨(x_dk dn_235_0_2_ok 23 rfl), rfl⟩))))))))
def te_235 : Nat → eE := (e_T 88 te_235_0 te_235_37)
theorem te_235_ok : ∀ pc, e_EOq eft cls elay eI n_235 pc (te_235 pc) := (e_Tok2 (te_235_0_ok) (te_235_37_ok))
theorem ho_236 : (xm_y n_236).cls = "RobotCellHouse" := rfl
def dn_236_0_0 : List (Nat × Instr × Nat) := [(0, .iload_n 1, 1), (1, .tableswitch 71 0 3 #[31, 47, 55, 63], 31), (32, .aload_n 0, 1), (33, .getfield 42, 3), (36, .getfield 274, 3), (39, .ifCond .eq 7, 3), (42, .iconst 1, 1), (43, .goto 4, 3), (46, .iconst 0, 1), (47, .ireturn, 1), (48, .aload_n 0, 1), (49, .getfield 42, 3), (52, .getfield 385, 3), (55, .ireturn, 1), (56, .aload_n 0, 1), (57, .getfield 42, 3), (60, .getfield 388, 3), (63, .ireturn, 1), (64, .aload_n 0, 1), (65, .getfield 42, 3), (68, .getfield 391, 3), (71, .ireturn, 1), (72, .iload_n 1, 1), (73, .iconst 4, 1), (74, .iconst 3, 1)]
set_option maxRecDepth 20000 in
theorem dn_236_0_0_ok : dn_236_0_0.all (fun q => decide (decode (xm_b n_236) q.1 = .ok (q.2.1, q.2.2))) = true := xa_g_ok (by decide +kernel)
def dn_236_0_1 : List (Nat × Instr × Nat) := [(75, .aload_n 0, 1), (76, .getfield 42, 3), (79, .getfield 204, 3), (82, .iadd, 1), (83, .invokestatic 82, 3), (86, .ifCond .eq 16, 3), (89, .aload_n 0, 1), (90, .getfield 42, 3), (93, .iload_n 1, 1), (94, .iconst 4, 1), (95, .isub, 1), (96, .invokevirtual 394, 3), (99, .goto 4, 3), (102, .iconst (-1), 1), (103, .ireturn, 1)]
set_option maxRecDepth 20000 in
theorem dn_236_0_1_ok : dn_236_0_1.all (fun q => decide (decode (xm_b n_236) q.1 = .ok (q.2.1, q.2.2))) = true := xa_g_ok (by decide +kernel)
def te_236_0 : Nat → eE := (e_T 65 (e_T 47 (e_T 36 (e_T 1 (e_T 0 (e_L 0 (0, ei_load 1 0 1, 0, 0)) (e_L 1 (0, ei_sw [((-2147483648), (-1), 72), (0, 0, 32), (1, 1, 48), (2, 2, 56), (3, 3, 64), (4, 2147483647, 72)], 0, 0))) (e_T 32 (e_L 32 (0, ei_load 0 2 33, 0, 0)) (e_T 33 (e_L 33 (0, ei_getf eft elay 11 5 36, 0, 0)) (e_L 36 (0, ei_getf eft elay 2 3 39, 0, 0))))) (e_T 42 (e_T 39 (e_L 39 (0, ei_if1 0 46 42, 0, 0)) (e_L 42 (0, ei_push (0, 1) 43, 0, 0))) (e_T 43 (e_L 43 (0, ei_goto 47, 0, 0)) (e_T 46 (e_L 46 (0, ei_push (0, 0) 47, 0, 0)) (e_L 47 (1, e_nof, 1, 0)))))) (e_T 56 (e_T 49 (e_T 48 (e_L 48 (0, ei_load 0 2 49, 0, 0)) (e_L 49 (0, ei_getf eft elay 11 5 52, 0, 0))) (e_T 52 (e_L 52 (0, ei_getf eft elay 2 4 55, 0, 0)) (e_T 55 (e_L 55 (1, e_nof, 1, 0)) (e_L 56 (0, ei_load 0 2 57, 0, 0))))) (e_T 60 (e_T 57 (e_L 57 (0, ei_getf eft elay 11 5 60, 0, 0)) (e_L 60 (0, ei_getf eft elay 2 5 63, 0, 0))) (e_T 63 (e_L 63 (1, e_nof, 1, 0)) (e_T 64 (e_L 64 (0, ei_load 0 2 65, 0, 0)) (e_L 65 (0, ei_getf eft elay 11 5 68, 0, 0))))))) (e_T 83 (e_T 74 (e_T 71 (e_T 68 (e_L 68 (0, ei_getf eft elay 2 6 71, 0, 0)) (e_L 71 (1, e_nof, 1, 0))) (e_T 72 (e_L 72 (0, ei_load 1 0 73, 0, 0)) (e_T 73 (e_L 73 (0, ei_push (0, 4) 74, 0, 0)) (e_L 74 (0, ei_push (0, 3) 75, 0, 0))))) (e_T 76 (e_T 75 (e_L 75 (0, ei_load 0 2 76, 0, 0)) (e_L 76 (0, ei_getf eft elay 11 5 79, 0, 0))) (e_T 79 (e_L 79 (0, ei_getf eft elay 2 2 82, 0, 0)) (e_T 82 (e_L 82 (0, ei_bin eF_add 83, 0, 0)) (e_L 83 (2, e_nof, 242, 3)))))) (e_T 94 (e_T 89 (e_T 86 (e_L 86 (0, ei_if1 0 102 89, 0, 0)) (e_L 89 (0, ei_load 0 2 90, 0, 0))) (e_T 90 (e_L 90 (0, ei_getf eft elay 11 5 93, 0, 0)) (e_T 93 (e_L 93 (0, ei_load 1 0 94, 0, 0)) (e_L 94 (0, ei_push (0, 4) 95, 0, 0))))) (e_T 96 (e_T 95 (e_L 95 (0, ei_bin eF_sub 96, 0, 0)) (e_L 96 (2, e_nof, 30, 2))) (e_T 99 (e_L 99 (0, ei_goto 103, 0, 0)) (e_T 102 (e_L 102 (0, ei_push (0, (-1)) 103, 0, 0)) (e_L 103 (1, e_nof, 1, 0))))))))
set_option maxRecDepth 20000 in
set_option maxHeartbeats 4000000 in
theorem te_236_0_ok : ∀ pc, e_EOq eft cls elay eI n_236 pc (te_236_0 pc) :=
  (e_Tok2
  (e_Tok2
  (e_Tok2
  (e_Tok2
  (e_Tok2
  (e_Lok (ld_iload_n_1 (x_dk dn_236_0_0_ok 0 rfl)))
  (e_Lok (e_st (I := eI) (er_tsw (dflt := 71) (lo := 0) (hi := 3) (offs := #[31, 47, 55, 63]) (len := 31) (n := 4) (x_dk dn_236_0_0_ok 1 rfl) (by decide) (by decide +kernel)) nx_sw)))
  (e_Tok2
  (e_Lok (ld_aload_n_0 (x_dk dn_236_0_0_ok 2 rfl)))
  (e_Tok2
  (e_Lok (lk_11_42g ho_236 (x_dk dn_236_0_0_ok 3 rfl)))
  (e_Lok (lk_11_274g ho_236 (x_dk dn_236_0_0_ok 4 rfl))))))
  (e_Tok2
  (e_Tok2
  (e_Lok (e_st (I := eI) (er_ifeq (off := 7) (tg := 46) (x_dk dn_236_0_0_ok 5 rfl) (by decide)) nx_if1))
  (e_Lok (ps_iconst_1 (x_dk dn_236_0_0_ok 6 rfl))))
  (e_Tok2
  (e_Lok (e_st (I := eI) (er_goto (off := 4) (tg := 47) (x_dk dn_236_0_0_ok 7 rfl) (by decide)) nx_goto))
  (e_Tok2
  (e_Lok (ps_iconst_0 (x_dk dn_236_0_0_ok 8 rfl)))
  (e_Lok (e_rt (I := eI) (k := 1) ⟨(x_dk dn_236_0_0_ok 9 rfl), rfl⟩))))))
  (e_Tok2
  (e_Tok2
  (e_Tok2
  (e_Lok (ld_aload_n_0 (x_dk dn_236_0_0_ok 10 rfl)))
  (e_Lok (lk_11_42g ho_236 (x_dk dn_236_0_0_ok 11 rfl))))
  (e_Tok2
  (e_Lok (lk_11_385g ho_236 (x_dk dn_236_0_0_ok 12 rfl)))
  (e_Tok2
  (e_Lok (e_rt (I := eI) (k := 1) ⟨(x_dk dn_236_0_0_ok 13 rfl), rfl⟩))
  (e_Lok (ld_aload_n_0 (x_dk dn_236_0_0_ok 14 rfl))))))
  (e_Tok2
  (e_Tok2
  (e_Lok (lk_11_42g ho_236 (x_dk dn_236_0_0_ok 15 rfl)))
  (e_Lok (lk_11_388g ho_236 (x_dk dn_236_0_0_ok 16 rfl))))
  (e_Tok2
  (e_Lok (e_rt (I := eI) (k := 1) ⟨(x_dk dn_236_0_0_ok 17 rfl), rfl⟩))
  (e_Tok2
  (e_Lok (ld_aload_n_0 (x_dk dn_236_0_0_ok 18 rfl)))
  (e_Lok (lk_11_42g ho_236 (x_dk dn_236_0_0_ok 19 rfl))))))))
  (e_Tok2
  (e_Tok2
  (e_Tok2
  (e_Tok2
  (e_Lok (lk_11_391g ho_236 (x_dk dn_236_0_0_ok 20 rfl)))
  (e_Lok (e_rt (I := eI) (k := 1) ⟨(x_dk dn_236_0_0_ok 21 rfl), rfl⟩)))
  (e_Tok2
  (e_Lok (ld_iload_n_1 (x_dk dn_236_0_0_ok 22 rfl)))
  (e_Tok2
  (e_Lok (ps_iconst_4 (x_dk dn_236_0_0_ok 23 rfl)))
  (e_Lok (ps_iconst_3 (x_dk dn_236_0_0_ok 24 rfl))))))
  (e_Tok2
  (e_Tok2
  (e_Lok (ld_aload_n_0 (x_dk dn_236_0_1_ok 0 rfl)))
  (e_Lok (lk_11_42g ho_236 (x_dk dn_236_0_1_ok 1 rfl))))
  (e_Tok2
  (e_Lok (lk_11_204g ho_236 (x_dk dn_236_0_1_ok 2 rfl)))
  (e_Tok2
  (e_Lok (sm_iadd (x_dk dn_236_0_1_ok 3 rfl)))
  (e_Lok (lk_11_82 ho_236 (x_dk dn_236_0_1_ok 4 rfl)))))))
  (e_Tok2
  (e_Tok2
  (e_Tok2
  (e_Lok (e_st (I := eI) (er_ifeq (off := 16) (tg := 102) (x_dk dn_236_0_1_ok 5 rfl) (by decide)) nx_if1))
  (e_Lok (ld_aload_n_0 (x_dk dn_236_0_1_ok 6 rfl))))
  (e_Tok2
  (e_Lok (lk_11_42g ho_236 (x_dk dn_236_0_1_ok 7 rfl)))
  (e_Tok2
  (e_Lok (ld_iload_n_1 (x_dk dn_236_0_1_ok 8 rfl)))
  (e_Lok (ps_iconst_4 (x_dk dn_236_0_1_ok 9 rfl))))))
  (e_Tok2
  (e_Tok2
  (e_Lok (sm_isub (x_dk dn_236_0_1_ok 10 rfl)))
  (e_Lok (lk_11_394 ho_236 (x_dk dn_236_0_1_ok 11 rfl))))
  (e_Tok2
  (e_Lok (e_st (I := eI) (er_goto (off := 4) (tg := 103) (x_dk dn_236_0_1_ok 12 rfl) (by decide)) nx_goto))
  (e_Tok2
  (e_Lok (ps_iconst_m1 (x_dk dn_236_0_1_ok 13 rfl)))
  (e_Lok (e_rt (I := eI) (k := 1) ⟨(x_dk dn_236_0_1_ok 14 rfl), rfl⟩))))))))
def te_236 : Nat → eE := te_236_0
theorem te_236_ok : ∀ pc, e_EOq eft cls elay eI n_236 pc (te_236 pc) := te_236_0_ok
theorem ho_237 : (xm_y n_237).cls = "RobotCellHouse" := rfl
def dn_237_0_0 : List (Nat × Instr × Nat) := [(0, .aload_n 0, 1), (1, .getfield 42, 3), (4, .getfield 397, 3), (7, .ireturn, 1)]
set_option maxRecDepth 20000 in
theorem dn_237_0_0_ok : dn_237_0_0.all (fun q => decide (decode (xm_b n_237) q.1 = .ok (q.2.1, q.2.2))) = true := xa_g_ok (by decide +kernel)
def te_237_0 : Nat → eE := (e_T 1 (e_T 0 (e_L 0 (0, ei_load 0 2 1, 0, 0)) (e_L 1 (0, ei_getf eft elay 11 5 4, 0, 0))) (e_T 4 (e_L 4 (0, ei_getf eft elay 2 1 7, 0, 0)) (e_L 7 (1, e_nof, 1, 0))))
set_option maxRecDepth 20000 in
set_option maxHeartbeats 4000000 in
theorem te_237_0_ok : ∀ pc, e_EOq eft cls elay eI n_237 pc (te_237_0 pc) :=
  (e_Tok2
  (e_Tok2
  (e_Lok (ld_aload_n_0 (x_dk dn_237_0_0_ok 0 rfl)))
  (e_Lok (lk_11_42g ho_237 (x_dk dn_237_0_0_ok 1 rfl))))
  (e_Tok2
  (e_Lok (lk_11_397g ho_237 (x_dk dn_237_0_0_ok 2 rfl)))
  (e_Lok (e_rt (I := eI) (k := 1) ⟨(x_dk dn_237_0_0_ok 3 rfl), rfl⟩))))
def te_237 : Nat → eE := te_237_0
theorem te_237_ok : ∀ pc, e_EOq eft cls elay eI n_237 pc (te_237 pc) := te_237_0_ok
theorem ho_238 : (xm_y n_238).cls = "RobotCellHouse" := rfl
def dn_238_0_0 : List (Nat × Instr × Nat) := [(0, .iload_n 1, 1), (1, .iconst 0, 1), (2, .aload_n 0, 1), (3, .getfield 42, 3), (6, .getfield 397, 3), (9, .sipush 2000, 3), (12, .invokestatic 258, 3), (15, .iconst 1, 1), (16, .isub, 1), (17, .invokestatic 82, 3), (20, .ifCond .eq 12, 3), (23, .iload_n 2, 1), (24, .iconst 0, 1), (25, .iconst 3, 1), (26, .invokestatic 82, 3), (29, .ifCond .ne 5, 3), (32, .iconst (-1), 1), (33, .ireturn, 1), (34, .aload_n 0, 1), (35, .getfield 42, 3), (38, .getfield 400, 3), (41, .iload_n 1, 1), (42, .iconst 4, 1), (43, .imul, 1), (44, .iload_n 2, 1)]
set_option maxRecDepth 20000 in
theorem dn_238_0_0_ok : dn_238_0_0.all (fun q => decide (decode (xm_b n_238) q.1 = .ok (q.2.1, q.2.2))) = true := xa_g_ok (by decide +kernel)
def dn_238_0_1 : List (Nat × Instr × Nat) := [(45, .iadd, 1), (46, .iaload, 1), (47, .ireturn, 1)]
set_option maxRecDepth 20000 in
theorem dn_238_0_1_ok : dn_238_0_1.all (fun q => decide (decode (xm_b n_238) q.1 = .ok (q.2.1, q.2.2))) = true := xa_g_ok (by decide +kernel)
def te_238_0 : Nat → eE := (e_T 25 (e_T 12 (e_T 2 (e_T 0 (e_L 0 (0, ei_load 1 0 1, 0, 0)) (e_T 1 (e_L 1 (0, ei_push (0, 0) 2, 0, 0)) (e_L 2 (0, ei_load 0 2 3, 0, 0)))) (e_T 6 (e_T 3 (e_L 3 (0, ei_getf eft elay 11 5 6, 0, 0)) (e_L 6 (0, ei_getf eft elay 2 1 9, 0, 0))) (e_T 9 (e_L 9 (0, ei_push (0, 2000) 12, 0, 0)) (e_L 12 (0, ei_m2 eM_min 15, 0, 0))))) (e_T 17 (e_T 15 (e_L 15 (0, ei_push (0, 1) 16, 0, 0)) (e_T 16 (e_L 16 (0, ei_bin eF_sub 17, 0, 0)) (e_L 17 (2, e_nof, 242, 3)))) (e_T 23 (e_T 20 (e_L 20 (0, ei_if1 0 32 23, 0, 0)) (e_L 23 (0, ei_load 2 0 24, 0, 0))) (e_T 24 (e_L 24 (0, ei_push (0, 0) 25, 0, 0)) (e_L 25 (0, ei_push (0, 3) 26, 0, 0)))))) (e_T 38 (e_T 32 (e_T 26 (e_L 26 (2, e_nof, 242, 3)) (e_T 29 (e_L 29 (0, ei_if1 1 34 32, 0, 0)) (e_L 32 (0, ei_push (0, (-1)) 33, 0, 0)))) (e_T 34 (e_T 33 (e_L 33 (1, e_nof, 1, 0)) (e_L 34 (0, ei_load 0 2 35, 0, 0))) (e_T 35 (e_L 35 (0, ei_getf eft elay 11 5 38, 0, 0)) (e_L 38 (0, ei_getf eft elay 2 8 41, 0, 0))))) (e_T 43 (e_T 41 (e_L 41 (0, ei_load 1 0 42, 0, 0)) (e_T 42 (e_L 42 (0, ei_push (0, 4) 43, 0, 0)) (e_L 43 (0, ei_bin eF_mul 44, 0, 0)))) (e_T 45 (e_T 44 (e_L 44 (0, ei_load 2 0 45, 0, 0)) (e_L 45 (0, ei_bin eF_add 46, 0, 0))) (e_T 46 (e_L 46 (0, ei_ald elay false 47, 0, 0)) (e_L 47 (1, e_nof, 1, 0)))))))
set_option maxRecDepth 20000 in
set_option maxHeartbeats 4000000 in
theorem te_238_0_ok : ∀ pc, e_EOq eft cls elay eI n_238 pc (te_238_0 pc) :=
  (e_Tok2
  (e_Tok2
  (e_Tok2
  (e_Tok2
  (e_Lok (ld_iload_n_1 (x_dk dn_238_0_0_ok 0 rfl)))
  (e_Tok2
  (e_Lok (ps_iconst_0 (x_dk dn_238_0_0_ok 1 rfl)))
  (e_Lok (ld_aload_n_0 (x_dk dn_238_0_0_ok 2 rfl)))))
  (e_Tok2
  (e_Tok2
  (e_Lok (lk_11_42g ho_238 (x_dk dn_238_0_0_ok 3 rfl)))
  (e_Lok (lk_11_397g ho_238 (x_dk dn_238_0_0_ok 4 rfl))))
  (e_Tok2
  (e_Lok (ps_sipush_2000 (x_dk dn_238_0_0_ok 5 rfl)))
  (e_Lok (e_st (I := eI) (er_min (ix := 258) (in_t7 (List.mem_of_getElem? (i := 46) rfl) rfl) (in_t5 (List.mem_of_getElem? (i := 187) rfl) rfl) (in_t1 (List.mem_of_getElem? (i := 15) rfl) rfl) (in_t5 (List.mem_of_getElem? (i := 188) rfl) rfl) (x_dk dn_238_0_0_ok 6 rfl)) nx_m2)))))
  (e_Tok2
  (e_Tok2
  (e_Lok (ps_iconst_1 (x_dk dn_238_0_0_ok 7 rfl)))
  (e_Tok2
  (e_Lok (sm_isub (x_dk dn_238_0_0_ok 8 rfl)))
  (e_Lok (lk_11_82 ho_238 (x_dk dn_238_0_0_ok 9 rfl)))))
  (e_Tok2
  (e_Tok2
  (e_Lok (e_st (I := eI) (er_ifeq (off := 12) (tg := 32) (x_dk dn_238_0_0_ok 10 rfl) (by decide)) nx_if1))
  (e_Lok (ld_iload_n_2 (x_dk dn_238_0_0_ok 11 rfl))))
  (e_Tok2
  (e_Lok (ps_iconst_0 (x_dk dn_238_0_0_ok 12 rfl)))
  (e_Lok (ps_iconst_3 (x_dk dn_238_0_0_ok 13 rfl)))))))
  (e_Tok2
  (e_Tok2
  (e_Tok2
  (e_Lok (lk_11_82 ho_238 (x_dk dn_238_0_0_ok 14 rfl)))
  (e_Tok2
  (e_Lok (e_st (I := eI) (er_ifne (off := 5) (tg := 34) (x_dk dn_238_0_0_ok 15 rfl) (by decide)) nx_if1))
  (e_Lok (ps_iconst_m1 (x_dk dn_238_0_0_ok 16 rfl)))))
  (e_Tok2
  (e_Tok2
  (e_Lok (e_rt (I := eI) (k := 1) ⟨(x_dk dn_238_0_0_ok 17 rfl), rfl⟩))
  (e_Lok (ld_aload_n_0 (x_dk dn_238_0_0_ok 18 rfl))))
  (e_Tok2
  (e_Lok (lk_11_42g ho_238 (x_dk dn_238_0_0_ok 19 rfl)))
  (e_Lok (lk_11_400g ho_238 (x_dk dn_238_0_0_ok 20 rfl))))))
  (e_Tok2
  (e_Tok2
  (e_Lok (ld_iload_n_1 (x_dk dn_238_0_0_ok 21 rfl)))
  (e_Tok2
  (e_Lok (ps_iconst_4 (x_dk dn_238_0_0_ok 22 rfl)))
  (e_Lok (sm_imul (x_dk dn_238_0_0_ok 23 rfl)))))
  (e_Tok2
  (e_Tok2
  (e_Lok (ld_iload_n_2 (x_dk dn_238_0_0_ok 24 rfl)))
  (e_Lok (sm_iadd (x_dk dn_238_0_1_ok 0 rfl))))
  (e_Tok2
  (e_Lok (sm_iaload (x_dk dn_238_0_1_ok 1 rfl)))
  (e_Lok (e_rt (I := eI) (k := 1) ⟨(x_dk dn_238_0_1_ok 2 rfl), rfl⟩)))))))
def te_238 : Nat → eE := te_238_0
theorem te_238_ok : ∀ pc, e_EOq eft cls elay eI n_238 pc (te_238 pc) := te_238_0_ok
theorem ho_239 : (xm_y n_239).cls = "RobotCellHouse" := rfl
def dn_239_0_0 : List (Nat × Instr × Nat) := [(0, .aload_n 0, 1), (1, .iload_n 1, 1), (2, .invokevirtual 103, 3), (5, .ifCond .eq 14, 3), (8, .iload_n 2, 1), (9, .iconst 0, 1), (10, .sipush 2000, 3), (13, .invokestatic 82, 3), (16, .ifCond .ne 5, 3), (19, .iconst (-1), 1), (20, .ireturn, 1), (21, .aload_n 0, 1), (22, .getfield 46, 3), (25, .aload_n 0, 1), (26, .getfield 27, 3), (29, .aload_n 0, 1), (30, .getfield 94, 3), (33, .iload_n 1, 1), (34, .iconst 0, 1), (35, .iload_n 2, 1), (36, .invokevirtual 403, 3), (39, .ifCond .eq 7, 3), (42, .iconst 1, 1), (43, .goto 4, 3), (46, .iconst 0, 1)]
set_option maxRecDepth 20000 in
theorem dn_239_0_0_ok : dn_239_0_0.all (fun q => decide (decode (xm_b n_239) q.1 = .ok (q.2.1, q.2.2))) = true := xa_g_ok (by decide +kernel)
def dn_239_0_1 : List (Nat × Instr × Nat) := [(47, .ireturn, 1)]
set_option maxRecDepth 20000 in
theorem dn_239_0_1_ok : dn_239_0_1.all (fun q => decide (decode (xm_b n_239) q.1 = .ok (q.2.1, q.2.2))) = true := xa_g_ok (by decide +kernel)
def te_239_0 : Nat → eE := (e_T 22 (e_T 9 (e_T 2 (e_T 0 (e_L 0 (0, ei_load 0 2 1, 0, 0)) (e_T 1 (e_L 1 (0, ei_load 1 0 2, 0, 0)) (e_L 2 (2, e_nof, 246, 2)))) (e_T 5 (e_L 5 (0, ei_if1 0 19 8, 0, 0)) (e_T 8 (e_L 8 (0, ei_load 2 0 9, 0, 0)) (e_L 9 (0, ei_push (0, 0) 10, 0, 0))))) (e_T 16 (e_T 10 (e_L 10 (0, ei_push (0, 2000) 13, 0, 0)) (e_T 13 (e_L 13 (2, e_nof, 242, 3)) (e_L 16 (0, ei_if1 1 21 19, 0, 0)))) (e_T 20 (e_T 19 (e_L 19 (0, ei_push (0, (-1)) 20, 0, 0)) (e_L 20 (1, e_nof, 1, 0))) (e_T 21 (e_L 21 (0, ei_load 0 2 22, 0, 0)) (e_L 22 (0, ei_getf eft elay 11 6 25, 0, 0)))))) (e_T 34 (e_T 29 (e_T 25 (e_L 25 (0, ei_load 0 2 26, 0, 0)) (e_T 26 (e_L 26 (0, ei_getf eft elay 11 2 29, 0, 0)) (e_L 29 (0, ei_load 0 2 30, 0, 0)))) (e_T 30 (e_L 30 (0, ei_getf eft elay 11 11 33, 0, 0)) (e_T 33 (e_L 33 (0, ei_load 1 0 34, 0, 0)) (e_L 34 (0, ei_push (0, 0) 35, 0, 0))))) (e_T 39 (e_T 35 (e_L 35 (0, ei_load 2 0 36, 0, 0)) (e_T 36 (e_L 36 (2, e_nof, 171, 6)) (e_L 39 (0, ei_if1 0 46 42, 0, 0)))) (e_T 43 (e_T 42 (e_L 42 (0, ei_push (0, 1) 43, 0, 0)) (e_L 43 (0, ei_goto 47, 0, 0))) (e_T 46 (e_L 46 (0, ei_push (0, 0) 47, 0, 0)) (e_L 47 (1, e_nof, 1, 0)))))))
set_option maxRecDepth 20000 in
set_option maxHeartbeats 4000000 in
theorem te_239_0_ok : ∀ pc, e_EOq eft cls elay eI n_239 pc (te_239_0 pc) :=
  (e_Tok2
  (e_Tok2
  (e_Tok2
  (e_Tok2
  (e_Lok (ld_aload_n_0 (x_dk dn_239_0_0_ok 0 rfl)))
  (e_Tok2
  (e_Lok (ld_iload_n_1 (x_dk dn_239_0_0_ok 1 rfl)))
  (e_Lok (lk_11_103 ho_239 (x_dk dn_239_0_0_ok 2 rfl)))))
  (e_Tok2
  (e_Lok (e_st (I := eI) (er_ifeq (off := 14) (tg := 19) (x_dk dn_239_0_0_ok 3 rfl) (by decide)) nx_if1))
  (e_Tok2
  (e_Lok (ld_iload_n_2 (x_dk dn_239_0_0_ok 4 rfl)))
  (e_Lok (ps_iconst_0 (x_dk dn_239_0_0_ok 5 rfl))))))
  (e_Tok2
  (e_Tok2
  (e_Lok (ps_sipush_2000 (x_dk dn_239_0_0_ok 6 rfl)))
  (e_Tok2
  (e_Lok (lk_11_82 ho_239 (x_dk dn_239_0_0_ok 7 rfl)))
  (e_Lok (e_st (I := eI) (er_ifne (off := 5) (tg := 21) (x_dk dn_239_0_0_ok 8 rfl) (by decide)) nx_if1))))
  (e_Tok2
  (e_Tok2
  (e_Lok (ps_iconst_m1 (x_dk dn_239_0_0_ok 9 rfl)))
  (e_Lok (e_rt (I := eI) (k := 1) ⟨(x_dk dn_239_0_0_ok 10 rfl), rfl⟩)))
  (e_Tok2
  (e_Lok (ld_aload_n_0 (x_dk dn_239_0_0_ok 11 rfl)))
  (e_Lok (lk_11_46g ho_239 (x_dk dn_239_0_0_ok 12 rfl)))))))
  (e_Tok2
  (e_Tok2
  (e_Tok2
  (e_Lok (ld_aload_n_0 (x_dk dn_239_0_0_ok 13 rfl)))
  (e_Tok2
  (e_Lok (lk_11_27g ho_239 (x_dk dn_239_0_0_ok 14 rfl)))
  (e_Lok (ld_aload_n_0 (x_dk dn_239_0_0_ok 15 rfl)))))
  (e_Tok2
  (e_Lok (lk_11_94g ho_239 (x_dk dn_239_0_0_ok 16 rfl)))
  (e_Tok2
  (e_Lok (ld_iload_n_1 (x_dk dn_239_0_0_ok 17 rfl)))
  (e_Lok (ps_iconst_0 (x_dk dn_239_0_0_ok 18 rfl))))))
  (e_Tok2
  (e_Tok2
  (e_Lok (ld_iload_n_2 (x_dk dn_239_0_0_ok 19 rfl)))
  (e_Tok2
  (e_Lok (lk_11_403 ho_239 (x_dk dn_239_0_0_ok 20 rfl)))
  (e_Lok (e_st (I := eI) (er_ifeq (off := 7) (tg := 46) (x_dk dn_239_0_0_ok 21 rfl) (by decide)) nx_if1))))
  (e_Tok2
  (e_Tok2
  (e_Lok (ps_iconst_1 (x_dk dn_239_0_0_ok 22 rfl)))
  (e_Lok (e_st (I := eI) (er_goto (off := 4) (tg := 47) (x_dk dn_239_0_0_ok 23 rfl) (by decide)) nx_goto)))
  (e_Tok2
  (e_Lok (ps_iconst_0 (x_dk dn_239_0_0_ok 24 rfl)))
  (e_Lok (e_rt (I := eI) (k := 1) ⟨(x_dk dn_239_0_1_ok 0 rfl), rfl⟩)))))))
def te_239 : Nat → eE := te_239_0
theorem te_239_ok : ∀ pc, e_EOq eft cls elay eI n_239 pc (te_239 pc) := te_239_0_ok
theorem ho_240 : (xm_y n_240).cls = "RobotCellHouse" := rfl
def dn_240_0_0 : List (Nat × Instr × Nat) := [(0, .iload_n 1, 1), (1, .tableswitch 122 0 8 #[51, 56, 64, 72, 80, 88, 96, 101, 109], 51), (52, .aload_n 0, 1), (53, .getfield 94, 3), (56, .ireturn, 1), (57, .aload_n 0, 1), (58, .getfield 46, 3), (61, .getfield 149, 3), (64, .ireturn, 1), (65, .aload_n 0, 1), (66, .getfield 37, 3), (69, .getfield 167, 3), (72, .ireturn, 1), (73, .aload_n 0, 1), (74, .getfield 37, 3), (77, .getfield 371, 3), (80, .ireturn, 1), (81, .aload_n 0, 1), (82, .getfield 46, 3), (85, .getfield 198, 3), (88, .ireturn, 1), (89, .aload_n 0, 1), (90, .getfield 42, 3), (93, .getfield 204, 3), (96, .ireturn, 1)]
set_option maxRecDepth 20000 in
theorem dn_240_0_0_ok : dn_240_0_0.all (fun q => decide (decode (xm_b n_240) q.1 = .ok (q.2.1, q.2.2))) = true := xa_g_ok (by decide +kernel)
def dn_240_0_1 : List (Nat × Instr × Nat) := [(97, .aload_n 0, 1), (98, .getfield 246, 3), (101, .ireturn, 1), (102, .aload_n 0, 1), (103, .getfield 10, 3), (106, .getfield 74, 3), (109, .ireturn, 1), (110, .aload_n 0, 1), (111, .getfield 91, 3), (114, .ifCond .eq 7, 3), (117, .iconst 1, 1), (118, .goto 4, 3), (121, .iconst 0, 1), (122, .ireturn, 1), (123, .iconst (-1), 1), (124, .ireturn, 1)]
set_option maxRecDepth 20000 in
theorem dn_240_0_1_ok : dn_240_0_1.all (fun q => decide (decode (xm_b n_240) q.1 = .ok (q.2.1, q.2.2))) = true := xa_g_ok (by decide +kernel)
def te_240_0 : Nat → eE := (e_T 65 (e_T 56 (e_T 1 (e_T 0 (e_L 0 (0, ei_load 1 0 1, 0, 0)) (e_L 1 (0, ei_sw [((-2147483648), (-1), 123), (0, 0, 52), (1, 1, 57), (2, 2, 65), (3, 3, 73), (4, 4, 81), (5, 5, 89), (6, 6, 97), (7, 7, 102), (8, 8, 110), (9, 2147483647, 123)], 0, 0))) (e_T 52 (e_L 52 (0, ei_load 0 2 53, 0, 0)) (e_T 53 (e_L 53 (0, ei_getf eft elay 11 11 56, 0, 0)) (e_L 56 (1, e_nof, 1, 0))))) (e_T 58 (e_T 57 (e_L 57 (0, ei_load 0 2 58, 0, 0)) (e_L 58 (0, ei_getf eft elay 11 6 61, 0, 0))) (e_T 61 (e_L 61 (0, ei_getf eft elay 9 0 64, 0, 0)) (e_T 64 (e_L 64 (1, e_nof, 1, 0)) (e_L 65 (0, ei_load 0 2 66, 0, 0)))))) (e_T 74 (e_T 69 (e_T 66 (e_L 66 (0, ei_getf eft elay 11 4 69, 0, 0)) (e_L 69 (0, ei_getf eft elay 4 0 72, 0, 0))) (e_T 72 (e_L 72 (1, e_nof, 1, 0)) (e_T 73 (e_L 73 (0, ei_load 0 2 74, 0, 0)) (e_L 74 (0, ei_getf eft elay 11 4 77, 0, 0))))) (e_T 80 (e_T 77 (e_L 77 (0, ei_getf eft elay 4 1 80, 0, 0)) (e_L 80 (1, e_nof, 1, 0))) (e_T 81 (e_L 81 (0, ei_load 0 2 82, 0, 0)) (e_T 82 (e_L 82 (0, ei_getf eft elay 11 6 85, 0, 0)) (e_L 85 (0, ei_getf eft elay 9 1 88, 0, 0)))))))
set_option maxRecDepth 20000 in
set_option maxHeartbeats 4000000 in
theorem te_240_0_ok : ∀ pc, e_EOq eft cls elay eI n_240 pc (te_240_0 pc) :=
  (e_Tok2
  (e_Tok2
  (e_Tok2
  (e_Tok2
  (e_Lok (ld_iload_n_1 (x_dk dn_240_0_0_ok 0 rfl)))
  (e_Lok (e_st (I := eI) (er_tsw (dflt := 122) (lo := 0) (hi := 8) (offs := #[51, 56, 64, 72, 80, 88, 96, 101, 109]) (len := 51) (n := 9) (x_dk dn_240_0_0_ok 1 rfl) (by decide) (by decide +kernel)) nx_sw)))
  (e_Tok2
  (e_Lok (ld_aload_n_0 (x_dk dn_240_0_0_ok 2 rfl)))
  (e_Tok2
  (e_Lok (lk_11_94g ho_240 (x_dk dn_240_0_0_ok 3 rfl)))
  (e_Lok (e_rt (I := eI) (k := 1) ⟨(x_dk dn_240_0_0_ok 4 rfl), rfl⟩)))))
  (e_Tok2
  (e_Tok2
  (e_Lok (ld_aload_n_0 (x_dk dn_240_0_0_ok 5 rfl)))
  (e_Lok (lk_11_46g ho_240 (x_dk dn_240_0_0_ok 6 rfl))))
  (e_Tok2
  (e_Lok (lk_11_149g ho_240 (x_dk dn_240_0_0_ok 7 rfl)))
  (e_Tok2
  (e_Lok (e_rt (I := eI) (k := 1) ⟨(x_dk dn_240_0_0_ok 8 rfl), rfl⟩))
  (e_Lok (ld_aload_n_0 (x_dk dn_240_0_0_ok 9 rfl)))))))
  (e_Tok2
  (e_Tok2
  (e_Tok2
  (e_Lok (lk_11_37g ho_240 (x_dk dn_240_0_0_ok 10 rfl)))
  (e_Lok (lk_11_167g ho_240 (x_dk dn_240_0_0_ok 11 rfl))))
  (e_Tok2
  (e_Lok (e_rt (I := eI) (k := 1) ⟨(x_dk dn_240_0_0_ok 12 rfl), rfl⟩))
  (e_Tok2
  (e_Lok (ld_aload_n_0 (x_dk dn_240_0_0_ok 13 rfl)))
  (e_Lok (lk_11_37g ho_240 (x_dk dn_240_0_0_ok 14 rfl))))))
  (e_Tok2
  (e_Tok2
  (e_Lok (lk_11_371g ho_240 (x_dk dn_240_0_0_ok 15 rfl)))
  (e_Lok (e_rt (I := eI) (k := 1) ⟨(x_dk dn_240_0_0_ok 16 rfl), rfl⟩)))
  (e_Tok2
  (e_Lok (ld_aload_n_0 (x_dk dn_240_0_0_ok 17 rfl)))
  (e_Tok2
  (e_Lok (lk_11_46g ho_240 (x_dk dn_240_0_0_ok 18 rfl)))
  (e_Lok (lk_11_198g ho_240 (x_dk dn_240_0_0_ok 19 rfl))))))))
def te_240_20 : Nat → eE := (e_T 103 (e_T 96 (e_T 89 (e_T 88 (e_L 88 (1, e_nof, 1, 0)) (e_L 89 (0, ei_load 0 2 90, 0, 0))) (e_T 90 (e_L 90 (0, ei_getf eft elay 11 5 93, 0, 0)) (e_T 93 (e_L 93 (0, ei_getf eft elay 2 2 96, 0, 0)) (e_L 96 (1, e_nof, 1, 0))))) (e_T 98 (e_T 97 (e_L 97 (0, ei_load 0 2 98, 0, 0)) (e_L 98 (0, ei_getf eft elay 11 12 101, 0, 0))) (e_T 101 (e_L 101 (1, e_nof, 1, 0)) (e_T 102 (e_L 102 (0, ei_load 0 2 103, 0, 0)) (e_L 103 (0, ei_getf eft elay 11 0 106, 0, 0)))))) (e_T 114 (e_T 109 (e_T 106 (e_L 106 (0, ei_getf eft elay 8 0 109, 0, 0)) (e_L 109 (1, e_nof, 1, 0))) (e_T 110 (e_L 110 (0, ei_load 0 2 111, 0, 0)) (e_T 111 (e_L 111 (0, ei_getf eft elay 11 13 114, 0, 0)) (e_L 114 (0, ei_if1 0 121 117, 0, 0))))) (e_T 121 (e_T 117 (e_L 117 (0, ei_push (0, 1) 118, 0, 0)) (e_T 118 (e_L 118 (0, ei_goto 122, 0, 0)) (e_L 121 (0, ei_push (0, 0) 122, 0, 0)))) (e_T 122 (e_L 122 (1, e_nof, 1, 0)) (e_T 123 (e_L 123 (0, ei_push (0, (-1)) 124, 0, 0)) (e_L 124 (1, e_nof, 1, 0)))))))
set_option maxRecDepth 20000 in
set_option maxHeartbeats 4000000 in
theorem te_240_20_ok : ∀ pc, e_EOq eft cls elay eI n_240 pc (te_240_20 pc) :=
  (e_Tok2
  (e_Tok2
  (e_Tok2
  (e_Tok2
  (e_Lok (e_rt (I := eI) (k := 1) ⟨(x_dk dn_240_0_0_ok 20 rfl), rfl⟩))
  (e_Lok (ld_aload_n_0 (x_dk dn_240_0_0_ok 21 rfl))))
  (e_Tok2
  (e_Lok (lk_11_42g ho_240 (x_dk dn_240_0_0_ok 22 rfl)))
  (e_Tok2
  (e_Lok (lk_11_204g ho_240 (x_dk dn_240_0_0_ok 23 rfl)))
  (e_Lok (e_rt (I := eI) (k := 1) ⟨(x_dk dn_240_0_0_ok 24 rfl), rfl⟩)))))
  (e_Tok2
  (e_Tok2
  (e_Lok (ld_aload_n_0 (x_dk dn_240_0_1_ok 0 rfl)))
  (e_Lok (lk_11_246g ho_240 (x_dk dn_240_0_1_ok 1 rfl))))
  (e_Tok2
  (e_Lok (e_rt (I := eI) (k := 1) ⟨(x_dk dn_240_0_1_ok 2 rfl), rfl⟩))
  (e_Tok2
  (e_Lok (ld_aload_n_0 (x_dk dn_240_0_1_ok 3 rfl)))
  (e_Lok (lk_11_10g ho_240 (x_dk dn_240_0_1_ok 4 rfl)))))))
  (e_Tok2
  (e_Tok2
  (e_Tok2
  (e_Lok (lk_11_74g ho_240 (x_dk dn_240_0_1_ok 5 rfl)))
  (e_Lok (e_rt (I := eI) (k := 1) ⟨(x_dk dn_240_0_1_ok 6 rfl), rfl⟩)))
  (e_Tok2
  (e_Lok (ld_aload_n_0 (x_dk dn_240_0_1_ok 7 rfl)))
  (e_Tok2
  (e_Lok (lk_11_91g ho_240 (x_dk dn_240_0_1_ok 8 rfl)))
  (e_Lok (e_st (I := eI) (er_ifeq (off := 7) (tg := 121) (x_dk dn_240_0_1_ok 9 rfl) (by decide)) nx_if1)))))
  (e_Tok2
  (e_Tok2
  (e_Lok (ps_iconst_1 (x_dk dn_240_0_1_ok 10 rfl)))
  (e_Tok2
  (e_Lok (e_st (I := eI) (er_goto (off := 4) (tg := 122) (x_dk dn_240_0_1_ok 11 rfl) (by decide)) nx_goto))
  (e_Lok (ps_iconst_0 (x_dk dn_240_0_1_ok 12 rfl)))))
  (e_Tok2
  (e_Lok (e_rt (I := eI) (k := 1) ⟨(x_dk dn_240_0_1_ok 13 rfl), rfl⟩))
  (e_Tok2
  (e_Lok (ps_iconst_m1 (x_dk dn_240_0_1_ok 14 rfl)))
  (e_Lok (e_rt (I := eI) (k := 1) ⟨(x_dk dn_240_0_1_ok 15 rfl), rfl⟩)))))))
def te_240 : Nat → eE := (e_T 85 te_240_0 te_240_20)
theorem te_240_ok : ∀ pc, e_EOq eft cls elay eI n_240 pc (te_240 pc) := (e_Tok2 (te_240_0_ok) (te_240_20_ok))
theorem ho_241 : (xm_y n_241).cls = "RobotCellHouse" := rfl
def dn_241_0_0 : List (Nat × Instr × Nat) := [(0, .iload_n 1, 1), (1, .iconst 0, 1), (2, .iconst 3, 1), (3, .invokestatic 82, 3), (6, .ifCond .eq 12, 3), (9, .aload_n 0, 1), (10, .getfield 64, 3), (13, .iload_n 1, 1), (14, .iaload, 1), (15, .goto 4, 3), (18, .iconst (-1), 1), (19, .ireturn, 1)]
set_option maxRecDepth 20000 in
theorem dn_241_0_0_ok : dn_241_0_0.all (fun q => decide (decode (xm_b n_241) q.1 = .ok (q.2.1, q.2.2))) = true := xa_g_ok (by decide +kernel)
def te_241_0 : Nat → eE := (e_T 9 (e_T 2 (e_T 0 (e_L 0 (0, ei_load 1 0 1, 0, 0)) (e_T 1 (e_L 1 (0, ei_push (0, 0) 2, 0, 0)) (e_L 2 (0, ei_push (0, 3) 3, 0, 0)))) (e_T 3 (e_L 3 (2, e_nof, 242, 3)) (e_T 6 (e_L 6 (0, ei_if1 0 18 9, 0, 0)) (e_L 9 (0, ei_load 0 2 10, 0, 0))))) (e_T 14 (e_T 10 (e_L 10 (0, ei_getf eft elay 11 10 13, 0, 0)) (e_T 13 (e_L 13 (0, ei_load 1 0 14, 0, 0)) (e_L 14 (0, ei_ald elay false 15, 0, 0)))) (e_T 15 (e_L 15 (0, ei_goto 19, 0, 0)) (e_T 18 (e_L 18 (0, ei_push (0, (-1)) 19, 0, 0)) (e_L 19 (1, e_nof, 1, 0))))))
set_option maxRecDepth 20000 in
set_option maxHeartbeats 4000000 in
theorem te_241_0_ok : ∀ pc, e_EOq eft cls elay eI n_241 pc (te_241_0 pc) :=
  (e_Tok2
  (e_Tok2
  (e_Tok2
  (e_Lok (ld_iload_n_1 (x_dk dn_241_0_0_ok 0 rfl)))
  (e_Tok2
  (e_Lok (ps_iconst_0 (x_dk dn_241_0_0_ok 1 rfl)))
  (e_Lok (ps_iconst_3 (x_dk dn_241_0_0_ok 2 rfl)))))
  (e_Tok2
  (e_Lok (lk_11_82 ho_241 (x_dk dn_241_0_0_ok 3 rfl)))
  (e_Tok2
  (e_Lok (e_st (I := eI) (er_ifeq (off := 12) (tg := 18) (x_dk dn_241_0_0_ok 4 rfl) (by decide)) nx_if1))
  (e_Lok (ld_aload_n_0 (x_dk dn_241_0_0_ok 5 rfl))))))
  (e_Tok2
  (e_Tok2
  (e_Lok (lk_11_64g ho_241 (x_dk dn_241_0_0_ok 6 rfl)))
  (e_Tok2
  (e_Lok (ld_iload_n_1 (x_dk dn_241_0_0_ok 7 rfl)))
  (e_Lok (sm_iaload (x_dk dn_241_0_0_ok 8 rfl)))))
  (e_Tok2
  (e_Lok (e_st (I := eI) (er_goto (off := 4) (tg := 19) (x_dk dn_241_0_0_ok 9 rfl) (by decide)) nx_goto))
  (e_Tok2
  (e_Lok (ps_iconst_m1 (x_dk dn_241_0_0_ok 10 rfl)))
  (e_Lok (e_rt (I := eI) (k := 1) ⟨(x_dk dn_241_0_0_ok 11 rfl), rfl⟩))))))
def te_241 : Nat → eE := te_241_0
theorem te_241_ok : ∀ pc, e_EOq eft cls elay eI n_241 pc (te_241 pc) := te_241_0_ok
theorem ho_242 : (xm_y n_242).cls = "RobotCellHouse" := rfl
def dn_242_0_0 : List (Nat × Instr × Nat) := [(0, .iload_n 1, 1), (1, .iload_n 0, 1), (2, .if_icmp .gt 12, 3), (5, .iload_n 0, 1), (6, .iload_n 2, 1), (7, .if_icmp .gt 7, 3), (10, .iconst 1, 1), (11, .goto 4, 3), (14, .iconst 0, 1), (15, .ireturn, 1)]
set_option maxRecDepth 20000 in
theorem dn_242_0_0_ok : dn_242_0_0.all (fun q => decide (decode (xm_b n_242) q.1 = .ok (q.2.1, q.2.2))) = true := xa_g_ok (by decide +kernel)
def te_242_0 : Nat → eE := (e_T 6 (e_T 1 (e_T 0 (e_L 0 (0, ei_load 1 0 1, 0, 0)) (e_L 1 (0, ei_load 0 0 2, 0, 0))) (e_T 2 (e_L 2 (0, ei_if2 4 14 5, 0, 0)) (e_T 5 (e_L 5 (0, ei_load 0 0 6, 0, 0)) (e_L 6 (0, ei_load 2 0 7, 0, 0))))) (e_T 10 (e_T 7 (e_L 7 (0, ei_if2 4 14 10, 0, 0)) (e_L 10 (0, ei_push (0, 1) 11, 0, 0))) (e_T 11 (e_L 11 (0, ei_goto 15, 0, 0)) (e_T 14 (e_L 14 (0, ei_push (0, 0) 15, 0, 0)) (e_L 15 (1, e_nof, 4, 0))))))
set_option maxRecDepth 20000 in
set_option maxHeartbeats 4000000 in
theorem te_242_0_ok : ∀ pc, e_EOq eft cls elay eI n_242 pc (te_242_0 pc) :=
  (e_Tok2
  (e_Tok2
  (e_Tok2
  (e_Lok (ld_iload_n_1 (x_dk dn_242_0_0_ok 0 rfl)))
  (e_Lok (ld_iload_n_0 (x_dk dn_242_0_0_ok 1 rfl))))
  (e_Tok2
  (e_Lok (e_st (I := eI) (er_icmpgt (off := 12) (tg := 14) (x_dk dn_242_0_0_ok 2 rfl) (by decide)) nx_if2))
  (e_Tok2
  (e_Lok (ld_iload_n_0 (x_dk dn_242_0_0_ok 3 rfl)))
  (e_Lok (ld_iload_n_2 (x_dk dn_242_0_0_ok 4 rfl))))))
  (e_Tok2
  (e_Tok2
  (e_Lok (e_st (I := eI) (er_icmpgt (off := 7) (tg := 14) (x_dk dn_242_0_0_ok 5 rfl) (by decide)) nx_if2))
  (e_Lok (ps_iconst_1 (x_dk dn_242_0_0_ok 6 rfl))))
  (e_Tok2
  (e_Lok (e_st (I := eI) (er_goto (off := 4) (tg := 15) (x_dk dn_242_0_0_ok 7 rfl) (by decide)) nx_goto))
  (e_Tok2
  (e_Lok (ps_iconst_0 (x_dk dn_242_0_0_ok 8 rfl)))
  (e_Lok (e_rt (I := eI) (k := 4) ⟨(x_dk dn_242_0_0_ok 9 rfl), rfl⟩))))))
def te_242 : Nat → eE := te_242_0
theorem te_242_ok : ∀ pc, e_EOq eft cls elay eI n_242 pc (te_242 pc) := te_242_0_ok
theorem ho_243 : (xm_y n_243).cls = "RobotCellHouse" := rfl
def dn_243_0_0 : List (Nat × Instr × Nat) := [(0, .iload_n 0, 1), (1, .sipush (-16000), 3), (4, .sipush 16000, 3), (7, .invokestatic 82, 3), (10, .ifCond .eq 20, 3), (13, .iload_n 1, 1), (14, .sipush (-16000), 3), (17, .sipush 16000, 3), (20, .invokestatic 82, 3), (23, .ifCond .eq 7, 3), (26, .iconst 1, 1), (27, .goto 4, 3), (30, .iconst 0, 1), (31, .ireturn, 1)]
set_option maxRecDepth 20000 in
theorem dn_243_0_0_ok : dn_243_0_0.all (fun q => decide (decode (xm_b n_243) q.1 = .ok (q.2.1, q.2.2))) = true := xa_g_ok (by decide +kernel)
def te_243_0 : Nat → eE := (e_T 14 (e_T 4 (e_T 0 (e_L 0 (0, ei_load 0 0 1, 0, 0)) (e_T 1 (e_L 1 (0, ei_push (0, (-16000)) 4, 0, 0)) (e_L 4 (0, ei_push (0, 16000) 7, 0, 0)))) (e_T 10 (e_T 7 (e_L 7 (2, e_nof, 242, 3)) (e_L 10 (0, ei_if1 0 30 13, 0, 0))) (e_T 13 (e_L 13 (0, ei_load 1 0 14, 0, 0)) (e_L 14 (0, ei_push (0, (-16000)) 17, 0, 0))))) (e_T 23 (e_T 17 (e_L 17 (0, ei_push (0, 16000) 20, 0, 0)) (e_T 20 (e_L 20 (2, e_nof, 242, 3)) (e_L 23 (0, ei_if1 0 30 26, 0, 0)))) (e_T 27 (e_T 26 (e_L 26 (0, ei_push (0, 1) 27, 0, 0)) (e_L 27 (0, ei_goto 31, 0, 0))) (e_T 30 (e_L 30 (0, ei_push (0, 0) 31, 0, 0)) (e_L 31 (1, e_nof, 4, 0))))))
set_option maxRecDepth 20000 in
set_option maxHeartbeats 4000000 in
theorem te_243_0_ok : ∀ pc, e_EOq eft cls elay eI n_243 pc (te_243_0 pc) :=
  (e_Tok2
  (e_Tok2
  (e_Tok2
  (e_Lok (ld_iload_n_0 (x_dk dn_243_0_0_ok 0 rfl)))
  (e_Tok2
  (e_Lok (ps_sipush_m16000 (x_dk dn_243_0_0_ok 1 rfl)))
  (e_Lok (ps_sipush_16000 (x_dk dn_243_0_0_ok 2 rfl)))))
  (e_Tok2
  (e_Tok2
  (e_Lok (lk_11_82 ho_243 (x_dk dn_243_0_0_ok 3 rfl)))
  (e_Lok (e_st (I := eI) (er_ifeq (off := 20) (tg := 30) (x_dk dn_243_0_0_ok 4 rfl) (by decide)) nx_if1)))
  (e_Tok2
  (e_Lok (ld_iload_n_1 (x_dk dn_243_0_0_ok 5 rfl)))
  (e_Lok (ps_sipush_m16000 (x_dk dn_243_0_0_ok 6 rfl))))))
  (e_Tok2
  (e_Tok2
  (e_Lok (ps_sipush_16000 (x_dk dn_243_0_0_ok 7 rfl)))
  (e_Tok2
  (e_Lok (lk_11_82 ho_243 (x_dk dn_243_0_0_ok 8 rfl)))
  (e_Lok (e_st (I := eI) (er_ifeq (off := 7) (tg := 30) (x_dk dn_243_0_0_ok 9 rfl) (by decide)) nx_if1))))
  (e_Tok2
  (e_Tok2
  (e_Lok (ps_iconst_1 (x_dk dn_243_0_0_ok 10 rfl)))
  (e_Lok (e_st (I := eI) (er_goto (off := 4) (tg := 31) (x_dk dn_243_0_0_ok 11 rfl) (by decide)) nx_goto)))
  (e_Tok2
  (e_Lok (ps_iconst_0 (x_dk dn_243_0_0_ok 12 rfl)))
  (e_Lok (e_rt (I := eI) (k := 4) ⟨(x_dk dn_243_0_0_ok 13 rfl), rfl⟩))))))
def te_243 : Nat → eE := te_243_0
theorem te_243_ok : ∀ pc, e_EOq eft cls elay eI n_243 pc (te_243 pc) := te_243_0_ok
theorem ho_244 : (xm_y n_244).cls = "RobotCellHouse" := rfl
def dn_244_0_0 : List (Nat × Instr × Nat) := [(0, .iload_n 0, 1), (1, .iload_n 1, 1), (2, .invokestatic 138, 3), (5, .ifCond .eq 33, 3), (8, .iload_n 2, 1), (9, .iconst 0, 1), (10, .sipush 16000, 3), (13, .iload_n 0, 1), (14, .isub, 1), (15, .invokestatic 82, 3), (18, .ifCond .eq 20, 3), (21, .iload_n 3, 1), (22, .iconst 0, 1), (23, .sipush 16000, 3), (26, .iload_n 1, 1), (27, .isub, 1), (28, .invokestatic 82, 3), (31, .ifCond .eq 7, 3), (34, .iconst 1, 1), (35, .goto 4, 3), (38, .iconst 0, 1), (39, .ireturn, 1)]
set_option maxRecDepth 20000 in
theorem dn_244_0_0_ok : dn_244_0_0.all (fun q => decide (decode (xm_b n_244) q.1 = .ok (q.2.1, q.2.2))) = true := xa_g_ok (by decide +kernel)
def te_244_0 : Nat → eE := (e_T 18 (e_T 8 (e_T 1 (e_T 0 (e_L 0 (0, ei_load 0 0 1, 0, 0)) (e_L 1 (0, ei_load 1 0 2, 0, 0))) (e_T 2 (e_L 2 (2, e_nof, 243, 2)) (e_T 5 (e_L 5 (0, ei_if1 0 38 8, 0, 0)) (e_L 8 (0, ei_load 2 0 9, 0, 0))))) (e_T 13 (e_T 9 (e_L 9 (0, ei_push (0, 0) 10, 0, 0)) (e_T 10 (e_L 10 (0, ei_push (0, 16000) 13, 0, 0)) (e_L 13 (0, ei_load 0 0 14, 0, 0)))) (e_T 14 (e_L 14 (0, ei_bin eF_sub 15, 0, 0)) (e_T 15 (e_L 15 (2, e_nof, 242, 3)) (e_L 18 (0, ei_if1 0 38 21, 0, 0)))))) (e_T 27 (e_T 22 (e_T 21 (e_L 21 (0, ei_load 3 0 22, 0, 0)) (e_L 22 (0, ei_push (0, 0) 23, 0, 0))) (e_T 23 (e_L 23 (0, ei_push (0, 16000) 26, 0, 0)) (e_T 26 (e_L 26 (0, ei_load 1 0 27, 0, 0)) (e_L 27 (0, ei_bin eF_sub 28, 0, 0))))) (e_T 34 (e_T 28 (e_L 28 (2, e_nof, 242, 3)) (e_T 31 (e_L 31 (0, ei_if1 0 38 34, 0, 0)) (e_L 34 (0, ei_push (0, 1) 35, 0, 0)))) (e_T 35 (e_L 35 (0, ei_goto 39, 0, 0)) (e_T 38 (e_L 38 (0, ei_push (0, 0) 39, 0, 0)) (e_L 39 (1, e_nof, 4, 0)))))))
set_option maxRecDepth 20000 in
set_option maxHeartbeats 4000000 in
theorem te_244_0_ok : ∀ pc, e_EOq eft cls elay eI n_244 pc (te_244_0 pc) :=
  (e_Tok2
  (e_Tok2
  (e_Tok2
  (e_Tok2
  (e_Lok (ld_iload_n_0 (x_dk dn_244_0_0_ok 0 rfl)))
  (e_Lok (ld_iload_n_1 (x_dk dn_244_0_0_ok 1 rfl))))
  (e_Tok2
  (e_Lok (lk_11_138 ho_244 (x_dk dn_244_0_0_ok 2 rfl)))
  (e_Tok2
  (e_Lok (e_st (I := eI) (er_ifeq (off := 33) (tg := 38) (x_dk dn_244_0_0_ok 3 rfl) (by decide)) nx_if1))
  (e_Lok (ld_iload_n_2 (x_dk dn_244_0_0_ok 4 rfl))))))
  (e_Tok2
  (e_Tok2
  (e_Lok (ps_iconst_0 (x_dk dn_244_0_0_ok 5 rfl)))
  (e_Tok2
  (e_Lok (ps_sipush_16000 (x_dk dn_244_0_0_ok 6 rfl)))
  (e_Lok (ld_iload_n_0 (x_dk dn_244_0_0_ok 7 rfl)))))
  (e_Tok2
  (e_Lok (sm_isub (x_dk dn_244_0_0_ok 8 rfl)))
  (e_Tok2
  (e_Lok (lk_11_82 ho_244 (x_dk dn_244_0_0_ok 9 rfl)))
  (e_Lok (e_st (I := eI) (er_ifeq (off := 20) (tg := 38) (x_dk dn_244_0_0_ok 10 rfl) (by decide)) nx_if1))))))
  (e_Tok2
  (e_Tok2
  (e_Tok2
  (e_Lok (ld_iload_n_3 (x_dk dn_244_0_0_ok 11 rfl)))
  (e_Lok (ps_iconst_0 (x_dk dn_244_0_0_ok 12 rfl))))
  (e_Tok2
  (e_Lok (ps_sipush_16000 (x_dk dn_244_0_0_ok 13 rfl)))
  (e_Tok2
  (e_Lok (ld_iload_n_1 (x_dk dn_244_0_0_ok 14 rfl)))
  (e_Lok (sm_isub (x_dk dn_244_0_0_ok 15 rfl))))))
  (e_Tok2
  (e_Tok2
  (e_Lok (lk_11_82 ho_244 (x_dk dn_244_0_0_ok 16 rfl)))
  (e_Tok2
  (e_Lok (e_st (I := eI) (er_ifeq (off := 7) (tg := 38) (x_dk dn_244_0_0_ok 17 rfl) (by decide)) nx_if1))
  (e_Lok (ps_iconst_1 (x_dk dn_244_0_0_ok 18 rfl)))))
  (e_Tok2
  (e_Lok (e_st (I := eI) (er_goto (off := 4) (tg := 39) (x_dk dn_244_0_0_ok 19 rfl) (by decide)) nx_goto))
  (e_Tok2
  (e_Lok (ps_iconst_0 (x_dk dn_244_0_0_ok 20 rfl)))
  (e_Lok (e_rt (I := eI) (k := 4) ⟨(x_dk dn_244_0_0_ok 21 rfl), rfl⟩)))))))
def te_244 : Nat → eE := te_244_0
theorem te_244_ok : ∀ pc, e_EOq eft cls elay eI n_244 pc (te_244 pc) := te_244_0_ok
theorem ho_245 : (xm_y n_245).cls = "RobotCellHouse" := rfl
def dn_245_0_0 : List (Nat × Instr × Nat) := [(0, .iload_n 0, 1), (1, .iconst 0, 1), (2, .bipush 63, 2), (4, .invokestatic 82, 3), (7, .ireturn, 1)]
set_option maxRecDepth 20000 in
theorem dn_245_0_0_ok : dn_245_0_0.all (fun q => decide (decode (xm_b n_245) q.1 = .ok (q.2.1, q.2.2))) = true := xa_g_ok (by decide +kernel)
def te_245_0 : Nat → eE := (e_T 1 (e_T 0 (e_L 0 (0, ei_load 0 0 1, 0, 0)) (e_L 1 (0, ei_push (0, 0) 2, 0, 0))) (e_T 2 (e_L 2 (0, ei_push (0, 63) 4, 0, 0)) (e_T 4 (e_L 4 (2, e_nof, 242, 3)) (e_L 7 (1, e_nof, 4, 0)))))
set_option maxRecDepth 20000 in
set_option maxHeartbeats 4000000 in
theorem te_245_0_ok : ∀ pc, e_EOq eft cls elay eI n_245 pc (te_245_0 pc) :=
  (e_Tok2
  (e_Tok2
  (e_Lok (ld_iload_n_0 (x_dk dn_245_0_0_ok 0 rfl)))
  (e_Lok (ps_iconst_0 (x_dk dn_245_0_0_ok 1 rfl))))
  (e_Tok2
  (e_Lok (ps_bipush_63 (x_dk dn_245_0_0_ok 2 rfl)))
  (e_Tok2
  (e_Lok (lk_11_82 ho_245 (x_dk dn_245_0_0_ok 3 rfl)))
  (e_Lok (e_rt (I := eI) (k := 4) ⟨(x_dk dn_245_0_0_ok 4 rfl), rfl⟩)))))
def te_245 : Nat → eE := te_245_0
theorem te_245_ok : ∀ pc, e_EOq eft cls elay eI n_245 pc (te_245 pc) := te_245_0_ok
theorem ho_246 : (xm_y n_246).cls = "RobotCellHouse" := rfl
def dn_246_0_0 : List (Nat × Instr × Nat) := [(0, .iload_n 1, 1), (1, .iconst 0, 1), (2, .aload_n 0, 1), (3, .getfield 94, 3), (6, .iconst 1, 1), (7, .isub, 1), (8, .invokestatic 82, 3), (11, .ireturn, 1)]
set_option maxRecDepth 20000 in
theorem dn_246_0_0_ok : dn_246_0_0.all (fun q => decide (decode (xm_b n_246) q.1 = .ok (q.2.1, q.2.2))) = true := xa_g_ok (by decide +kernel)
def te_246_0 : Nat → eE := (e_T 3 (e_T 1 (e_T 0 (e_L 0 (0, ei_load 1 0 1, 0, 0)) (e_L 1 (0, ei_push (0, 0) 2, 0, 0))) (e_T 2 (e_L 2 (0, ei_load 0 2 3, 0, 0)) (e_L 3 (0, ei_getf eft elay 11 11 6, 0, 0)))) (e_T 7 (e_T 6 (e_L 6 (0, ei_push (0, 1) 7, 0, 0)) (e_L 7 (0, ei_bin eF_sub 8, 0, 0))) (e_T 8 (e_L 8 (2, e_nof, 242, 3)) (e_L 11 (1, e_nof, 4, 0)))))
set_option maxRecDepth 20000 in
set_option maxHeartbeats 4000000 in
theorem te_246_0_ok : ∀ pc, e_EOq eft cls elay eI n_246 pc (te_246_0 pc) :=
  (e_Tok2
  (e_Tok2
  (e_Tok2
  (e_Lok (ld_iload_n_1 (x_dk dn_246_0_0_ok 0 rfl)))
  (e_Lok (ps_iconst_0 (x_dk dn_246_0_0_ok 1 rfl))))
  (e_Tok2
  (e_Lok (ld_aload_n_0 (x_dk dn_246_0_0_ok 2 rfl)))
  (e_Lok (lk_11_94g ho_246 (x_dk dn_246_0_0_ok 3 rfl)))))
  (e_Tok2
  (e_Tok2
  (e_Lok (ps_iconst_1 (x_dk dn_246_0_0_ok 4 rfl)))
  (e_Lok (sm_isub (x_dk dn_246_0_0_ok 5 rfl))))
  (e_Tok2
  (e_Lok (lk_11_82 ho_246 (x_dk dn_246_0_0_ok 6 rfl)))
  (e_Lok (e_rt (I := eI) (k := 4) ⟨(x_dk dn_246_0_0_ok 7 rfl), rfl⟩)))))
def te_246 : Nat → eE := te_246_0
theorem te_246_ok : ∀ pc, e_EOq eft cls elay eI n_246 pc (te_246 pc) := te_246_0_ok
theorem ho_247 : (xm_y n_247).cls = "RobotCellHouse" := rfl
def dn_247_0_0 : List (Nat × Instr × Nat) := [(0, .aload_n 0, 1), (1, .iload_n 1, 1), (2, .invokevirtual 103, 3), (5, .ifCond .eq 26, 3), (8, .iload_n 2, 1), (9, .iconst 0, 1), (10, .aload_n 0, 1), (11, .getfield 27, 3), (14, .iload_n 1, 1), (15, .aaload, 1), (16, .getfield 112, 3), (19, .iconst 1, 1), (20, .isub, 1), (21, .invokestatic 82, 3), (24, .ifCond .eq 7, 3), (27, .iconst 1, 1), (28, .goto 4, 3), (31, .iconst 0, 1), (32, .ireturn, 1)]
set_option maxRecDepth 20000 in
theorem dn_247_0_0_ok : dn_247_0_0.all (fun q => decide (decode (xm_b n_247) q.1 = .ok (q.2.1, q.2.2))) = true := xa_g_ok (by decide +kernel)
def te_247_0 : Nat → eE := (e_T 14 (e_T 5 (e_T 1 (e_T 0 (e_L 0 (0, ei_load 0 2 1, 0, 0)) (e_L 1 (0, ei_load 1 0 2, 0, 0))) (e_T 2 (e_L 2 (2, e_nof, 246, 2)) (e_L 5 (0, ei_if1 0 31 8, 0, 0)))) (e_T 9 (e_T 8 (e_L 8 (0, ei_load 2 0 9, 0, 0)) (e_L 9 (0, ei_push (0, 0) 10, 0, 0))) (e_T 10 (e_L 10 (0, ei_load 0 2 11, 0, 0)) (e_T 11 (e_L 11 (0, ei_getf eft elay 11 2 14, 0, 0)) (e_L 14 (0, ei_load 1 0 15, 0, 0)))))) (e_T 21 (e_T 16 (e_T 15 (e_L 15 (0, ei_aald elay 16, 0, 0)) (e_L 16 (0, ei_getf eft elay 0 8 19, 0, 0))) (e_T 19 (e_L 19 (0, ei_push (0, 1) 20, 0, 0)) (e_T 20 (e_L 20 (0, ei_bin eF_sub 21, 0, 0)) (e_L 21 (2, e_nof, 242, 3))))) (e_T 27 (e_T 24 (e_L 24 (0, ei_if1 0 31 27, 0, 0)) (e_L 27 (0, ei_push (0, 1) 28, 0, 0))) (e_T 28 (e_L 28 (0, ei_goto 32, 0, 0)) (e_T 31 (e_L 31 (0, ei_push (0, 0) 32, 0, 0)) (e_L 32 (1, e_nof, 4, 0)))))))
set_option maxRecDepth 20000 in
set_option maxHeartbeats 4000000 in
theorem te_247_0_ok : ∀ pc, e_EOq eft cls elay eI n_247 pc (te_247_0 pc) :=
  (e_Tok2
  (e_Tok2
  (e_Tok2
  (e_Tok2
  (e_Lok (ld_aload_n_0 (x_dk dn_247_0_0_ok 0 rfl)))
  (e_Lok (ld_iload_n_1 (x_dk dn_247_0_0_ok 1 rfl))))
  (e_Tok2
  (e_Lok (lk_11_103 ho_247 (x_dk dn_247_0_0_ok 2 rfl)))
  (e_Lok (e_st (I := eI) (er_ifeq (off := 26) (tg := 31) (x_dk dn_247_0_0_ok 3 rfl) (by decide)) nx_if1))))
  (e_Tok2
  (e_Tok2
  (e_Lok (ld_iload_n_2 (x_dk dn_247_0_0_ok 4 rfl)))
  (e_Lok (ps_iconst_0 (x_dk dn_247_0_0_ok 5 rfl))))
  (e_Tok2
  (e_Lok (ld_aload_n_0 (x_dk dn_247_0_0_ok 6 rfl)))
  (e_Tok2
  (e_Lok (lk_11_27g ho_247 (x_dk dn_247_0_0_ok 7 rfl)))
  (e_Lok (ld_iload_n_1 (x_dk dn_247_0_0_ok 8 rfl)))))))
  (e_Tok2
  (e_Tok2
  (e_Tok2
  (e_Lok (e_st (I := eI) (er_aaload (x_dk dn_247_0_0_ok 9 rfl)) nx_aald))
  (e_Lok (lk_11_112g ho_247 (x_dk dn_247_0_0_ok 10 rfl))))
  (e_Tok2
  (e_Lok (ps_iconst_1 (x_dk dn_247_0_0_ok 11 rfl)))
  (e_Tok2
  (e_Lok (sm_isub (x_dk dn_247_0_0_ok 12 rfl)))
  (e_Lok (lk_11_82 ho_247 (x_dk dn_247_0_0_ok 13 rfl))))))
  (e_Tok2
  (e_Tok2
  (e_Lok (e_st (I := eI) (er_ifeq (off := 7) (tg := 31) (x_dk dn_247_0_0_ok 14 rfl) (by decide)) nx_if1))
  (e_Lok (ps_iconst_1 (x_dk dn_247_0_0_ok 15 rfl))))
  (e_Tok2
  (e_Lok (e_st (I := eI) (er_goto (off := 4) (tg := 32) (x_dk dn_247_0_0_ok 16 rfl) (by decide)) nx_goto))
  (e_Tok2
  (e_Lok (ps_iconst_0 (x_dk dn_247_0_0_ok 17 rfl)))
  (e_Lok (e_rt (I := eI) (k := 4) ⟨(x_dk dn_247_0_0_ok 18 rfl), rfl⟩)))))))
def te_247 : Nat → eE := te_247_0
theorem te_247_ok : ∀ pc, e_EOq eft cls elay eI n_247 pc (te_247 pc) := te_247_0_ok
theorem ho_248 : (xm_y n_248).cls = "RobotCellHouse" := rfl
def dn_248_0_0 : List (Nat × Instr × Nat) := [(0, .iload_n 1, 1), (1, .iconst 0, 1), (2, .aload_n 0, 1), (3, .getfield 37, 3), (6, .getfield 167, 3), (9, .iconst 1, 1), (10, .isub, 1), (11, .invokestatic 82, 3), (14, .ireturn, 1)]
set_option maxRecDepth 20000 in
theorem dn_248_0_0_ok : dn_248_0_0.all (fun q => decide (decode (xm_b n_248) q.1 = .ok (q.2.1, q.2.2))) = true := xa_g_ok (by decide +kernel)
def te_248_0 : Nat → eE := (e_T 3 (e_T 1 (e_T 0 (e_L 0 (0, ei_load 1 0 1, 0, 0)) (e_L 1 (0, ei_push (0, 0) 2, 0, 0))) (e_T 2 (e_L 2 (0, ei_load 0 2 3, 0, 0)) (e_L 3 (0, ei_getf eft elay 11 4 6, 0, 0)))) (e_T 9 (e_T 6 (e_L 6 (0, ei_getf eft elay 4 0 9, 0, 0)) (e_L 9 (0, ei_push (0, 1) 10, 0, 0))) (e_T 10 (e_L 10 (0, ei_bin eF_sub 11, 0, 0)) (e_T 11 (e_L 11 (2, e_nof, 242, 3)) (e_L 14 (1, e_nof, 4, 0))))))
set_option maxRecDepth 20000 in
set_option maxHeartbeats 4000000 in
theorem te_248_0_ok : ∀ pc, e_EOq eft cls elay eI n_248 pc (te_248_0 pc) :=
  (e_Tok2
  (e_Tok2
  (e_Tok2
  (e_Lok (ld_iload_n_1 (x_dk dn_248_0_0_ok 0 rfl)))
  (e_Lok (ps_iconst_0 (x_dk dn_248_0_0_ok 1 rfl))))
  (e_Tok2
  (e_Lok (ld_aload_n_0 (x_dk dn_248_0_0_ok 2 rfl)))
  (e_Lok (lk_11_37g ho_248 (x_dk dn_248_0_0_ok 3 rfl)))))
  (e_Tok2
  (e_Tok2
  (e_Lok (lk_11_167g ho_248 (x_dk dn_248_0_0_ok 4 rfl)))
  (e_Lok (ps_iconst_1 (x_dk dn_248_0_0_ok 5 rfl))))
  (e_Tok2
  (e_Lok (sm_isub (x_dk dn_248_0_0_ok 6 rfl)))
  (e_Tok2
  (e_Lok (lk_11_82 ho_248 (x_dk dn_248_0_0_ok 7 rfl)))
  (e_Lok (e_rt (I := eI) (k := 4) ⟨(x_dk dn_248_0_0_ok 8 rfl), rfl⟩))))))
def te_248 : Nat → eE := te_248_0
theorem te_248_ok : ∀ pc, e_EOq eft cls elay eI n_248 pc (te_248 pc) := te_248_0_ok
theorem ho_250 : (xm_y n_250).cls = "RobotCellHouse" := rfl
def dn_250_0_0 : List (Nat × Instr × Nat) := [(0, .iload_n 0, 1), (1, .sipush 1024, 3), (4, .iadd, 1), (5, .invokestatic 410, 3), (8, .ireturn, 1)]
set_option maxRecDepth 20000 in
theorem dn_250_0_0_ok : dn_250_0_0.all (fun q => decide (decode (xm_b n_250) q.1 = .ok (q.2.1, q.2.2))) = true := xa_g_ok (by decide +kernel)
def te_250_0 : Nat → eE := (e_T 1 (e_T 0 (e_L 0 (0, ei_load 0 0 1, 0, 0)) (e_L 1 (0, ei_push (0, 1024) 4, 0, 0))) (e_T 4 (e_L 4 (0, ei_bin eF_add 5, 0, 0)) (e_T 5 (e_L 5 (2, e_nof, 249, 1)) (e_L 8 (1, e_nof, 1, 0)))))
set_option maxRecDepth 20000 in
set_option maxHeartbeats 4000000 in
theorem te_250_0_ok : ∀ pc, e_EOq eft cls elay eI n_250 pc (te_250_0 pc) :=
  (e_Tok2
  (e_Tok2
  (e_Lok (ld_iload_n_0 (x_dk dn_250_0_0_ok 0 rfl)))
  (e_Lok (ps_sipush_1024 (x_dk dn_250_0_0_ok 1 rfl))))
  (e_Tok2
  (e_Lok (sm_iadd (x_dk dn_250_0_0_ok 2 rfl)))
  (e_Tok2
  (e_Lok (lk_11_410 ho_250 (x_dk dn_250_0_0_ok 3 rfl)))
  (e_Lok (e_rt (I := eI) (k := 1) ⟨(x_dk dn_250_0_0_ok 4 rfl), rfl⟩)))))
def te_250 : Nat → eE := te_250_0
theorem te_250_ok : ∀ pc, e_EOq eft cls elay eI n_250 pc (te_250 pc) := te_250_0_ok
theorem ho_251 : (xm_y n_251).cls = "RobotCellHouse" := rfl
def dn_251_0_0 : List (Nat × Instr × Nat) := [(0, .aload_n 0, 1), (1, .iconst 0, 1), (2, .putfield 94, 3), (5, .aload_n 0, 1), (6, .iconst 0, 1), (7, .putfield 246, 3), (10, .aload_n 0, 1), (11, .iconst 0, 1), (12, .putfield 91, 3), (15, .iconst 0, 1), (16, .istore_n 1, 1), (17, .iload_n 1, 1), (18, .iconst 4, 1), (19, .if_icmp .ge 22, 3), (22, .aload_n 0, 1), (23, .getfield 27, 3), (26, .iload_n 1, 1), (27, .aaload, 1), (28, .iconst 0, 1), (29, .iconst 0, 1), (30, .iconst 0, 1), (31, .iconst 0, 1), (32, .invokevirtual 97, 3), (35, .iinc 1 1, 3), (38, .goto (-21), 3)]
set_option maxRecDepth 20000 in
theorem dn_251_0_0_ok : dn_251_0_0.all (fun q => decide (decode (xm_b n_251) q.1 = .ok (q.2.1, q.2.2))) = true := xa_g_ok (by decide +kernel)
def dn_251_0_1 : List (Nat × Instr × Nat) := [(41, .aload_n 0, 1), (42, .getfield 46, 3), (45, .iconst 0, 1), (46, .putfield 149, 3), (49, .aload_n 0, 1), (50, .getfield 46, 3), (53, .iconst 0, 1), (54, .putfield 198, 3), (57, .aload_n 0, 1), (58, .getfield 32, 3), (61, .invokevirtual 413, 3), (64, .aload_n 0, 1), (65, .getfield 37, 3), (68, .iconst 0, 1), (69, .putfield 167, 3), (72, .aload_n 0, 1), (73, .getfield 37, 3), (76, .iconst 0, 1), (77, .putfield 371, 3), (80, .aload_n 0, 1), (81, .getfield 42, 3), (84, .invokevirtual 414, 3), (87, .aload_n 0, 1), (88, .getfield 53, 3), (91, .iconst 0, 1)]
set_option maxRecDepth 20000 in
theorem dn_251_0_1_ok : dn_251_0_1.all (fun q => decide (decode (xm_b n_251) q.1 = .ok (q.2.1, q.2.2))) = true := xa_g_ok (by decide +kernel)
def dn_251_0_2 : List (Nat × Instr × Nat) := [(92, .putfield 293, 3), (95, .aload_n 0, 1), (96, .getfield 64, 3), (99, .iconst 0, 1), (100, .invokestatic 415, 3), (103, .aload_n 0, 1), (104, .invokevirtual 249, 3), (107, .return_, 1)]
set_option maxRecDepth 20000 in
theorem dn_251_0_2_ok : dn_251_0_2.all (fun q => decide (decode (xm_b n_251) q.1 = .ok (q.2.1, q.2.2))) = true := xa_g_ok (by decide +kernel)
def te_251_0 : Nat → eE := (e_T 19 (e_T 10 (e_T 2 (e_T 0 (e_L 0 (0, ei_load 0 2 1, 0, 0)) (e_T 1 (e_L 1 (0, ei_push (0, 0) 2, 0, 0)) (e_L 2 (0, ei_putf eft elay 11 11 0 5, 0, 0)))) (e_T 6 (e_T 5 (e_L 5 (0, ei_load 0 2 6, 0, 0)) (e_L 6 (0, ei_push (0, 0) 7, 0, 0))) (e_T 7 (e_L 7 (0, ei_putf eft elay 11 12 0 10, 0, 0)) (e_L 10 (0, ei_load 0 2 11, 0, 0))))) (e_T 15 (e_T 11 (e_L 11 (0, ei_push (0, 0) 12, 0, 0)) (e_T 12 (e_L 12 (0, ei_putf eft elay 11 13 1 15, 0, 0)) (e_L 15 (0, ei_push (0, 0) 16, 0, 0)))) (e_T 17 (e_T 16 (e_L 16 (0, ei_stor 1 0 17, 0, 0)) (e_L 17 (0, ei_load 1 0 18, 0, 0))) (e_T 18 (e_L 18 (0, ei_push (0, 4) 19, 0, 0)) (e_L 19 (0, ei_if2 3 41 22, 0, 0)))))) (e_T 30 (e_T 26 (e_T 22 (e_L 22 (0, ei_load 0 2 23, 0, 0)) (e_T 23 (e_L 23 (0, ei_getf eft elay 11 2 26, 0, 0)) (e_L 26 (0, ei_load 1 0 27, 0, 0)))) (e_T 28 (e_T 27 (e_L 27 (0, ei_aald elay 28, 0, 0)) (e_L 28 (0, ei_push (0, 0) 29, 0, 0))) (e_T 29 (e_L 29 (0, ei_push (0, 0) 30, 0, 0)) (e_L 30 (0, ei_push (0, 0) 31, 0, 0))))) (e_T 38 (e_T 32 (e_T 31 (e_L 31 (0, ei_push (0, 0) 32, 0, 0)) (e_L 32 (2, e_nof, 1, 5))) (e_T 35 (e_L 35 (0, ei_inc 1 1 38, 0, 0)) (e_L 38 (0, ei_goto 17, 0, 0)))) (e_T 42 (e_T 41 (e_L 41 (0, ei_load 0 2 42, 0, 0)) (e_L 42 (0, ei_getf eft elay 11 6 45, 0, 0))) (e_T 45 (e_L 45 (0, ei_push (0, 0) 46, 0, 0)) (e_L 46 (0, ei_putf eft elay 9 0 0 49, 0, 0)))))))
set_option maxRecDepth 20000 in
set_option maxHeartbeats 4000000 in
theorem te_251_0_ok : ∀ pc, e_EOq eft cls elay eI n_251 pc (te_251_0 pc) :=
  (e_Tok2
  (e_Tok2
  (e_Tok2
  (e_Tok2
  (e_Lok (ld_aload_n_0 (x_dk dn_251_0_0_ok 0 rfl)))
  (e_Tok2
  (e_Lok (ps_iconst_0 (x_dk dn_251_0_0_ok 1 rfl)))
  (e_Lok (lk_11_94p ho_251 (x_dk dn_251_0_0_ok 2 rfl)))))
  (e_Tok2
  (e_Tok2
  (e_Lok (ld_aload_n_0 (x_dk dn_251_0_0_ok 3 rfl)))
  (e_Lok (ps_iconst_0 (x_dk dn_251_0_0_ok 4 rfl))))
  (e_Tok2
  (e_Lok (lk_11_246p ho_251 (x_dk dn_251_0_0_ok 5 rfl)))
  (e_Lok (ld_aload_n_0 (x_dk dn_251_0_0_ok 6 rfl))))))
  (e_Tok2
  (e_Tok2
  (e_Lok (ps_iconst_0 (x_dk dn_251_0_0_ok 7 rfl)))
  (e_Tok2
  (e_Lok (lk_11_91p ho_251 (x_dk dn_251_0_0_ok 8 rfl)))
  (e_Lok (ps_iconst_0 (x_dk dn_251_0_0_ok 9 rfl)))))
  (e_Tok2
  (e_Tok2
  (e_Lok (e_st (I := eI) (er_istore_n (i := 1) (x_dk dn_251_0_0_ok 10 rfl) (by decide +kernel)) nx_stor))
  (e_Lok (ld_iload_n_1 (x_dk dn_251_0_0_ok 11 rfl))))
  (e_Tok2
  (e_Lok (ps_iconst_4 (x_dk dn_251_0_0_ok 12 rfl)))
  (e_Lok (e_st (I := eI) (er_icmpge (off := 22) (tg := 41) (x_dk dn_251_0_0_ok 13 rfl) (by decide)) nx_if2))))))
  (e_Tok2
  (e_Tok2
  (e_Tok2
  (e_Lok (ld_aload_n_0 (x_dk dn_251_0_0_ok 14 rfl)))
  (e_Tok2
  (e_Lok (lk_11_27g ho_251 (x_dk dn_251_0_0_ok 15 rfl)))
  (e_Lok (ld_iload_n_1 (x_dk dn_251_0_0_ok 16 rfl)))))
  (e_Tok2
  (e_Tok2
  (e_Lok (e_st (I := eI) (er_aaload (x_dk dn_251_0_0_ok 17 rfl)) nx_aald))
  (e_Lok (ps_iconst_0 (x_dk dn_251_0_0_ok 18 rfl))))
  (e_Tok2
  (e_Lok (ps_iconst_0 (x_dk dn_251_0_0_ok 19 rfl)))
  (e_Lok (ps_iconst_0 (x_dk dn_251_0_0_ok 20 rfl))))))
  (e_Tok2
  (e_Tok2
  (e_Tok2
  (e_Lok (ps_iconst_0 (x_dk dn_251_0_0_ok 21 rfl)))
  (e_Lok (lk_11_97 ho_251 (x_dk dn_251_0_0_ok 22 rfl))))
  (e_Tok2
  (e_Lok (e_st (I := eI) (er_iinc (i := 1) (n := 1) (x_dk dn_251_0_0_ok 23 rfl) (by decide +kernel) (by decide)) nx_inc))
  (e_Lok (e_st (I := eI) (er_goto (off := (-21)) (tg := 17) (x_dk dn_251_0_0_ok 24 rfl) (by decide)) nx_goto))))
  (e_Tok2
  (e_Tok2
  (e_Lok (ld_aload_n_0 (x_dk dn_251_0_1_ok 0 rfl)))
  (e_Lok (lk_11_46g ho_251 (x_dk dn_251_0_1_ok 1 rfl))))
  (e_Tok2
  (e_Lok (ps_iconst_0 (x_dk dn_251_0_1_ok 2 rfl)))
  (e_Lok (lk_11_149p ho_251 (x_dk dn_251_0_1_ok 3 rfl))))))))
def te_251_29 : Nat → eE := (e_T 76 (e_T 61 (e_T 53 (e_T 49 (e_L 49 (0, ei_load 0 2 50, 0, 0)) (e_T 50 (e_L 50 (0, ei_getf eft elay 11 6 53, 0, 0)) (e_L 53 (0, ei_push (0, 0) 54, 0, 0)))) (e_T 57 (e_T 54 (e_L 54 (0, ei_putf eft elay 9 1 0 57, 0, 0)) (e_L 57 (0, ei_load 0 2 58, 0, 0))) (e_T 58 (e_L 58 (0, ei_getf eft elay 11 3 61, 0, 0)) (e_L 61 (2, e_nof, 109, 1))))) (e_T 68 (e_T 64 (e_L 64 (0, ei_load 0 2 65, 0, 0)) (e_T 65 (e_L 65 (0, ei_getf eft elay 11 4 68, 0, 0)) (e_L 68 (0, ei_push (0, 0) 69, 0, 0)))) (e_T 72 (e_T 69 (e_L 69 (0, ei_putf eft elay 4 0 0 72, 0, 0)) (e_L 72 (0, ei_load 0 2 73, 0, 0))) (e_T 73 (e_L 73 (0, ei_getf eft elay 11 4 76, 0, 0)) (e_L 76 (0, ei_push (0, 0) 77, 0, 0)))))) (e_T 91 (e_T 81 (e_T 77 (e_L 77 (0, ei_putf eft elay 4 1 0 80, 0, 0)) (e_T 80 (e_L 80 (0, ei_load 0 2 81, 0, 0)) (e_L 81 (0, ei_getf eft elay 11 5 84, 0, 0)))) (e_T 87 (e_T 84 (e_L 84 (2, e_nof, 25, 1)) (e_L 87 (0, ei_load 0 2 88, 0, 0))) (e_T 88 (e_L 88 (0, ei_getf eft elay 11 7 91, 0, 0)) (e_L 91 (0, ei_push (0, 0) 92, 0, 0))))) (e_T 99 (e_T 95 (e_T 92 (e_L 92 (0, ei_putf eft elay 6 0 0 95, 0, 0)) (e_L 95 (0, ei_load 0 2 96, 0, 0))) (e_T 96 (e_L 96 (0, ei_getf eft elay 11 10 99, 0, 0)) (e_L 99 (0, ei_push (0, 0) 100, 0, 0)))) (e_T 103 (e_T 100 (e_L 100 (2, e_nof, 452, 2)) (e_L 103 (0, ei_load 0 2 104, 0, 0))) (e_T 104 (e_L 104 (2, e_nof, 252, 1)) (e_L 107 (1, e_nof, 0, 0)))))))
set_option maxRecDepth 20000 in
set_option maxHeartbeats 4000000 in
theorem te_251_29_ok : ∀ pc, e_EOq eft cls elay eI n_251 pc (te_251_29 pc) :=
  (e_Tok2
  (e_Tok2
  (e_Tok2
  (e_Tok2
  (e_Lok (ld_aload_n_0 (x_dk dn_251_0_1_ok 4 rfl)))
  (e_Tok2
  (e_Lok (lk_11_46g ho_251 (x_dk dn_251_0_1_ok 5 rfl)))
  (e_Lok (ps_iconst_0 (x_dk dn_251_0_1_ok 6 rfl)))))
  (e_Tok2
  (e_Tok2
  (e_Lok (lk_11_198p ho_251 (x_dk dn_251_0_1_ok 7 rfl)))
  (e_Lok (ld_aload_n_0 (x_dk dn_251_0_1_ok 8 rfl))))
  (e_Tok2
  (e_Lok (lk_11_32g ho_251 (x_dk dn_251_0_1_ok 9 rfl)))
  (e_Lok (lk_11_413 ho_251 (x_dk dn_251_0_1_ok 10 rfl))))))
  (e_Tok2
  (e_Tok2
  (e_Lok (ld_aload_n_0 (x_dk dn_251_0_1_ok 11 rfl)))
  (e_Tok2
  (e_Lok (lk_11_37g ho_251 (x_dk dn_251_0_1_ok 12 rfl)))
  (e_Lok (ps_iconst_0 (x_dk dn_251_0_1_ok 13 rfl)))))
  (e_Tok2
  (e_Tok2
  (e_Lok (lk_11_167p ho_251 (x_dk dn_251_0_1_ok 14 rfl)))
  (e_Lok (ld_aload_n_0 (x_dk dn_251_0_1_ok 15 rfl))))
  (e_Tok2
  (e_Lok (lk_11_37g ho_251 (x_dk dn_251_0_1_ok 16 rfl)))
  (e_Lok (ps_iconst_0 (x_dk dn_251_0_1_ok 17 rfl)))))))
  (e_Tok2
  (e_Tok2
  (e_Tok2
  (e_Lok (lk_11_371p ho_251 (x_dk dn_251_0_1_ok 18 rfl)))
  (e_Tok2
  (e_Lok (ld_aload_n_0 (x_dk dn_251_0_1_ok 19 rfl)))
  (e_Lok (lk_11_42g ho_251 (x_dk dn_251_0_1_ok 20 rfl)))))
  (e_Tok2
  (e_Tok2
  (e_Lok (lk_11_414 ho_251 (x_dk dn_251_0_1_ok 21 rfl)))
  (e_Lok (ld_aload_n_0 (x_dk dn_251_0_1_ok 22 rfl))))
  (e_Tok2
  (e_Lok (lk_11_53g ho_251 (x_dk dn_251_0_1_ok 23 rfl)))
  (e_Lok (ps_iconst_0 (x_dk dn_251_0_1_ok 24 rfl))))))
  (e_Tok2
  (e_Tok2
  (e_Tok2
  (e_Lok (lk_11_293p ho_251 (x_dk dn_251_0_2_ok 0 rfl)))
  (e_Lok (ld_aload_n_0 (x_dk dn_251_0_2_ok 1 rfl))))
  (e_Tok2
  (e_Lok (lk_11_64g ho_251 (x_dk dn_251_0_2_ok 2 rfl)))
  (e_Lok (ps_iconst_0 (x_dk dn_251_0_2_ok 3 rfl)))))
  (e_Tok2
  (e_Tok2
  (e_Lok (lk_11_415 ho_251 (x_dk dn_251_0_2_ok 4 rfl)))
  (e_Lok (ld_aload_n_0 (x_dk dn_251_0_2_ok 5 rfl))))
  (e_Tok2
  (e_Lok (lk_11_249 ho_251 (x_dk dn_251_0_2_ok 6 rfl)))
  (e_Lok (e_rt (I := eI) (k := 0) ⟨(x_dk dn_251_0_2_ok 7 rfl), rfl⟩)))))))
def te_251 : Nat → eE := (e_T 46 te_251_0 te_251_29)
theorem te_251_ok : ∀ pc, e_EOq eft cls elay eI n_251 pc (te_251 pc) := (e_Tok2 (te_251_0_ok) (te_251_29_ok))
theorem ho_252 : (xm_y n_252).cls = "RobotCellHouse" := rfl
def dn_252_0_0 : List (Nat × Instr × Nat) := [(0, .iconst 0, 1), (1, .istore_n 1, 1), (2, .iload_n 1, 1), (3, .iconst 4, 1), (4, .if_icmp .ge 18, 3), (7, .aload_n 0, 1), (8, .getfield 27, 3), (11, .iload_n 1, 1), (12, .aaload, 1), (13, .invokevirtual 421, 3), (16, .iinc 1 1, 3), (19, .goto (-17), 3), (22, .aload_n 0, 1), (23, .getfield 32, 3), (26, .invokevirtual 422, 3), (29, .aload_n 0, 1), (30, .getfield 37, 3), (33, .invokevirtual 423, 3), (36, .aload_n 0, 1), (37, .getfield 42, 3), (40, .invokevirtual 424, 3), (43, .aload_n 0, 1), (44, .getfield 19, 3), (47, .invokevirtual 425, 3), (50, .aload_n 0, 1)]
set_option maxRecDepth 20000 in
theorem dn_252_0_0_ok : dn_252_0_0.all (fun q => decide (decode (xm_b n_252) q.1 = .ok (q.2.1, q.2.2))) = true := xa_g_ok (by decide +kernel)
def dn_252_0_1 : List (Nat × Instr × Nat) := [(51, .getfield 57, 3), (54, .iconst 0, 1), (55, .invokestatic 415, 3), (58, .return_, 1)]
set_option maxRecDepth 20000 in
theorem dn_252_0_1_ok : dn_252_0_1.all (fun q => decide (decode (xm_b n_252) q.1 = .ok (q.2.1, q.2.2))) = true := xa_g_ok (by decide +kernel)
def te_252_0 : Nat → eE := (e_T 23 (e_T 8 (e_T 2 (e_T 0 (e_L 0 (0, ei_push (0, 0) 1, 0, 0)) (e_T 1 (e_L 1 (0, ei_stor 1 0 2, 0, 0)) (e_L 2 (0, ei_load 1 0 3, 0, 0)))) (e_T 4 (e_T 3 (e_L 3 (0, ei_push (0, 4) 4, 0, 0)) (e_L 4 (0, ei_if2 3 22 7, 0, 0))) (e_T 7 (e_L 7 (0, ei_load 0 2 8, 0, 0)) (e_L 8 (0, ei_getf eft elay 11 2 11, 0, 0))))) (e_T 13 (e_T 11 (e_L 11 (0, ei_load 1 0 12, 0, 0)) (e_T 12 (e_L 12 (0, ei_aald elay 13, 0, 0)) (e_L 13 (2, e_nof, 3, 1)))) (e_T 19 (e_T 16 (e_L 16 (0, ei_inc 1 1 19, 0, 0)) (e_L 19 (0, ei_goto 2, 0, 0))) (e_T 22 (e_L 22 (0, ei_load 0 2 23, 0, 0)) (e_L 23 (0, ei_getf eft elay 11 3 26, 0, 0)))))) (e_T 40 (e_T 30 (e_T 26 (e_L 26 (2, e_nof, 110, 1)) (e_T 29 (e_L 29 (0, ei_load 0 2 30, 0, 0)) (e_L 30 (0, ei_getf eft elay 11 4 33, 0, 0)))) (e_T 36 (e_T 33 (e_L 33 (2, e_nof, 77, 1)) (e_L 36 (0, ei_load 0 2 37, 0, 0))) (e_T 37 (e_L 37 (0, ei_getf eft elay 11 5 40, 0, 0)) (e_L 40 (2, e_nof, 26, 1))))) (e_T 50 (e_T 44 (e_T 43 (e_L 43 (0, ei_load 0 2 44, 0, 0)) (e_L 44 (0, ei_getf eft elay 11 1 47, 0, 0))) (e_T 47 (e_L 47 (2, e_nof, 35, 1)) (e_L 50 (0, ei_load 0 2 51, 0, 0)))) (e_T 54 (e_T 51 (e_L 51 (0, ei_getf eft elay 11 8 54, 0, 0)) (e_L 54 (0, ei_push (0, 0) 55, 0, 0))) (e_T 55 (e_L 55 (2, e_nof, 452, 2)) (e_L 58 (1, e_nof, 0, 0)))))))
set_option maxRecDepth 20000 in
set_option maxHeartbeats 4000000 in
theorem te_252_0_ok : ∀ pc, e_EOq eft cls elay eI n_252 pc (te_252_0 pc) :=
  (e_Tok2
  (e_Tok2
  (e_Tok2
  (e_Tok2
  (e_Lok (ps_iconst_0 (x_dk dn_252_0_0_ok 0 rfl)))
  (e_Tok2
  (e_Lok (e_st (I := eI) (er_istore_n (i := 1) (x_dk dn_252_0_0_ok 1 rfl) (by decide +kernel)) nx_stor))
  (e_Lok (ld_iload_n_1 (x_dk dn_252_0_0_ok 2 rfl)))))
  (e_Tok2
  (e_Tok2
  (e_Lok (ps_iconst_4 (x_dk dn_252_0_0_ok 3 rfl)))
  (e_Lok (e_st (I := eI) (er_icmpge (off := 18) (tg := 22) (x_dk dn_252_0_0_ok 4 rfl) (by decide)) nx_if2)))
  (e_Tok2
  (e_Lok (ld_aload_n_0 (x_dk dn_252_0_0_ok 5 rfl)))
  (e_Lok (lk_11_27g ho_252 (x_dk dn_252_0_0_ok 6 rfl))))))
  (e_Tok2
  (e_Tok2
  (e_Lok (ld_iload_n_1 (x_dk dn_252_0_0_ok 7 rfl)))
  (e_Tok2
  (e_Lok (e_st (I := eI) (er_aaload (x_dk dn_252_0_0_ok 8 rfl)) nx_aald))
  (e_Lok (lk_11_421 ho_252 (x_dk dn_252_0_0_ok 9 rfl)))))
  (e_Tok2
  (e_Tok2
  (e_Lok (e_st (I := eI) (er_iinc (i := 1) (n := 1) (x_dk dn_252_0_0_ok 10 rfl) (by decide +kernel) (by decide)) nx_inc))
  (e_Lok (e_st (I := eI) (er_goto (off := (-17)) (tg := 2) (x_dk dn_252_0_0_ok 11 rfl) (by decide)) nx_goto)))
  (e_Tok2
  (e_Lok (ld_aload_n_0 (x_dk dn_252_0_0_ok 12 rfl)))
  (e_Lok (lk_11_32g ho_252 (x_dk dn_252_0_0_ok 13 rfl)))))))
  (e_Tok2
  (e_Tok2
  (e_Tok2
  (e_Lok (lk_11_422 ho_252 (x_dk dn_252_0_0_ok 14 rfl)))
  (e_Tok2
  (e_Lok (ld_aload_n_0 (x_dk dn_252_0_0_ok 15 rfl)))
  (e_Lok (lk_11_37g ho_252 (x_dk dn_252_0_0_ok 16 rfl)))))
  (e_Tok2
  (e_Tok2
  (e_Lok (lk_11_423 ho_252 (x_dk dn_252_0_0_ok 17 rfl)))
  (e_Lok (ld_aload_n_0 (x_dk dn_252_0_0_ok 18 rfl))))
  (e_Tok2
  (e_Lok (lk_11_42g ho_252 (x_dk dn_252_0_0_ok 19 rfl)))
  (e_Lok (lk_11_424 ho_252 (x_dk dn_252_0_0_ok 20 rfl))))))
  (e_Tok2
  (e_Tok2
  (e_Tok2
  (e_Lok (ld_aload_n_0 (x_dk dn_252_0_0_ok 21 rfl)))
  (e_Lok (lk_11_19g ho_252 (x_dk dn_252_0_0_ok 22 rfl))))
  (e_Tok2
  (e_Lok (lk_11_425 ho_252 (x_dk dn_252_0_0_ok 23 rfl)))
  (e_Lok (ld_aload_n_0 (x_dk dn_252_0_0_ok 24 rfl)))))
  (e_Tok2
  (e_Tok2
  (e_Lok (lk_11_57g ho_252 (x_dk dn_252_0_1_ok 0 rfl)))
  (e_Lok (ps_iconst_0 (x_dk dn_252_0_1_ok 1 rfl))))
  (e_Tok2
  (e_Lok (lk_11_415 ho_252 (x_dk dn_252_0_1_ok 2 rfl)))
  (e_Lok (e_rt (I := eI) (k := 0) ⟨(x_dk dn_252_0_1_ok 3 rfl), rfl⟩)))))))
def te_252 : Nat → eE := te_252_0
theorem te_252_ok : ∀ pc, e_EOq eft cls elay eI n_252 pc (te_252 pc) := te_252_0_ok
theorem ho_253 : (xm_y n_253).cls = "RobotCellHouse" := rfl
def dn_253_0_0 : List (Nat × Instr × Nat) := [(0, .aload_n 0, 1), (1, .getfield 246, 3), (4, .sipush 2000, 3), (7, .if_icmp .ge 7, 3), (10, .iconst 1, 1), (11, .goto 4, 3), (14, .iconst 0, 1), (15, .ireturn, 1)]
set_option maxRecDepth 20000 in
theorem dn_253_0_0_ok : dn_253_0_0.all (fun q => decide (decode (xm_b n_253) q.1 = .ok (q.2.1, q.2.2))) = true := xa_g_ok (by decide +kernel)
def te_253_0 : Nat → eE := (e_T 7 (e_T 1 (e_T 0 (e_L 0 (0, ei_load 0 2 1, 0, 0)) (e_L 1 (0, ei_getf eft elay 11 12 4, 0, 0))) (e_T 4 (e_L 4 (0, ei_push (0, 2000) 7, 0, 0)) (e_L 7 (0, ei_if2 3 14 10, 0, 0)))) (e_T 11 (e_T 10 (e_L 10 (0, ei_push (0, 1) 11, 0, 0)) (e_L 11 (0, ei_goto 15, 0, 0))) (e_T 14 (e_L 14 (0, ei_push (0, 0) 15, 0, 0)) (e_L 15 (1, e_nof, 4, 0)))))
set_option maxRecDepth 20000 in
set_option maxHeartbeats 4000000 in
theorem te_253_0_ok : ∀ pc, e_EOq eft cls elay eI n_253 pc (te_253_0 pc) :=
  (e_Tok2
  (e_Tok2
  (e_Tok2
  (e_Lok (ld_aload_n_0 (x_dk dn_253_0_0_ok 0 rfl)))
  (e_Lok (lk_11_246g ho_253 (x_dk dn_253_0_0_ok 1 rfl))))
  (e_Tok2
  (e_Lok (ps_sipush_2000 (x_dk dn_253_0_0_ok 2 rfl)))
  (e_Lok (e_st (I := eI) (er_icmpge (off := 7) (tg := 14) (x_dk dn_253_0_0_ok 3 rfl) (by decide)) nx_if2))))
  (e_Tok2
  (e_Tok2
  (e_Lok (ps_iconst_1 (x_dk dn_253_0_0_ok 4 rfl)))
  (e_Lok (e_st (I := eI) (er_goto (off := 4) (tg := 15) (x_dk dn_253_0_0_ok 5 rfl) (by decide)) nx_goto)))
  (e_Tok2
  (e_Lok (ps_iconst_0 (x_dk dn_253_0_0_ok 6 rfl)))
  (e_Lok (e_rt (I := eI) (k := 4) ⟨(x_dk dn_253_0_0_ok 7 rfl), rfl⟩)))))
def te_253 : Nat → eE := te_253_0
theorem te_253_ok : ∀ pc, e_EOq eft cls elay eI n_253 pc (te_253 pc) := te_253_0_ok
theorem ho_254 : (xm_y n_254).cls = "RobotCellHouse" := rfl
def dn_254_0_0 : List (Nat × Instr × Nat) := [(0, .aload_n 0, 1), (1, .getfield 246, 3), (4, .iconst 4, 1), (5, .imul, 1), (6, .istore 5, 2), (8, .aload_n 0, 1), (9, .getfield 61, 3), (12, .iload 5, 2), (14, .iload_n 1, 1), (15, .iastore, 1), (16, .aload_n 0, 1), (17, .getfield 61, 3), (20, .iload 5, 2), (22, .iconst 1, 1), (23, .iadd, 1), (24, .iload_n 2, 1), (25, .iastore, 1), (26, .aload_n 0, 1), (27, .getfield 61, 3), (30, .iload 5, 2), (32, .iconst 2, 1), (33, .iadd, 1), (34, .iload_n 3, 1), (35, .iastore, 1), (36, .aload_n 0, 1)]
set_option maxRecDepth 20000 in
theorem dn_254_0_0_ok : dn_254_0_0.all (fun q => decide (decode (xm_b n_254) q.1 = .ok (q.2.1, q.2.2))) = true := xa_g_ok (by decide +kernel)
def dn_254_0_1 : List (Nat × Instr × Nat) := [(37, .getfield 61, 3), (40, .iload 5, 2), (42, .iconst 3, 1), (43, .iadd, 1), (44, .iload 4, 2), (46, .iastore, 1), (47, .aload_n 0, 1), (48, .dup, 1), (49, .getfield 246, 3), (52, .iconst 1, 1), (53, .iadd, 1), (54, .putfield 246, 3), (57, .return_, 1)]
set_option maxRecDepth 20000 in
theorem dn_254_0_1_ok : dn_254_0_1.all (fun q => decide (decode (xm_b n_254) q.1 = .ok (q.2.1, q.2.2))) = true := xa_g_ok (by decide +kernel)
def te_254_0 : Nat → eE := (e_T 27 (e_T 14 (e_T 5 (e_T 1 (e_T 0 (e_L 0 (0, ei_load 0 2 1, 0, 0)) (e_L 1 (0, ei_getf eft elay 11 12 4, 0, 0))) (e_T 4 (e_L 4 (0, ei_push (0, 4) 5, 0, 0)) (e_L 5 (0, ei_bin eF_mul 6, 0, 0)))) (e_T 8 (e_T 6 (e_L 6 (0, ei_stor 5 0 8, 0, 0)) (e_L 8 (0, ei_load 0 2 9, 0, 0))) (e_T 9 (e_L 9 (0, ei_getf eft elay 11 9 12, 0, 0)) (e_T 12 (e_L 12 (0, ei_load 5 0 14, 0, 0)) (e_L 14 (0, ei_load 1 0 15, 0, 0)))))) (e_T 22 (e_T 16 (e_T 15 (e_L 15 (0, ei_ast elay false 16, 0, 0)) (e_L 16 (0, ei_load 0 2 17, 0, 0))) (e_T 17 (e_L 17 (0, ei_getf eft elay 11 9 20, 0, 0)) (e_T 20 (e_L 20 (0, ei_load 5 0 22, 0, 0)) (e_L 22 (0, ei_push (0, 1) 23, 0, 0))))) (e_T 24 (e_T 23 (e_L 23 (0, ei_bin eF_add 24, 0, 0)) (e_L 24 (0, ei_load 2 0 25, 0, 0))) (e_T 25 (e_L 25 (0, ei_ast elay false 26, 0, 0)) (e_T 26 (e_L 26 (0, ei_load 0 2 27, 0, 0)) (e_L 27 (0, ei_getf eft elay 11 9 30, 0, 0))))))) (e_T 42 (e_T 34 (e_T 32 (e_T 30 (e_L 30 (0, ei_load 5 0 32, 0, 0)) (e_L 32 (0, ei_push (0, 2) 33, 0, 0))) (e_T 33 (e_L 33 (0, ei_bin eF_add 34, 0, 0)) (e_L 34 (0, ei_load 3 0 35, 0, 0)))) (e_T 36 (e_T 35 (e_L 35 (0, ei_ast elay false 36, 0, 0)) (e_L 36 (0, ei_load 0 2 37, 0, 0))) (e_T 37 (e_L 37 (0, ei_getf eft elay 11 9 40, 0, 0)) (e_T 40 (e_L 40 (0, ei_load 5 0 42, 0, 0)) (e_L 42 (0, ei_push (0, 3) 43, 0, 0)))))) (e_T 48 (e_T 44 (e_T 43 (e_L 43 (0, ei_bin eF_add 44, 0, 0)) (e_L 44 (0, ei_load 4 0 46, 0, 0))) (e_T 46 (e_L 46 (0, ei_ast elay false 47, 0, 0)) (e_T 47 (e_L 47 (0, ei_load 0 2 48, 0, 0)) (e_L 48 (0, ei_stk ef_dup 49, 0, 0))))) (e_T 52 (e_T 49 (e_L 49 (0, ei_getf eft elay 11 12 52, 0, 0)) (e_L 52 (0, ei_push (0, 1) 53, 0, 0))) (e_T 53 (e_L 53 (0, ei_bin eF_add 54, 0, 0)) (e_T 54 (e_L 54 (0, ei_putf eft elay 11 12 0 57, 0, 0)) (e_L 57 (1, e_nof, 0, 0))))))))
set_option maxRecDepth 20000 in
set_option maxHeartbeats 4000000 in
theorem te_254_0_ok : ∀ pc, e_EOq eft cls elay eI n_254 pc (te_254_0 pc) :=
  (e_Tok2
  (e_Tok2
  (e_Tok2
  (e_Tok2
  (e_Tok2
  (e_Lok (ld_aload_n_0 (x_dk dn_254_0_0_ok 0 rfl)))
  (e_Lok (lk_11_246g ho_254 (x_dk dn_254_0_0_ok 1 rfl))))
  (e_Tok2
  (e_Lok (ps_iconst_4 (x_dk dn_254_0_0_ok 2 rfl)))
  (e_Lok (sm_imul (x_dk dn_254_0_0_ok 3 rfl)))))
  (e_Tok2
  (e_Tok2
  (e_Lok (e_st (I := eI) (er_istore (i := 5) (x_dk dn_254_0_0_ok 4 rfl) (by decide +kernel)) nx_stor))
  (e_Lok (ld_aload_n_0 (x_dk dn_254_0_0_ok 5 rfl))))
  (e_Tok2
  (e_Lok (lk_11_61g ho_254 (x_dk dn_254_0_0_ok 6 rfl)))
  (e_Tok2
  (e_Lok (ld_iload_5 (x_dk dn_254_0_0_ok 7 rfl)))
  (e_Lok (ld_iload_n_1 (x_dk dn_254_0_0_ok 8 rfl)))))))
  (e_Tok2
  (e_Tok2
  (e_Tok2
  (e_Lok (sm_iastore (x_dk dn_254_0_0_ok 9 rfl)))
  (e_Lok (ld_aload_n_0 (x_dk dn_254_0_0_ok 10 rfl))))
  (e_Tok2
  (e_Lok (lk_11_61g ho_254 (x_dk dn_254_0_0_ok 11 rfl)))
  (e_Tok2
  (e_Lok (ld_iload_5 (x_dk dn_254_0_0_ok 12 rfl)))
  (e_Lok (ps_iconst_1 (x_dk dn_254_0_0_ok 13 rfl))))))
  (e_Tok2
  (e_Tok2
  (e_Lok (sm_iadd (x_dk dn_254_0_0_ok 14 rfl)))
  (e_Lok (ld_iload_n_2 (x_dk dn_254_0_0_ok 15 rfl))))
  (e_Tok2
  (e_Lok (sm_iastore (x_dk dn_254_0_0_ok 16 rfl)))
  (e_Tok2
  (e_Lok (ld_aload_n_0 (x_dk dn_254_0_0_ok 17 rfl)))
  (e_Lok (lk_11_61g ho_254 (x_dk dn_254_0_0_ok 18 rfl))))))))
  (e_Tok2
  (e_Tok2
  (e_Tok2
  (e_Tok2
  (e_Lok (ld_iload_5 (x_dk dn_254_0_0_ok 19 rfl)))
  (e_Lok (ps_iconst_2 (x_dk dn_254_0_0_ok 20 rfl))))
  (e_Tok2
  (e_Lok (sm_iadd (x_dk dn_254_0_0_ok 21 rfl)))
  (e_Lok (ld_iload_n_3 (x_dk dn_254_0_0_ok 22 rfl)))))
  (e_Tok2
  (e_Tok2
  (e_Lok (sm_iastore (x_dk dn_254_0_0_ok 23 rfl)))
  (e_Lok (ld_aload_n_0 (x_dk dn_254_0_0_ok 24 rfl))))
  (e_Tok2
  (e_Lok (lk_11_61g ho_254 (x_dk dn_254_0_1_ok 0 rfl)))
  (e_Tok2
  (e_Lok (ld_iload_5 (x_dk dn_254_0_1_ok 1 rfl)))
  (e_Lok (ps_iconst_3 (x_dk dn_254_0_1_ok 2 rfl)))))))
  (e_Tok2
  (e_Tok2
  (e_Tok2
  (e_Lok (sm_iadd (x_dk dn_254_0_1_ok 3 rfl)))
  (e_Lok (ld_iload_4 (x_dk dn_254_0_1_ok 4 rfl))))
  (e_Tok2
  (e_Lok (sm_iastore (x_dk dn_254_0_1_ok 5 rfl)))
  (e_Tok2
  (e_Lok (ld_aload_n_0 (x_dk dn_254_0_1_ok 6 rfl)))
  (e_Lok (e_st (I := eI) (er_dup (x_dk dn_254_0_1_ok 7 rfl)) (nx_stk bf_dup))))))
  (e_Tok2
  (e_Tok2
  (e_Lok (lk_11_246g ho_254 (x_dk dn_254_0_1_ok 8 rfl)))
  (e_Lok (ps_iconst_1 (x_dk dn_254_0_1_ok 9 rfl))))
  (e_Tok2
  (e_Lok (sm_iadd (x_dk dn_254_0_1_ok 10 rfl)))
  (e_Tok2
  (e_Lok (lk_11_246p ho_254 (x_dk dn_254_0_1_ok 11 rfl)))
  (e_Lok (e_rt (I := eI) (k := 0) ⟨(x_dk dn_254_0_1_ok 12 rfl), rfl⟩))))))))
def te_254 : Nat → eE := te_254_0
theorem te_254_ok : ∀ pc, e_EOq eft cls elay eI n_254 pc (te_254 pc) := te_254_0_ok
theorem ho_255 : (xm_y n_255).cls = "RobotCellHouse" := rfl
def dn_255_0_0 : List (Nat × Instr × Nat) := [(0, .aload_n 0, 1), (1, .invokevirtual 264, 3), (4, .ifCond .ne 6, 3), (7, .bipush (-3), 2), (9, .ireturn, 1), (10, .aload_n 0, 1), (11, .iload_n 1, 1), (12, .iload_n 2, 1), (13, .iload_n 3, 1), (14, .iload 4, 2), (16, .invokevirtual 268, 3), (19, .aload_n 0, 1), (20, .iload_n 1, 1), (21, .iload_n 2, 1), (22, .iload_n 3, 1), (23, .iload 4, 2), (25, .invokevirtual 311, 3), (28, .ireturn, 1)]
set_option maxRecDepth 20000 in
theorem dn_255_0_0_ok : dn_255_0_0.all (fun q => decide (decode (xm_b n_255) q.1 = .ok (q.2.1, q.2.2))) = true := xa_g_ok (by decide +kernel)
def te_255_0 : Nat → eE := (e_T 13 (e_T 7 (e_T 1 (e_T 0 (e_L 0 (0, ei_load 0 2 1, 0, 0)) (e_L 1 (2, e_nof, 253, 1))) (e_T 4 (e_L 4 (0, ei_if1 1 10 7, 0, 0)) (e_L 7 (0, ei_push (0, (-3)) 9, 0, 0)))) (e_T 10 (e_T 9 (e_L 9 (1, e_nof, 1, 0)) (e_L 10 (0, ei_load 0 2 11, 0, 0))) (e_T 11 (e_L 11 (0, ei_load 1 0 12, 0, 0)) (e_T 12 (e_L 12 (0, ei_load 2 0 13, 0, 0)) (e_L 13 (0, ei_load 3 0 14, 0, 0)))))) (e_T 20 (e_T 16 (e_T 14 (e_L 14 (0, ei_load 4 0 16, 0, 0)) (e_L 16 (2, e_nof, 254, 5))) (e_T 19 (e_L 19 (0, ei_load 0 2 20, 0, 0)) (e_L 20 (0, ei_load 1 0 21, 0, 0)))) (e_T 22 (e_T 21 (e_L 21 (0, ei_load 2 0 22, 0, 0)) (e_L 22 (0, ei_load 3 0 23, 0, 0))) (e_T 23 (e_L 23 (0, ei_load 4 0 25, 0, 0)) (e_T 25 (e_L 25 (2, e_nof, 256, 5)) (e_L 28 (1, e_nof, 1, 0)))))))
set_option maxRecDepth 20000 in
set_option maxHeartbeats 4000000 in
theorem te_255_0_ok : ∀ pc, e_EOq eft cls elay eI n_255 pc (te_255_0 pc) :=
  (e_Tok2
  (e_Tok2
  (e_Tok2
  (e_Tok2
  (e_Lok (ld_aload_n_0 (x_dk dn_255_0_0_ok 0 rfl)))
  (e_Lok (lk_11_264 ho_255 (x_dk dn_255_0_0_ok 1 rfl))))
  (e_Tok2
  (e_Lok (e_st (I := eI) (er_ifne (off := 6) (tg := 10) (x_dk dn_255_0_0_ok 2 rfl) (by decide)) nx_if1))
  (e_Lok (ps_bipush_m3 (x_dk dn_255_0_0_ok 3 rfl)))))
  (e_Tok2
  (e_Tok2
  (e_Lok (e_rt (I := eI) (k := 1) ⟨(x_dk dn_255_0_0_ok 4 rfl), rfl⟩))
  (e_Lok (ld_aload_n_0 (x_dk dn_255_0_0_ok 5 rfl))))
  (e_Tok2
  (e_Lok (ld_iload_n_1 (x_dk dn_255_0_0_ok 6 rfl)))
  (e_Tok2
  (e_Lok (ld_iload_n_2 (x_dk dn_255_0_0_ok 7 rfl)))
  (e_Lok (ld_iload_n_3 (x_dk dn_255_0_0_ok 8 rfl)))))))
  (e_Tok2
  (e_Tok2
  (e_Tok2
  (e_Lok (ld_iload_4 (x_dk dn_255_0_0_ok 9 rfl)))
  (e_Lok (lk_11_268 ho_255 (x_dk dn_255_0_0_ok 10 rfl))))
  (e_Tok2
  (e_Lok (ld_aload_n_0 (x_dk dn_255_0_0_ok 11 rfl)))
  (e_Lok (ld_iload_n_1 (x_dk dn_255_0_0_ok 12 rfl)))))
  (e_Tok2
  (e_Tok2
  (e_Lok (ld_iload_n_2 (x_dk dn_255_0_0_ok 13 rfl)))
  (e_Lok (ld_iload_n_3 (x_dk dn_255_0_0_ok 14 rfl))))
  (e_Tok2
  (e_Lok (ld_iload_4 (x_dk dn_255_0_0_ok 15 rfl)))
  (e_Tok2
  (e_Lok (lk_11_311 ho_255 (x_dk dn_255_0_0_ok 16 rfl)))
  (e_Lok (e_rt (I := eI) (k := 1) ⟨(x_dk dn_255_0_0_ok 17 rfl), rfl⟩)))))))
def te_255 : Nat → eE := te_255_0
theorem te_255_ok : ∀ pc, e_EOq eft cls elay eI n_255 pc (te_255 pc) := te_255_0_ok
theorem ho_256 : (xm_y n_256).cls = "RobotCellHouse" := rfl
def dn_256_0_0 : List (Nat × Instr × Nat) := [(0, .iload_n 1, 1), (1, .tableswitch 202 0 11 #[63, 202, 73, 83, 103, 131, 140, 146, 155, 164, 173, 188], 63), (64, .aload_n 0, 1), (65, .getfield 19, 3), (68, .iload_n 2, 1), (69, .iload_n 3, 1), (70, .invokevirtual 426, 3), (73, .ireturn, 1), (74, .aload_n 0, 1), (75, .getfield 32, 3), (78, .iload_n 2, 1), (79, .iload_n 3, 1), (80, .invokevirtual 429, 3), (83, .ireturn, 1), (84, .aload_n 0, 1), (85, .getfield 32, 3), (88, .iload_n 2, 1), (89, .iload_n 3, 1), (90, .iload 4, 2), (92, .ifCond .eq 7, 3), (95, .iconst 1, 1), (96, .goto 4, 3), (99, .iconst 0, 1), (100, .invokevirtual 432, 3), (103, .ireturn, 1)]
set_option maxRecDepth 20000 in
theorem dn_256_0_0_ok : dn_256_0_0.all (fun q => decide (decode (xm_b n_256) q.1 = .ok (q.2.1, q.2.2))) = true := xa_g_ok (by decide +kernel)
def dn_256_0_1 : List (Nat × Instr × Nat) := [(104, .aload_n 0, 1), (105, .getfield 42, 3), (108, .iload_n 2, 1), (109, .iload_n 3, 1), (110, .ifCond .eq 7, 3), (113, .iconst 1, 1), (114, .goto 4, 3), (117, .iconst 0, 1), (118, .iload 4, 2), (120, .ifCond .eq 7, 3), (123, .iconst 1, 1), (124, .goto 4, 3), (127, .iconst 0, 1), (128, .invokevirtual 436, 3), (131, .ireturn, 1), (132, .aload_n 0, 1), (133, .getfield 42, 3), (136, .iload_n 2, 1), (137, .invokevirtual 440, 3), (140, .ireturn, 1), (141, .aload_n 0, 1), (142, .iload_n 2, 1), (143, .invokevirtual 443, 3), (146, .ireturn, 1), (147, .aload_n 0, 1)]
set_option maxRecDepth 20000 in
theorem dn_256_0_1_ok : dn_256_0_1.all (fun q => decide (decode (xm_b n_256) q.1 = .ok (q.2.1, q.2.2))) = true := xa_g_ok (by decide +kernel)
def dn_256_0_2 : List (Nat × Instr × Nat) := [(148, .getfield 19, 3), (151, .iload_n 2, 1), (152, .invokevirtual 446, 3), (155, .ireturn, 1), (156, .aload_n 0, 1), (157, .iload_n 2, 1), (158, .iload_n 3, 1), (159, .iload 4, 2), (161, .invokevirtual 449, 3), (164, .ireturn, 1), (165, .aload_n 0, 1), (166, .getfield 57, 3), (169, .iload_n 2, 1), (170, .iload_n 3, 1), (171, .iastore, 1), (172, .iconst 0, 1), (173, .ireturn, 1), (174, .aload_n 0, 1), (175, .getfield 53, 3), (178, .aload_n 0, 1), (179, .getfield 27, 3), (182, .iload_n 2, 1), (183, .aaload, 1), (184, .iload_n 3, 1), (185, .invokevirtual 453, 3)]
set_option maxRecDepth 20000 in
theorem dn_256_0_2_ok : dn_256_0_2.all (fun q => decide (decode (xm_b n_256) q.1 = .ok (q.2.1, q.2.2))) = true := xa_g_ok (by decide +kernel)
def dn_256_0_3 : List (Nat × Instr × Nat) := [(188, .ireturn, 1), (189, .aload_n 0, 1), (190, .getfield 53, 3), (193, .aload_n 0, 1), (194, .getfield 27, 3), (197, .iload_n 2, 1), (198, .aaload, 1), (199, .invokevirtual 456, 3), (202, .ireturn, 1), (203, .iconst 0, 1), (204, .ireturn, 1)]
set_option maxRecDepth 20000 in
theorem dn_256_0_3_ok : dn_256_0_3.all (fun q => decide (decode (xm_b n_256) q.1 = .ok (q.2.1, q.2.2))) = true := xa_g_ok (by decide +kernel)
def te_256_0 : Nat → eE := (e_T 75 (e_T 68 (e_T 1 (e_T 0 (e_L 0 (0, ei_load 1 0 1, 0, 0)) (e_L 1 (0, ei_sw [((-2147483648), (-1), 203), (0, 0, 64), (1, 1, 203), (2, 2, 74), (3, 3, 84), (4, 4, 104), (5, 5, 132), (6, 6, 141), (7, 7, 147), (8, 8, 156), (9, 9, 165), (10, 10, 174), (11, 11, 189), (12, 2147483647, 203)], 0, 0))) (e_T 64 (e_L 64 (0, ei_load 0 2 65, 0, 0)) (e_T 65 (e_L 65 (0, ei_getf eft elay 11 1 68, 0, 0)) (e_L 68 (0, ei_load 2 0 69, 0, 0))))) (e_T 70 (e_T 69 (e_L 69 (0, ei_load 3 0 70, 0, 0)) (e_L 70 (2, e_nof, 37, 3))) (e_T 73 (e_L 73 (1, e_nof, 1, 0)) (e_T 74 (e_L 74 (0, ei_load 0 2 75, 0, 0)) (e_L 75 (0, ei_getf eft elay 11 3 78, 0, 0)))))) (e_T 84 (e_T 79 (e_T 78 (e_L 78 (0, ei_load 2 0 79, 0, 0)) (e_L 79 (0, ei_load 3 0 80, 0, 0))) (e_T 80 (e_L 80 (2, e_nof, 113, 3)) (e_T 83 (e_L 83 (1, e_nof, 1, 0)) (e_L 84 (0, ei_load 0 2 85, 0, 0))))) (e_T 89 (e_T 85 (e_L 85 (0, ei_getf eft elay 11 3 88, 0, 0)) (e_T 88 (e_L 88 (0, ei_load 2 0 89, 0, 0)) (e_L 89 (0, ei_load 3 0 90, 0, 0)))) (e_T 90 (e_L 90 (0, ei_load 4 0 92, 0, 0)) (e_T 92 (e_L 92 (0, ei_if1 0 99 95, 0, 0)) (e_L 95 (0, ei_push (0, 1) 96, 0, 0)))))))
set_option maxRecDepth 20000 in
set_option maxHeartbeats 4000000 in
theorem te_256_0_ok : ∀ pc, e_EOq eft cls elay eI n_256 pc (te_256_0 pc) :=
  (e_Tok2
  (e_Tok2
  (e_Tok2
  (e_Tok2
  (e_Lok (ld_iload_n_1 (x_dk dn_256_0_0_ok 0 rfl)))
  (e_Lok (e_st (I := eI) (er_tsw (dflt := 202) (lo := 0) (hi := 11) (offs := #[63, 202, 73, 83, 103, 131, 140, 146, 155, 164, 173, 188]) (len := 63) (n := 12) (x_dk dn_256_0_0_ok 1 rfl) (by decide) (by decide +kernel)) nx_sw)))
  (e_Tok2
  (e_Lok (ld_aload_n_0 (x_dk dn_256_0_0_ok 2 rfl)))
  (e_Tok2
  (e_Lok (lk_11_19g ho_256 (x_dk dn_256_0_0_ok 3 rfl)))
  (e_Lok (ld_iload_n_2 (x_dk dn_256_0_0_ok 4 rfl))))))
  (e_Tok2
  (e_Tok2
  (e_Lok (ld_iload_n_3 (x_dk dn_256_0_0_ok 5 rfl)))
  (e_Lok (lk_11_426 ho_256 (x_dk dn_256_0_0_ok 6 rfl))))
  (e_Tok2
  (e_Lok (e_rt (I := eI) (k := 1) ⟨(x_dk dn_256_0_0_ok 7 rfl), rfl⟩))
  (e_Tok2
  (e_Lok (ld_aload_n_0 (x_dk dn_256_0_0_ok 8 rfl)))
  (e_Lok (lk_11_32g ho_256 (x_dk dn_256_0_0_ok 9 rfl)))))))
  (e_Tok2
  (e_Tok2
  (e_Tok2
  (e_Lok (ld_iload_n_2 (x_dk dn_256_0_0_ok 10 rfl)))
  (e_Lok (ld_iload_n_3 (x_dk dn_256_0_0_ok 11 rfl))))
  (e_Tok2
  (e_Lok (lk_11_429 ho_256 (x_dk dn_256_0_0_ok 12 rfl)))
  (e_Tok2
  (e_Lok (e_rt (I := eI) (k := 1) ⟨(x_dk dn_256_0_0_ok 13 rfl), rfl⟩))
  (e_Lok (ld_aload_n_0 (x_dk dn_256_0_0_ok 14 rfl))))))
  (e_Tok2
  (e_Tok2
  (e_Lok (lk_11_32g ho_256 (x_dk dn_256_0_0_ok 15 rfl)))
  (e_Tok2
  (e_Lok (ld_iload_n_2 (x_dk dn_256_0_0_ok 16 rfl)))
  (e_Lok (ld_iload_n_3 (x_dk dn_256_0_0_ok 17 rfl)))))
  (e_Tok2
  (e_Lok (ld_iload_4 (x_dk dn_256_0_0_ok 18 rfl)))
  (e_Tok2
  (e_Lok (e_st (I := eI) (er_ifeq (off := 7) (tg := 99) (x_dk dn_256_0_0_ok 19 rfl) (by decide)) nx_if1))
  (e_Lok (ps_iconst_1 (x_dk dn_256_0_0_ok 20 rfl))))))))
def te_256_21 : Nat → eE := (e_T 114 (e_T 104 (e_T 99 (e_T 96 (e_L 96 (0, ei_goto 100, 0, 0)) (e_L 99 (0, ei_push (0, 0) 100, 0, 0))) (e_T 100 (e_L 100 (2, e_nof, 114, 4)) (e_T 103 (e_L 103 (1, e_nof, 1, 0)) (e_L 104 (0, ei_load 0 2 105, 0, 0))))) (e_T 109 (e_T 105 (e_L 105 (0, ei_getf eft elay 11 5 108, 0, 0)) (e_T 108 (e_L 108 (0, ei_load 2 0 109, 0, 0)) (e_L 109 (0, ei_load 3 0 110, 0, 0)))) (e_T 110 (e_L 110 (0, ei_if1 0 117 113, 0, 0)) (e_T 113 (e_L 113 (0, ei_push (0, 1) 114, 0, 0)) (e_L 114 (0, ei_goto 118, 0, 0)))))) (e_T 124 (e_T 118 (e_T 117 (e_L 117 (0, ei_push (0, 0) 118, 0, 0)) (e_L 118 (0, ei_load 4 0 120, 0, 0))) (e_T 120 (e_L 120 (0, ei_if1 0 127 123, 0, 0)) (e_T 123 (e_L 123 (0, ei_push (0, 1) 124, 0, 0)) (e_L 124 (0, ei_goto 128, 0, 0))))) (e_T 131 (e_T 127 (e_L 127 (0, ei_push (0, 0) 128, 0, 0)) (e_T 128 (e_L 128 (2, e_nof, 28, 4)) (e_L 131 (1, e_nof, 1, 0)))) (e_T 132 (e_L 132 (0, ei_load 0 2 133, 0, 0)) (e_T 133 (e_L 133 (0, ei_getf eft elay 11 5 136, 0, 0)) (e_L 136 (0, ei_load 2 0 137, 0, 0)))))))
set_option maxRecDepth 20000 in
set_option maxHeartbeats 4000000 in
theorem te_256_21_ok : ∀ pc, e_EOq eft cls elay eI n_256 pc (te_256_21 pc) :=
  (e_Tok2
  (e_Tok2
  (e_Tok2
  (e_Tok2
  (e_Lok (e_st (I := eI) (er_goto (off := 4) (tg := 100) (x_dk dn_256_0_0_ok 21 rfl) (by decide)) nx_goto))
  (e_Lok (ps_iconst_0 (x_dk dn_256_0_0_ok 22 rfl))))
  (e_Tok2
  (e_Lok (lk_11_432 ho_256 (x_dk dn_256_0_0_ok 23 rfl)))
  (e_Tok2
  (e_Lok (e_rt (I := eI) (k := 1) ⟨(x_dk dn_256_0_0_ok 24 rfl), rfl⟩))
  (e_Lok (ld_aload_n_0 (x_dk dn_256_0_1_ok 0 rfl))))))
  (e_Tok2
  (e_Tok2
  (e_Lok (lk_11_42g ho_256 (x_dk dn_256_0_1_ok 1 rfl)))
  (e_Tok2
  (e_Lok (ld_iload_n_2 (x_dk dn_256_0_1_ok 2 rfl)))
  (e_Lok (ld_iload_n_3 (x_dk dn_256_0_1_ok 3 rfl)))))
  (e_Tok2
  (e_Lok (e_st (I := eI) (er_ifeq (off := 7) (tg := 117) (x_dk dn_256_0_1_ok 4 rfl) (by decide)) nx_if1))
  (e_Tok2
  (e_Lok (ps_iconst_1 (x_dk dn_256_0_1_ok 5 rfl)))
  (e_Lok (e_st (I := eI) (er_goto (off := 4) (tg := 118) (x_dk dn_256_0_1_ok 6 rfl) (by decide)) nx_goto))))))
  (e_Tok2
  (e_Tok2
  (e_Tok2
  (e_Lok (ps_iconst_0 (x_dk dn_256_0_1_ok 7 rfl)))
  (e_Lok (ld_iload_4 (x_dk dn_256_0_1_ok 8 rfl))))
  (e_Tok2
  (e_Lok (e_st (I := eI) (er_ifeq (off := 7) (tg := 127) (x_dk dn_256_0_1_ok 9 rfl) (by decide)) nx_if1))
  (e_Tok2
  (e_Lok (ps_iconst_1 (x_dk dn_256_0_1_ok 10 rfl)))
  (e_Lok (e_st (I := eI) (er_goto (off := 4) (tg := 128) (x_dk dn_256_0_1_ok 11 rfl) (by decide)) nx_goto)))))
  (e_Tok2
  (e_Tok2
  (e_Lok (ps_iconst_0 (x_dk dn_256_0_1_ok 12 rfl)))
  (e_Tok2
  (e_Lok (lk_11_436 ho_256 (x_dk dn_256_0_1_ok 13 rfl)))
  (e_Lok (e_rt (I := eI) (k := 1) ⟨(x_dk dn_256_0_1_ok 14 rfl), rfl⟩))))
  (e_Tok2
  (e_Lok (ld_aload_n_0 (x_dk dn_256_0_1_ok 15 rfl)))
  (e_Tok2
  (e_Lok (lk_11_42g ho_256 (x_dk dn_256_0_1_ok 16 rfl)))
  (e_Lok (ld_iload_n_2 (x_dk dn_256_0_1_ok 17 rfl))))))))
def te_256_43 : Nat → eE := (e_T 152 (e_T 143 (e_T 140 (e_T 137 (e_L 137 (2, e_nof, 33, 2)) (e_L 140 (1, e_nof, 1, 0))) (e_T 141 (e_L 141 (0, ei_load 0 2 142, 0, 0)) (e_T 142 (e_L 142 (0, ei_load 2 0 143, 0, 0)) (e_L 143 (2, e_nof, 257, 2))))) (e_T 147 (e_T 146 (e_L 146 (1, e_nof, 1, 0)) (e_L 147 (0, ei_load 0 2 148, 0, 0))) (e_T 148 (e_L 148 (0, ei_getf eft elay 11 1 151, 0, 0)) (e_T 151 (e_L 151 (0, ei_load 2 0 152, 0, 0)) (e_L 152 (2, e_nof, 38, 2)))))) (e_T 159 (e_T 156 (e_T 155 (e_L 155 (1, e_nof, 1, 0)) (e_L 156 (0, ei_load 0 2 157, 0, 0))) (e_T 157 (e_L 157 (0, ei_load 2 0 158, 0, 0)) (e_T 158 (e_L 158 (0, ei_load 3 0 159, 0, 0)) (e_L 159 (0, ei_load 4 0 161, 0, 0))))) (e_T 165 (e_T 161 (e_L 161 (2, e_nof, 258, 4)) (e_T 164 (e_L 164 (1, e_nof, 1, 0)) (e_L 165 (0, ei_load 0 2 166, 0, 0)))) (e_T 166 (e_L 166 (0, ei_getf eft elay 11 8 169, 0, 0)) (e_T 169 (e_L 169 (0, ei_load 2 0 170, 0, 0)) (e_L 170 (0, ei_load 3 0 171, 0, 0)))))))
set_option maxRecDepth 20000 in
set_option maxHeartbeats 4000000 in
theorem te_256_43_ok : ∀ pc, e_EOq eft cls elay eI n_256 pc (te_256_43 pc) :=
  (e_Tok2
  (e_Tok2
  (e_Tok2
  (e_Tok2
  (e_Lok (lk_11_440 ho_256 (x_dk dn_256_0_1_ok 18 rfl)))
  (e_Lok (e_rt (I := eI) (k := 1) ⟨(x_dk dn_256_0_1_ok 19 rfl), rfl⟩)))
  (e_Tok2
  (e_Lok (ld_aload_n_0 (x_dk dn_256_0_1_ok 20 rfl)))
  (e_Tok2
  (e_Lok (ld_iload_n_2 (x_dk dn_256_0_1_ok 21 rfl)))
  (e_Lok (lk_11_443 ho_256 (x_dk dn_256_0_1_ok 22 rfl))))))
  (e_Tok2
  (e_Tok2
  (e_Lok (e_rt (I := eI) (k := 1) ⟨(x_dk dn_256_0_1_ok 23 rfl), rfl⟩))
  (e_Lok (ld_aload_n_0 (x_dk dn_256_0_1_ok 24 rfl))))
  (e_Tok2
  (e_Lok (lk_11_19g ho_256 (x_dk dn_256_0_2_ok 0 rfl)))
  (e_Tok2
  (e_Lok (ld_iload_n_2 (x_dk dn_256_0_2_ok 1 rfl)))
  (e_Lok (lk_11_446 ho_256 (x_dk dn_256_0_2_ok 2 rfl)))))))
  (e_Tok2
  (e_Tok2
  (e_Tok2
  (e_Lok (e_rt (I := eI) (k := 1) ⟨(x_dk dn_256_0_2_ok 3 rfl), rfl⟩))
  (e_Lok (ld_aload_n_0 (x_dk dn_256_0_2_ok 4 rfl))))
  (e_Tok2
  (e_Lok (ld_iload_n_2 (x_dk dn_256_0_2_ok 5 rfl)))
  (e_Tok2
  (e_Lok (ld_iload_n_3 (x_dk dn_256_0_2_ok 6 rfl)))
  (e_Lok (ld_iload_4 (x_dk dn_256_0_2_ok 7 rfl))))))
  (e_Tok2
  (e_Tok2
  (e_Lok (lk_11_449 ho_256 (x_dk dn_256_0_2_ok 8 rfl)))
  (e_Tok2
  (e_Lok (e_rt (I := eI) (k := 1) ⟨(x_dk dn_256_0_2_ok 9 rfl), rfl⟩))
  (e_Lok (ld_aload_n_0 (x_dk dn_256_0_2_ok 10 rfl)))))
  (e_Tok2
  (e_Lok (lk_11_57g ho_256 (x_dk dn_256_0_2_ok 11 rfl)))
  (e_Tok2
  (e_Lok (ld_iload_n_2 (x_dk dn_256_0_2_ok 12 rfl)))
  (e_Lok (ld_iload_n_3 (x_dk dn_256_0_2_ok 13 rfl))))))))
def te_256_64 : Nat → eE := (e_T 185 (e_T 175 (e_T 172 (e_T 171 (e_L 171 (0, ei_ast elay false 172, 0, 0)) (e_L 172 (0, ei_push (0, 0) 173, 0, 0))) (e_T 173 (e_L 173 (1, e_nof, 1, 0)) (e_T 174 (e_L 174 (0, ei_load 0 2 175, 0, 0)) (e_L 175 (0, ei_getf eft elay 11 7 178, 0, 0))))) (e_T 182 (e_T 178 (e_L 178 (0, ei_load 0 2 179, 0, 0)) (e_T 179 (e_L 179 (0, ei_getf eft elay 11 2 182, 0, 0)) (e_L 182 (0, ei_load 2 0 183, 0, 0)))) (e_T 183 (e_L 183 (0, ei_aald elay 184, 0, 0)) (e_T 184 (e_L 184 (0, ei_load 3 0 185, 0, 0)) (e_L 185 (2, e_nof, 97, 3)))))) (e_T 194 (e_T 189 (e_T 188 (e_L 188 (1, e_nof, 1, 0)) (e_L 189 (0, ei_load 0 2 190, 0, 0))) (e_T 190 (e_L 190 (0, ei_getf eft elay 11 7 193, 0, 0)) (e_T 193 (e_L 193 (0, ei_load 0 2 194, 0, 0)) (e_L 194 (0, ei_getf eft elay 11 2 197, 0, 0))))) (e_T 199 (e_T 197 (e_L 197 (0, ei_load 2 0 198, 0, 0)) (e_T 198 (e_L 198 (0, ei_aald elay 199, 0, 0)) (e_L 199 (2, e_nof, 107, 2)))) (e_T 202 (e_L 202 (1, e_nof, 1, 0)) (e_T 203 (e_L 203 (0, ei_push (0, 0) 204, 0, 0)) (e_L 204 (1, e_nof, 1, 0)))))))
set_option maxRecDepth 20000 in
set_option maxHeartbeats 4000000 in
theorem te_256_64_ok : ∀ pc, e_EOq eft cls elay eI n_256 pc (te_256_64 pc) :=
  (e_Tok2
  (e_Tok2
  (e_Tok2
  (e_Tok2
  (e_Lok (sm_iastore (x_dk dn_256_0_2_ok 14 rfl)))
  (e_Lok (ps_iconst_0 (x_dk dn_256_0_2_ok 15 rfl))))
  (e_Tok2
  (e_Lok (e_rt (I := eI) (k := 1) ⟨(x_dk dn_256_0_2_ok 16 rfl), rfl⟩))
  (e_Tok2
  (e_Lok (ld_aload_n_0 (x_dk dn_256_0_2_ok 17 rfl)))
  (e_Lok (lk_11_53g ho_256 (x_dk dn_256_0_2_ok 18 rfl))))))
  (e_Tok2
  (e_Tok2
  (e_Lok (ld_aload_n_0 (x_dk dn_256_0_2_ok 19 rfl)))
  (e_Tok2
  (e_Lok (lk_11_27g ho_256 (x_dk dn_256_0_2_ok 20 rfl)))
  (e_Lok (ld_iload_n_2 (x_dk dn_256_0_2_ok 21 rfl)))))
  (e_Tok2
  (e_Lok (e_st (I := eI) (er_aaload (x_dk dn_256_0_2_ok 22 rfl)) nx_aald))
  (e_Tok2
  (e_Lok (ld_iload_n_3 (x_dk dn_256_0_2_ok 23 rfl)))
  (e_Lok (lk_11_453 ho_256 (x_dk dn_256_0_2_ok 24 rfl)))))))
  (e_Tok2
  (e_Tok2
  (e_Tok2
  (e_Lok (e_rt (I := eI) (k := 1) ⟨(x_dk dn_256_0_3_ok 0 rfl), rfl⟩))
  (e_Lok (ld_aload_n_0 (x_dk dn_256_0_3_ok 1 rfl))))
  (e_Tok2
  (e_Lok (lk_11_53g ho_256 (x_dk dn_256_0_3_ok 2 rfl)))
  (e_Tok2
  (e_Lok (ld_aload_n_0 (x_dk dn_256_0_3_ok 3 rfl)))
  (e_Lok (lk_11_27g ho_256 (x_dk dn_256_0_3_ok 4 rfl))))))
  (e_Tok2
  (e_Tok2
  (e_Lok (ld_iload_n_2 (x_dk dn_256_0_3_ok 5 rfl)))
  (e_Tok2
  (e_Lok (e_st (I := eI) (er_aaload (x_dk dn_256_0_3_ok 6 rfl)) nx_aald))
  (e_Lok (lk_11_456 ho_256 (x_dk dn_256_0_3_ok 7 rfl)))))
  (e_Tok2
  (e_Lok (e_rt (I := eI) (k := 1) ⟨(x_dk dn_256_0_3_ok 8 rfl), rfl⟩))
  (e_Tok2
  (e_Lok (ps_iconst_0 (x_dk dn_256_0_3_ok 9 rfl)))
  (e_Lok (e_rt (I := eI) (k := 1) ⟨(x_dk dn_256_0_3_ok 10 rfl), rfl⟩)))))))
def te_256 : Nat → eE := (e_T 136 (e_T 95 te_256_0 te_256_21) (e_T 170 te_256_43 te_256_64))
theorem te_256_ok : ∀ pc, e_EOq eft cls elay eI n_256 pc (te_256 pc) := (e_Tok2 ((e_Tok2 (te_256_0_ok) (te_256_21_ok))) ((e_Tok2 (te_256_43_ok) (te_256_64_ok))))
end
end
-- part 41ar
section
noncomputable section
theorem ho_257 : (xm_y n_257).cls = "RobotCellHouse" := rfl
def dn_257_0_0 : List (Nat × Instr × Nat) := [(0, .iload_n 1, 1), (1, .ifCond .ge 11, 3), (4, .aload_n 0, 1), (5, .iconst 4, 1), (6, .iconst 0, 1), (7, .invokevirtual 460, 3), (10, .iconst 0, 1), (11, .ireturn, 1), (12, .aload_n 0, 1), (13, .getfield 27, 3), (16, .iload_n 1, 1), (17, .aaload, 1), (18, .getfield 286, 3), (21, .istore_n 2, 1), (22, .aload_n 0, 1), (23, .getfield 19, 3), (26, .iload_n 1, 1), (27, .invokevirtual 463, 3), (30, .iload_n 2, 1), (31, .ireturn, 1)]
set_option maxRecDepth 20000 in
theorem dn_257_0_0_ok : dn_257_0_0.all (fun q => decide (decode (xm_b n_257) q.1 = .ok (q.2.1, q.2.2))) = true := xa_g_ok (by decide +kernel)
def te_257_0 : Nat → eE := (e_T 13 (e_T 6 (e_T 1 (e_T 0 (e_L 0 (0, ei_load 1 0 1, 0, 0)) (e_L 1 (0, ei_if1 3 12 4, 0, 0))) (e_T 4 (e_L 4 (0, ei_load 0 2 5, 0, 0)) (e_T 5 (e_L 5 (0, ei_push (0, 4) 6, 0, 0)) (e_L 6 (0, ei_push (0, 0) 7, 0, 0))))) (e_T 10 (e_T 7 (e_L 7 (2, e_nof, 265, 3)) (e_L 10 (0, ei_push (0, 0) 11, 0, 0))) (e_T 11 (e_L 11 (1, e_nof, 1, 0)) (e_T 12 (e_L 12 (0, ei_load 0 2 13, 0, 0)) (e_L 13 (0, ei_getf eft elay 11 2 16, 0, 0)))))) (e_T 22 (e_T 17 (e_T 16 (e_L 16 (0, ei_load 1 0 17, 0, 0)) (e_L 17 (0, ei_aald elay 18, 0, 0))) (e_T 18 (e_L 18 (0, ei_getf eft elay 0 11 21, 0, 0)) (e_T 21 (e_L 21 (0, ei_stor 2 0 22, 0, 0)) (e_L 22 (0, ei_load 0 2 23, 0, 0))))) (e_T 26 (e_T 23 (e_L 23 (0, ei_getf eft elay 11 1 26, 0, 0)) (e_L 26 (0, ei_load 1 0 27, 0, 0))) (e_T 27 (e_L 27 (2, e_nof, 40, 2)) (e_T 30 (e_L 30 (0, ei_load 2 0 31, 0, 0)) (e_L 31 (1, e_nof, 1, 0)))))))
set_option maxRecDepth 20000 in
set_option maxHeartbeats 4000000 in
theorem te_257_0_ok : ∀ pc, e_EOq eft cls elay eI n_257 pc (te_257_0 pc) :=
  (e_Tok2
  (e_Tok2
  (e_Tok2
  (e_Tok2
  (e_Lok (ld_iload_n_1 (x_dk dn_257_0_0_ok 0 rfl)))
  (e_Lok (e_st (I := eI) (er_ifge (off := 11) (tg := 12) (x_dk dn_257_0_0_ok 1 rfl) (by decide)) nx_if1)))
  (e_Tok2
  (e_Lok (ld_aload_n_0 (x_dk dn_257_0_0_ok 2 rfl)))
  (e_Tok2
  (e_Lok (ps_iconst_4 (x_dk dn_257_0_0_ok 3 rfl)))
  (e_Lok (ps_iconst_0 (x_dk dn_257_0_0_ok 4 rfl))))))
  (e_Tok2
  (e_Tok2
  (e_Lok (lk_11_460 ho_257 (x_dk dn_257_0_0_ok 5 rfl)))
  (e_Lok (ps_iconst_0 (x_dk dn_257_0_0_ok 6 rfl))))
  (e_Tok2
  (e_Lok (e_rt (I := eI) (k := 1) ⟨(x_dk dn_257_0_0_ok 7 rfl), rfl⟩))
  (e_Tok2
  (e_Lok (ld_aload_n_0 (x_dk dn_257_0_0_ok 8 rfl)))
  (e_Lok (lk_11_27g ho_257 (x_dk dn_257_0_0_ok 9 rfl)))))))
  (e_Tok2
  (e_Tok2
  (e_Tok2
  (e_Lok (ld_iload_n_1 (x_dk dn_257_0_0_ok 10 rfl)))
  (e_Lok (e_st (I := eI) (er_aaload (x_dk dn_257_0_0_ok 11 rfl)) nx_aald)))
  (e_Tok2
  (e_Lok (lk_11_286g ho_257 (x_dk dn_257_0_0_ok 12 rfl)))
  (e_Tok2
  (e_Lok (e_st (I := eI) (er_istore_n (i := 2) (x_dk dn_257_0_0_ok 13 rfl) (by decide +kernel)) nx_stor))
  (e_Lok (ld_aload_n_0 (x_dk dn_257_0_0_ok 14 rfl))))))
  (e_Tok2
  (e_Tok2
  (e_Lok (lk_11_19g ho_257 (x_dk dn_257_0_0_ok 15 rfl)))
  (e_Lok (ld_iload_n_1 (x_dk dn_257_0_0_ok 16 rfl))))
  (e_Tok2
  (e_Lok (lk_11_463 ho_257 (x_dk dn_257_0_0_ok 17 rfl)))
  (e_Tok2
  (e_Lok (ld_iload_n_2 (x_dk dn_257_0_0_ok 18 rfl)))
  (e_Lok (e_rt (I := eI) (k := 1) ⟨(x_dk dn_257_0_0_ok 19 rfl), rfl⟩)))))))
def te_257 : Nat → eE := te_257_0
theorem te_257_ok : ∀ pc, e_EOq eft cls elay eI n_257 pc (te_257 pc) := te_257_0_ok
theorem ho_258 : (xm_y n_258).cls = "RobotCellHouse" := rfl
def dn_258_0_0 : List (Nat × Instr × Nat) := [(0, .aload_n 0, 1), (1, .getfield 27, 3), (4, .iload_n 1, 1), (5, .aaload, 1), (6, .getfield 123, 3), (9, .iload_n 2, 1), (10, .aaload, 1), (11, .getfield 326, 3), (14, .istore 4, 2), (16, .iload_n 3, 1), (17, .iload 4, 2), (19, .if_icmp .eq 35, 3), (22, .aload_n 0, 1), (23, .getfield 27, 3), (26, .iload_n 1, 1), (27, .aaload, 1), (28, .getfield 123, 3), (31, .iload_n 2, 1), (32, .aaload, 1), (33, .iload_n 3, 1), (34, .putfield 326, 3), (37, .aload_n 0, 1), (38, .getfield 27, 3), (41, .iload_n 1, 1), (42, .aaload, 1)]
set_option maxRecDepth 20000 in
theorem dn_258_0_0_ok : dn_258_0_0.all (fun q => decide (decode (xm_b n_258) q.1 = .ok (q.2.1, q.2.2))) = true := xa_g_ok (by decide +kernel)
def dn_258_0_1 : List (Nat × Instr × Nat) := [(43, .invokevirtual 466, 3), (46, .aload_n 0, 1), (47, .getfield 19, 3), (50, .iload_n 1, 1), (51, .invokevirtual 468, 3), (54, .iload 4, 2), (56, .ireturn, 1)]
set_option maxRecDepth 20000 in
theorem dn_258_0_1_ok : dn_258_0_1.all (fun q => decide (decode (xm_b n_258) q.1 = .ok (q.2.1, q.2.2))) = true := xa_g_ok (by decide +kernel)
def te_258_0 : Nat → eE := (e_T 27 (e_T 11 (e_T 5 (e_T 1 (e_T 0 (e_L 0 (0, ei_load 0 2 1, 0, 0)) (e_L 1 (0, ei_getf eft elay 11 2 4, 0, 0))) (e_T 4 (e_L 4 (0, ei_load 1 0 5, 0, 0)) (e_L 5 (0, ei_aald elay 6, 0, 0)))) (e_T 9 (e_T 6 (e_L 6 (0, ei_getf eft elay 0 0 9, 0, 0)) (e_L 9 (0, ei_load 2 0 10, 0, 0))) (e_T 10 (e_L 10 (0, ei_aald elay 11, 0, 0)) (e_L 11 (0, ei_getf eft elay 5 7 14, 0, 0))))) (e_T 19 (e_T 16 (e_T 14 (e_L 14 (0, ei_stor 4 0 16, 0, 0)) (e_L 16 (0, ei_load 3 0 17, 0, 0))) (e_T 17 (e_L 17 (0, ei_load 4 0 19, 0, 0)) (e_L 19 (0, ei_if2 0 54 22, 0, 0)))) (e_T 23 (e_T 22 (e_L 22 (0, ei_load 0 2 23, 0, 0)) (e_L 23 (0, ei_getf eft elay 11 2 26, 0, 0))) (e_T 26 (e_L 26 (0, ei_load 1 0 27, 0, 0)) (e_L 27 (0, ei_aald elay 28, 0, 0)))))) (e_T 41 (e_T 33 (e_T 31 (e_T 28 (e_L 28 (0, ei_getf eft elay 0 0 31, 0, 0)) (e_L 31 (0, ei_load 2 0 32, 0, 0))) (e_T 32 (e_L 32 (0, ei_aald elay 33, 0, 0)) (e_L 33 (0, ei_load 3 0 34, 0, 0)))) (e_T 37 (e_T 34 (e_L 34 (0, ei_putf eft elay 5 7 0 37, 0, 0)) (e_L 37 (0, ei_load 0 2 38, 0, 0))) (e_T 38 (e_L 38 (0, ei_getf eft elay 11 2 41, 0, 0)) (e_L 41 (0, ei_load 1 0 42, 0, 0))))) (e_T 47 (e_T 43 (e_T 42 (e_L 42 (0, ei_aald elay 43, 0, 0)) (e_L 43 (2, e_nof, 10, 1))) (e_T 46 (e_L 46 (0, ei_load 0 2 47, 0, 0)) (e_L 47 (0, ei_getf eft elay 11 1 50, 0, 0)))) (e_T 51 (e_T 50 (e_L 50 (0, ei_load 1 0 51, 0, 0)) (e_L 51 (2, e_nof, 39, 2))) (e_T 54 (e_L 54 (0, ei_load 4 0 56, 0, 0)) (e_L 56 (1, e_nof, 1, 0)))))))
set_option maxRecDepth 20000 in
set_option maxHeartbeats 4000000 in
theorem te_258_0_ok : ∀ pc, e_EOq eft cls elay eI n_258 pc (te_258_0 pc) :=
  (e_Tok2
  (e_Tok2
  (e_Tok2
  (e_Tok2
  (e_Tok2
  (e_Lok (ld_aload_n_0 (x_dk dn_258_0_0_ok 0 rfl)))
  (e_Lok (lk_11_27g ho_258 (x_dk dn_258_0_0_ok 1 rfl))))
  (e_Tok2
  (e_Lok (ld_iload_n_1 (x_dk dn_258_0_0_ok 2 rfl)))
  (e_Lok (e_st (I := eI) (er_aaload (x_dk dn_258_0_0_ok 3 rfl)) nx_aald))))
  (e_Tok2
  (e_Tok2
  (e_Lok (lk_11_123g ho_258 (x_dk dn_258_0_0_ok 4 rfl)))
  (e_Lok (ld_iload_n_2 (x_dk dn_258_0_0_ok 5 rfl))))
  (e_Tok2
  (e_Lok (e_st (I := eI) (er_aaload (x_dk dn_258_0_0_ok 6 rfl)) nx_aald))
  (e_Lok (lk_11_326g ho_258 (x_dk dn_258_0_0_ok 7 rfl))))))
  (e_Tok2
  (e_Tok2
  (e_Tok2
  (e_Lok (e_st (I := eI) (er_istore (i := 4) (x_dk dn_258_0_0_ok 8 rfl) (by decide +kernel)) nx_stor))
  (e_Lok (ld_iload_n_3 (x_dk dn_258_0_0_ok 9 rfl))))
  (e_Tok2
  (e_Lok (ld_iload_4 (x_dk dn_258_0_0_ok 10 rfl)))
  (e_Lok (e_st (I := eI) (er_icmpeq (off := 35) (tg := 54) (x_dk dn_258_0_0_ok 11 rfl) (by decide)) nx_if2))))
  (e_Tok2
  (e_Tok2
  (e_Lok (ld_aload_n_0 (x_dk dn_258_0_0_ok 12 rfl)))
  (e_Lok (lk_11_27g ho_258 (x_dk dn_258_0_0_ok 13 rfl))))
  (e_Tok2
  (e_Lok (ld_iload_n_1 (x_dk dn_258_0_0_ok 14 rfl)))
  (e_Lok (e_st (I := eI) (er_aaload (x_dk dn_258_0_0_ok 15 rfl)) nx_aald))))))
  (e_Tok2
  (e_Tok2
  (e_Tok2
  (e_Tok2
  (e_Lok (lk_11_123g ho_258 (x_dk dn_258_0_0_ok 16 rfl)))
  (e_Lok (ld_iload_n_2 (x_dk dn_258_0_0_ok 17 rfl))))
  (e_Tok2
  (e_Lok (e_st (I := eI) (er_aaload (x_dk dn_258_0_0_ok 18 rfl)) nx_aald))
  (e_Lok (ld_iload_n_3 (x_dk dn_258_0_0_ok 19 rfl)))))
  (e_Tok2
  (e_Tok2
  (e_Lok (lk_11_326p ho_258 (x_dk dn_258_0_0_ok 20 rfl)))
  (e_Lok (ld_aload_n_0 (x_dk dn_258_0_0_ok 21 rfl))))
  (e_Tok2
  (e_Lok (lk_11_27g ho_258 (x_dk dn_258_0_0_ok 22 rfl)))
  (e_Lok (ld_iload_n_1 (x_dk dn_258_0_0_ok 23 rfl))))))
  (e_Tok2
  (e_Tok2
  (e_Tok2
  (e_Lok (e_st (I := eI) (er_aaload (x_dk dn_258_0_0_ok 24 rfl)) nx_aald))
  (e_Lok (lk_11_466 ho_258 (x_dk dn_258_0_1_ok 0 rfl))))
  (e_Tok2
  (e_Lok (ld_aload_n_0 (x_dk dn_258_0_1_ok 1 rfl)))
  (e_Lok (lk_11_19g ho_258 (x_dk dn_258_0_1_ok 2 rfl)))))
  (e_Tok2
  (e_Tok2
  (e_Lok (ld_iload_n_1 (x_dk dn_258_0_1_ok 3 rfl)))
  (e_Lok (lk_11_468 ho_258 (x_dk dn_258_0_1_ok 4 rfl))))
  (e_Tok2
  (e_Lok (ld_iload_4 (x_dk dn_258_0_1_ok 5 rfl)))
  (e_Lok (e_rt (I := eI) (k := 1) ⟨(x_dk dn_258_0_1_ok 6 rfl), rfl⟩)))))))
def te_258 : Nat → eE := te_258_0
theorem te_258_ok : ∀ pc, e_EOq eft cls elay eI n_258 pc (te_258 pc) := te_258_0_ok
theorem ho_259 : (xm_y n_259).cls = "RobotCellHouse" := rfl
def dn_259_0_0 : List (Nat × Instr × Nat) := [(0, .aload_n 0, 1), (1, .getfield 42, 3), (4, .dup, 1), (5, .getfield 86, 3), (8, .iconst 1, 1), (9, .iadd, 1), (10, .putfield 86, 3), (13, .aload_n 0, 1), (14, .getfield 42, 3), (17, .invokevirtual 471, 3), (20, .istore_n 1, 1), (21, .aload_n 0, 1), (22, .getfield 42, 3), (25, .getfield 274, 3), (28, .ifCond .eq 13, 3), (31, .iload_n 1, 1), (32, .ifCond .lt 9, 3), (35, .aload_n 0, 1), (36, .iconst 1, 1), (37, .iload_n 1, 1), (38, .invokevirtual 460, 3), (41, .iconst 0, 1), (42, .istore_n 2, 1), (43, .iload_n 2, 1), (44, .bipush 16, 2)]
set_option maxRecDepth 20000 in
theorem dn_259_0_0_ok : dn_259_0_0.all (fun q => decide (decode (xm_b n_259) q.1 = .ok (q.2.1, q.2.2))) = true := xa_g_ok (by decide +kernel)
def dn_259_0_1 : List (Nat × Instr × Nat) := [(46, .if_icmp .ge 36, 3), (49, .aload_n 0, 1), (50, .getfield 19, 3), (53, .iload_n 2, 1), (54, .invokevirtual 474, 3), (57, .ifCond .eq 19, 3), (60, .aload_n 0, 1), (61, .getfield 19, 3), (64, .aload_n 0, 1), (65, .getfield 19, 3), (68, .getfield 338, 3), (71, .iload_n 2, 1), (72, .aaload, 1), (73, .invokevirtual 477, 3), (76, .iinc 2 1, 3), (79, .goto (-36), 3), (82, .iconst 0, 1), (83, .istore_n 2, 1), (84, .iload_n 2, 1), (85, .aload_n 0, 1), (86, .getfield 94, 3), (89, .if_icmp .ge 14, 3), (92, .aload_n 0, 1), (93, .iload_n 2, 1), (94, .invokevirtual 481, 3)]
set_option maxRecDepth 20000 in
theorem dn_259_0_1_ok : dn_259_0_1.all (fun q => decide (decode (xm_b n_259) q.1 = .ok (q.2.1, q.2.2))) = true := xa_g_ok (by decide +kernel)
def dn_259_0_2 : List (Nat × Instr × Nat) := [(97, .iinc 2 1, 3), (100, .goto (-16), 3), (103, .aload_n 0, 1), (104, .getfield 42, 3), (107, .getfield 274, 3), (110, .ifCond .eq 7, 3), (113, .aload_n 0, 1), (114, .invokevirtual 484, 3), (117, .iconst 0, 1), (118, .istore_n 2, 1), (119, .iload_n 2, 1), (120, .aload_n 0, 1), (121, .getfield 37, 3), (124, .getfield 167, 3), (127, .if_icmp .ge 62, 3), (130, .aload_n 0, 1), (131, .getfield 37, 3), (134, .iload_n 2, 1), (135, .invokevirtual 487, 3), (138, .aload_n 0, 1), (139, .getfield 37, 3), (142, .getfield 181, 3), (145, .iload_n 2, 1), (146, .iaload, 1), (147, .ifCond .lt 36, 3)]
set_option maxRecDepth 20000 in
theorem dn_259_0_2_ok : dn_259_0_2.all (fun q => decide (decode (xm_b n_259) q.1 = .ok (q.2.1, q.2.2))) = true := xa_g_ok (by decide +kernel)
def dn_259_0_3 : List (Nat × Instr × Nat) := [(150, .aload_n 0, 1), (151, .getfield 32, 3), (154, .aload_n 0, 1), (155, .getfield 37, 3), (158, .getfield 181, 3), (161, .iload_n 2, 1), (162, .iaload, 1), (163, .aload_n 0, 1), (164, .getfield 37, 3), (167, .iload_n 2, 1), (168, .invokevirtual 488, 3), (171, .ifCond .eq 7, 3), (174, .iconst 1, 1), (175, .goto 4, 3), (178, .iconst 0, 1), (179, .invokevirtual 429, 3), (182, .pop, 1), (183, .iinc 2 1, 3), (186, .goto (-67), 3), (189, .iconst 0, 1), (190, .istore_n 2, 1), (191, .iload_n 2, 1), (192, .aload_n 0, 1), (193, .getfield 94, 3), (196, .if_icmp .ge 18, 3)]
set_option maxRecDepth 20000 in
theorem dn_259_0_3_ok : dn_259_0_3.all (fun q => decide (decode (xm_b n_259) q.1 = .ok (q.2.1, q.2.2))) = true := xa_g_ok (by decide +kernel)
def dn_259_1_0 : List (Nat × Instr × Nat) := [(199, .aload_n 0, 1), (200, .getfield 27, 3), (203, .iload_n 2, 1), (204, .aaload, 1), (205, .invokevirtual 491, 3), (208, .iinc 2 1, 3), (211, .goto (-20), 3), (214, .aload_n 0, 1), (215, .getfield 67, 3), (218, .ifCond .eq 27, 3), (221, .aload_n 0, 1), (222, .getfield 64, 3), (225, .iconst 3, 1), (226, .dup2, 1), (227, .iaload, 1), (228, .aload_n 0, 1), (229, .getfield 37, 3), (232, .aload_n 0, 1), (233, .getfield 27, 3), (236, .aload_n 0, 1), (237, .getfield 94, 3), (240, .invokevirtual 494, 3), (243, .iadd, 1), (244, .iastore, 1), (245, .return_, 1)]
set_option maxRecDepth 20000 in
theorem dn_259_1_0_ok : dn_259_1_0.all (fun q => decide (decode (xm_b n_259) q.1 = .ok (q.2.1, q.2.2))) = true := xa_g_ok (by decide +kernel)
def te_259_0 : Nat → eE := (e_T 28 (e_T 10 (e_T 4 (e_T 0 (e_L 0 (0, ei_load 0 2 1, 0, 0)) (e_T 1 (e_L 1 (0, ei_getf eft elay 11 5 4, 0, 0)) (e_L 4 (0, ei_stk ef_dup 5, 0, 0)))) (e_T 8 (e_T 5 (e_L 5 (0, ei_getf eft elay 2 0 8, 0, 0)) (e_L 8 (0, ei_push (0, 1) 9, 0, 0))) (e_T 9 (e_L 9 (0, ei_bin eF_add 10, 0, 0)) (e_L 10 (0, ei_putf eft elay 2 0 0 13, 0, 0))))) (e_T 20 (e_T 14 (e_T 13 (e_L 13 (0, ei_load 0 2 14, 0, 0)) (e_L 14 (0, ei_getf eft elay 11 5 17, 0, 0))) (e_T 17 (e_L 17 (2, e_nof, 32, 1)) (e_L 20 (0, ei_stor 1 0 21, 0, 0)))) (e_T 22 (e_T 21 (e_L 21 (0, ei_load 0 2 22, 0, 0)) (e_L 22 (0, ei_getf eft elay 11 5 25, 0, 0))) (e_T 25 (e_L 25 (0, ei_getf eft elay 2 3 28, 0, 0)) (e_L 28 (0, ei_if1 0 41 31, 0, 0)))))) (e_T 42 (e_T 36 (e_T 32 (e_T 31 (e_L 31 (0, ei_load 1 0 32, 0, 0)) (e_L 32 (0, ei_if1 2 41 35, 0, 0))) (e_T 35 (e_L 35 (0, ei_load 0 2 36, 0, 0)) (e_L 36 (0, ei_push (0, 1) 37, 0, 0)))) (e_T 38 (e_T 37 (e_L 37 (0, ei_load 1 0 38, 0, 0)) (e_L 38 (2, e_nof, 265, 3))) (e_T 41 (e_L 41 (0, ei_push (0, 0) 42, 0, 0)) (e_L 42 (0, ei_stor 2 0 43, 0, 0))))) (e_T 49 (e_T 44 (e_T 43 (e_L 43 (0, ei_load 2 0 44, 0, 0)) (e_L 44 (0, ei_push (0, 16) 46, 0, 0))) (e_T 46 (e_L 46 (0, ei_if2 3 82 49, 0, 0)) (e_L 49 (0, ei_load 0 2 50, 0, 0)))) (e_T 53 (e_T 50 (e_L 50 (0, ei_getf eft elay 11 1 53, 0, 0)) (e_L 53 (0, ei_load 2 0 54, 0, 0))) (e_T 54 (e_L 54 (2, e_nof, 42, 2)) (e_L 57 (0, ei_if1 0 76 60, 0, 0)))))))
set_option maxRecDepth 20000 in
set_option maxHeartbeats 4000000 in
theorem te_259_0_ok : ∀ pc, e_EOq eft cls elay eI n_259 pc (te_259_0 pc) :=
  (e_Tok2
  (e_Tok2
  (e_Tok2
  (e_Tok2
  (e_Lok (ld_aload_n_0 (x_dk dn_259_0_0_ok 0 rfl)))
  (e_Tok2
  (e_Lok (lk_11_42g ho_259 (x_dk dn_259_0_0_ok 1 rfl)))
  (e_Lok (e_st (I := eI) (er_dup (x_dk dn_259_0_0_ok 2 rfl)) (nx_stk bf_dup)))))
  (e_Tok2
  (e_Tok2
  (e_Lok (lk_11_86g ho_259 (x_dk dn_259_0_0_ok 3 rfl)))
  (e_Lok (ps_iconst_1 (x_dk dn_259_0_0_ok 4 rfl))))
  (e_Tok2
  (e_Lok (sm_iadd (x_dk dn_259_0_0_ok 5 rfl)))
  (e_Lok (lk_11_86p ho_259 (x_dk dn_259_0_0_ok 6 rfl))))))
  (e_Tok2
  (e_Tok2
  (e_Tok2
  (e_Lok (ld_aload_n_0 (x_dk dn_259_0_0_ok 7 rfl)))
  (e_Lok (lk_11_42g ho_259 (x_dk dn_259_0_0_ok 8 rfl))))
  (e_Tok2
  (e_Lok (lk_11_471 ho_259 (x_dk dn_259_0_0_ok 9 rfl)))
  (e_Lok (e_st (I := eI) (er_istore_n (i := 1) (x_dk dn_259_0_0_ok 10 rfl) (by decide +kernel)) nx_stor))))
  (e_Tok2
  (e_Tok2
  (e_Lok (ld_aload_n_0 (x_dk dn_259_0_0_ok 11 rfl)))
  (e_Lok (lk_11_42g ho_259 (x_dk dn_259_0_0_ok 12 rfl))))
  (e_Tok2
  (e_Lok (lk_11_274g ho_259 (x_dk dn_259_0_0_ok 13 rfl)))
  (e_Lok (e_st (I := eI) (er_ifeq (off := 13) (tg := 41) (x_dk dn_259_0_0_ok 14 rfl) (by decide)) nx_if1))))))
  (e_Tok2
  (e_Tok2
  (e_Tok2
  (e_Tok2
  (e_Lok (ld_iload_n_1 (x_dk dn_259_0_0_ok 15 rfl)))
  (e_Lok (e_st (I := eI) (er_iflt (off := 9) (tg := 41) (x_dk dn_259_0_0_ok 16 rfl) (by decide)) nx_if1)))
  (e_Tok2
  (e_Lok (ld_aload_n_0 (x_dk dn_259_0_0_ok 17 rfl)))
  (e_Lok (ps_iconst_1 (x_dk dn_259_0_0_ok 18 rfl)))))
  (e_Tok2
  (e_Tok2
  (e_Lok (ld_iload_n_1 (x_dk dn_259_0_0_ok 19 rfl)))
  (e_Lok (lk_11_460 ho_259 (x_dk dn_259_0_0_ok 20 rfl))))
  (e_Tok2
  (e_Lok (ps_iconst_0 (x_dk dn_259_0_0_ok 21 rfl)))
  (e_Lok (e_st (I := eI) (er_istore_n (i := 2) (x_dk dn_259_0_0_ok 22 rfl) (by decide +kernel)) nx_stor)))))
  (e_Tok2
  (e_Tok2
  (e_Tok2
  (e_Lok (ld_iload_n_2 (x_dk dn_259_0_0_ok 23 rfl)))
  (e_Lok (ps_bipush_16 (x_dk dn_259_0_0_ok 24 rfl))))
  (e_Tok2
  (e_Lok (e_st (I := eI) (er_icmpge (off := 36) (tg := 82) (x_dk dn_259_0_1_ok 0 rfl) (by decide)) nx_if2))
  (e_Lok (ld_aload_n_0 (x_dk dn_259_0_1_ok 1 rfl)))))
  (e_Tok2
  (e_Tok2
  (e_Lok (lk_11_19g ho_259 (x_dk dn_259_0_1_ok 2 rfl)))
  (e_Lok (ld_iload_n_2 (x_dk dn_259_0_1_ok 3 rfl))))
  (e_Tok2
  (e_Lok (lk_11_474 ho_259 (x_dk dn_259_0_1_ok 4 rfl)))
  (e_Lok (e_st (I := eI) (er_ifeq (off := 19) (tg := 76) (x_dk dn_259_0_1_ok 5 rfl) (by decide)) nx_if1)))))))
def te_259_31 : Nat → eE := (e_T 86 (e_T 72 (e_T 64 (e_T 60 (e_L 60 (0, ei_load 0 2 61, 0, 0)) (e_T 61 (e_L 61 (0, ei_getf eft elay 11 1 64, 0, 0)) (e_L 64 (0, ei_load 0 2 65, 0, 0)))) (e_T 68 (e_T 65 (e_L 65 (0, ei_getf eft elay 11 1 68, 0, 0)) (e_L 68 (0, ei_getf eft elay 3 4 71, 0, 0))) (e_T 71 (e_L 71 (0, ei_load 2 0 72, 0, 0)) (e_L 72 (0, ei_aald elay 73, 0, 0))))) (e_T 82 (e_T 76 (e_T 73 (e_L 73 (2, e_nof, 43, 2)) (e_L 76 (0, ei_inc 2 1 79, 0, 0))) (e_T 79 (e_L 79 (0, ei_goto 43, 0, 0)) (e_L 82 (0, ei_push (0, 0) 83, 0, 0)))) (e_T 84 (e_T 83 (e_L 83 (0, ei_stor 2 0 84, 0, 0)) (e_L 84 (0, ei_load 2 0 85, 0, 0))) (e_T 85 (e_L 85 (0, ei_load 0 2 86, 0, 0)) (e_L 86 (0, ei_getf eft elay 11 11 89, 0, 0)))))) (e_T 104 (e_T 94 (e_T 92 (e_T 89 (e_L 89 (0, ei_if2 3 103 92, 0, 0)) (e_L 92 (0, ei_load 0 2 93, 0, 0))) (e_T 93 (e_L 93 (0, ei_load 2 0 94, 0, 0)) (e_L 94 (2, e_nof, 260, 2)))) (e_T 100 (e_T 97 (e_L 97 (0, ei_inc 2 1 100, 0, 0)) (e_L 100 (0, ei_goto 84, 0, 0))) (e_T 103 (e_L 103 (0, ei_load 0 2 104, 0, 0)) (e_L 104 (0, ei_getf eft elay 11 5 107, 0, 0))))) (e_T 114 (e_T 110 (e_T 107 (e_L 107 (0, ei_getf eft elay 2 3 110, 0, 0)) (e_L 110 (0, ei_if1 0 117 113, 0, 0))) (e_T 113 (e_L 113 (0, ei_load 0 2 114, 0, 0)) (e_L 114 (2, e_nof, 262, 1)))) (e_T 118 (e_T 117 (e_L 117 (0, ei_push (0, 0) 118, 0, 0)) (e_L 118 (0, ei_stor 2 0 119, 0, 0))) (e_T 119 (e_L 119 (0, ei_load 2 0 120, 0, 0)) (e_L 120 (0, ei_load 0 2 121, 0, 0)))))))
set_option maxRecDepth 20000 in
set_option maxHeartbeats 4000000 in
theorem te_259_31_ok : ∀ pc, e_EOq eft cls elay eI n_259 pc (te_259_31 pc) :=
  (e_Tok2
  (e_Tok2
  (e_Tok2
  (e_Tok2
  (e_Lok (ld_aload_n_0 (x_dk dn_259_0_1_ok 6 rfl)))
  (e_Tok2
  (e_Lok (lk_11_19g ho_259 (x_dk dn_259_0_1_ok 7 rfl)))
  (e_Lok (ld_aload_n_0 (x_dk dn_259_0_1_ok 8 rfl)))))
  (e_Tok2
  (e_Tok2
  (e_Lok (lk_11_19g ho_259 (x_dk dn_259_0_1_ok 9 rfl)))
  (e_Lok (lk_11_338g ho_259 (x_dk dn_259_0_1_ok 10 rfl))))
  (e_Tok2
  (e_Lok (ld_iload_n_2 (x_dk dn_259_0_1_ok 11 rfl)))
  (e_Lok (e_st (I := eI) (er_aaload (x_dk dn_259_0_1_ok 12 rfl)) nx_aald)))))
  (e_Tok2
  (e_Tok2
  (e_Tok2
  (e_Lok (lk_11_477 ho_259 (x_dk dn_259_0_1_ok 13 rfl)))
  (e_Lok (e_st (I := eI) (er_iinc (i := 2) (n := 1) (x_dk dn_259_0_1_ok 14 rfl) (by decide +kernel) (by decide)) nx_inc)))
  (e_Tok2
  (e_Lok (e_st (I := eI) (er_goto (off := (-36)) (tg := 43) (x_dk dn_259_0_1_ok 15 rfl) (by decide)) nx_goto))
  (e_Lok (ps_iconst_0 (x_dk dn_259_0_1_ok 16 rfl)))))
  (e_Tok2
  (e_Tok2
  (e_Lok (e_st (I := eI) (er_istore_n (i := 2) (x_dk dn_259_0_1_ok 17 rfl) (by decide +kernel)) nx_stor))
  (e_Lok (ld_iload_n_2 (x_dk dn_259_0_1_ok 18 rfl))))
  (e_Tok2
  (e_Lok (ld_aload_n_0 (x_dk dn_259_0_1_ok 19 rfl)))
  (e_Lok (lk_11_94g ho_259 (x_dk dn_259_0_1_ok 20 rfl)))))))
  (e_Tok2
  (e_Tok2
  (e_Tok2
  (e_Tok2
  (e_Lok (e_st (I := eI) (er_icmpge (off := 14) (tg := 103) (x_dk dn_259_0_1_ok 21 rfl) (by decide)) nx_if2))
  (e_Lok (ld_aload_n_0 (x_dk dn_259_0_1_ok 22 rfl))))
  (e_Tok2
  (e_Lok (ld_iload_n_2 (x_dk dn_259_0_1_ok 23 rfl)))
  (e_Lok (lk_11_481 ho_259 (x_dk dn_259_0_1_ok 24 rfl)))))
  (e_Tok2
  (e_Tok2
  (e_Lok (e_st (I := eI) (er_iinc (i := 2) (n := 1) (x_dk dn_259_0_2_ok 0 rfl) (by decide +kernel) (by decide)) nx_inc))
  (e_Lok (e_st (I := eI) (er_goto (off := (-16)) (tg := 84) (x_dk dn_259_0_2_ok 1 rfl) (by decide)) nx_goto)))
  (e_Tok2
  (e_Lok (ld_aload_n_0 (x_dk dn_259_0_2_ok 2 rfl)))
  (e_Lok (lk_11_42g ho_259 (x_dk dn_259_0_2_ok 3 rfl))))))
  (e_Tok2
  (e_Tok2
  (e_Tok2
  (e_Lok (lk_11_274g ho_259 (x_dk dn_259_0_2_ok 4 rfl)))
  (e_Lok (e_st (I := eI) (er_ifeq (off := 7) (tg := 117) (x_dk dn_259_0_2_ok 5 rfl) (by decide)) nx_if1)))
  (e_Tok2
  (e_Lok (ld_aload_n_0 (x_dk dn_259_0_2_ok 6 rfl)))
  (e_Lok (lk_11_484 ho_259 (x_dk dn_259_0_2_ok 7 rfl)))))
  (e_Tok2
  (e_Tok2
  (e_Lok (ps_iconst_0 (x_dk dn_259_0_2_ok 8 rfl)))
  (e_Lok (e_st (I := eI) (er_istore_n (i := 2) (x_dk dn_259_0_2_ok 9 rfl) (by decide +kernel)) nx_stor)))
  (e_Tok2
  (e_Lok (ld_iload_n_2 (x_dk dn_259_0_2_ok 10 rfl)))
  (e_Lok (ld_aload_n_0 (x_dk dn_259_0_2_ok 11 rfl))))))))
def te_259_62 : Nat → eE := (e_T 151 (e_T 135 (e_T 127 (e_T 121 (e_L 121 (0, ei_getf eft elay 11 4 124, 0, 0)) (e_T 124 (e_L 124 (0, ei_getf eft elay 4 0 127, 0, 0)) (e_L 127 (0, ei_if2 3 189 130, 0, 0)))) (e_T 131 (e_T 130 (e_L 130 (0, ei_load 0 2 131, 0, 0)) (e_L 131 (0, ei_getf eft elay 11 4 134, 0, 0))) (e_T 134 (e_L 134 (0, ei_load 2 0 135, 0, 0)) (e_L 135 (2, e_nof, 86, 2))))) (e_T 145 (e_T 139 (e_T 138 (e_L 138 (0, ei_load 0 2 139, 0, 0)) (e_L 139 (0, ei_getf eft elay 11 4 142, 0, 0))) (e_T 142 (e_L 142 (0, ei_getf eft elay 4 4 145, 0, 0)) (e_L 145 (0, ei_load 2 0 146, 0, 0)))) (e_T 147 (e_T 146 (e_L 146 (0, ei_ald elay false 147, 0, 0)) (e_L 147 (0, ei_if1 2 183 150, 0, 0))) (e_T 150 (e_L 150 (0, ei_load 0 2 151, 0, 0)) (e_L 151 (0, ei_getf eft elay 11 3 154, 0, 0)))))) (e_T 167 (e_T 161 (e_T 155 (e_T 154 (e_L 154 (0, ei_load 0 2 155, 0, 0)) (e_L 155 (0, ei_getf eft elay 11 4 158, 0, 0))) (e_T 158 (e_L 158 (0, ei_getf eft elay 4 4 161, 0, 0)) (e_L 161 (0, ei_load 2 0 162, 0, 0)))) (e_T 163 (e_T 162 (e_L 162 (0, ei_ald elay false 163, 0, 0)) (e_L 163 (0, ei_load 0 2 164, 0, 0))) (e_T 164 (e_L 164 (0, ei_getf eft elay 11 4 167, 0, 0)) (e_L 167 (0, ei_load 2 0 168, 0, 0))))) (e_T 175 (e_T 171 (e_T 168 (e_L 168 (2, e_nof, 87, 2)) (e_L 171 (0, ei_if1 0 178 174, 0, 0))) (e_T 174 (e_L 174 (0, ei_push (0, 1) 175, 0, 0)) (e_L 175 (0, ei_goto 179, 0, 0)))) (e_T 179 (e_T 178 (e_L 178 (0, ei_push (0, 0) 179, 0, 0)) (e_L 179 (2, e_nof, 113, 3))) (e_T 182 (e_L 182 (0, ei_stk ef_pop 183, 0, 0)) (e_L 183 (0, ei_inc 2 1 186, 0, 0)))))))
set_option maxRecDepth 20000 in
set_option maxHeartbeats 4000000 in
theorem te_259_62_ok : ∀ pc, e_EOq eft cls elay eI n_259 pc (te_259_62 pc) :=
  (e_Tok2
  (e_Tok2
  (e_Tok2
  (e_Tok2
  (e_Lok (lk_11_37g ho_259 (x_dk dn_259_0_2_ok 12 rfl)))
  (e_Tok2
  (e_Lok (lk_11_167g ho_259 (x_dk dn_259_0_2_ok 13 rfl)))
  (e_Lok (e_st (I := eI) (er_icmpge (off := 62) (tg := 189) (x_dk dn_259_0_2_ok 14 rfl) (by decide)) nx_if2))))
  (e_Tok2
  (e_Tok2
  (e_Lok (ld_aload_n_0 (x_dk dn_259_0_2_ok 15 rfl)))
  (e_Lok (lk_11_37g ho_259 (x_dk dn_259_0_2_ok 16 rfl))))
  (e_Tok2
  (e_Lok (ld_iload_n_2 (x_dk dn_259_0_2_ok 17 rfl)))
  (e_Lok (lk_11_487 ho_259 (x_dk dn_259_0_2_ok 18 rfl))))))
  (e_Tok2
  (e_Tok2
  (e_Tok2
  (e_Lok (ld_aload_n_0 (x_dk dn_259_0_2_ok 19 rfl)))
  (e_Lok (lk_11_37g ho_259 (x_dk dn_259_0_2_ok 20 rfl))))
  (e_Tok2
  (e_Lok (lk_11_181g ho_259 (x_dk dn_259_0_2_ok 21 rfl)))
  (e_Lok (ld_iload_n_2 (x_dk dn_259_0_2_ok 22 rfl)))))
  (e_Tok2
  (e_Tok2
  (e_Lok (sm_iaload (x_dk dn_259_0_2_ok 23 rfl)))
  (e_Lok (e_st (I := eI) (er_iflt (off := 36) (tg := 183) (x_dk dn_259_0_2_ok 24 rfl) (by decide)) nx_if1)))
  (e_Tok2
  (e_Lok (ld_aload_n_0 (x_dk dn_259_0_3_ok 0 rfl)))
  (e_Lok (lk_11_32g ho_259 (x_dk dn_259_0_3_ok 1 rfl)))))))
  (e_Tok2
  (e_Tok2
  (e_Tok2
  (e_Tok2
  (e_Lok (ld_aload_n_0 (x_dk dn_259_0_3_ok 2 rfl)))
  (e_Lok (lk_11_37g ho_259 (x_dk dn_259_0_3_ok 3 rfl))))
  (e_Tok2
  (e_Lok (lk_11_181g ho_259 (x_dk dn_259_0_3_ok 4 rfl)))
  (e_Lok (ld_iload_n_2 (x_dk dn_259_0_3_ok 5 rfl)))))
  (e_Tok2
  (e_Tok2
  (e_Lok (sm_iaload (x_dk dn_259_0_3_ok 6 rfl)))
  (e_Lok (ld_aload_n_0 (x_dk dn_259_0_3_ok 7 rfl))))
  (e_Tok2
  (e_Lok (lk_11_37g ho_259 (x_dk dn_259_0_3_ok 8 rfl)))
  (e_Lok (ld_iload_n_2 (x_dk dn_259_0_3_ok 9 rfl))))))
  (e_Tok2
  (e_Tok2
  (e_Tok2
  (e_Lok (lk_11_488 ho_259 (x_dk dn_259_0_3_ok 10 rfl)))
  (e_Lok (e_st (I := eI) (er_ifeq (off := 7) (tg := 178) (x_dk dn_259_0_3_ok 11 rfl) (by decide)) nx_if1)))
  (e_Tok2
  (e_Lok (ps_iconst_1 (x_dk dn_259_0_3_ok 12 rfl)))
  (e_Lok (e_st (I := eI) (er_goto (off := 4) (tg := 179) (x_dk dn_259_0_3_ok 13 rfl) (by decide)) nx_goto))))
  (e_Tok2
  (e_Tok2
  (e_Lok (ps_iconst_0 (x_dk dn_259_0_3_ok 14 rfl)))
  (e_Lok (lk_11_429 ho_259 (x_dk dn_259_0_3_ok 15 rfl))))
  (e_Tok2
  (e_Lok (e_st (I := eI) (er_pop (x_dk dn_259_0_3_ok 16 rfl)) (nx_stk bf_pop)))
  (e_Lok (e_st (I := eI) (er_iinc (i := 2) (n := 1) (x_dk dn_259_0_3_ok 17 rfl) (by decide +kernel) (by decide)) nx_inc)))))))
def te_259_93 : Nat → eE := (e_T 215 (e_T 199 (e_T 191 (e_T 189 (e_T 186 (e_L 186 (0, ei_goto 119, 0, 0)) (e_L 189 (0, ei_push (0, 0) 190, 0, 0))) (e_T 190 (e_L 190 (0, ei_stor 2 0 191, 0, 0)) (e_L 191 (0, ei_load 2 0 192, 0, 0)))) (e_T 193 (e_T 192 (e_L 192 (0, ei_load 0 2 193, 0, 0)) (e_L 193 (0, ei_getf eft elay 11 11 196, 0, 0))) (e_T 196 (e_L 196 (0, ei_if2 3 214 199, 0, 0)) (e_L 199 (0, ei_load 0 2 200, 0, 0))))) (e_T 205 (e_T 203 (e_T 200 (e_L 200 (0, ei_getf eft elay 11 2 203, 0, 0)) (e_L 203 (0, ei_load 2 0 204, 0, 0))) (e_T 204 (e_L 204 (0, ei_aald elay 205, 0, 0)) (e_L 205 (2, e_nof, 11, 1)))) (e_T 211 (e_T 208 (e_L 208 (0, ei_inc 2 1 211, 0, 0)) (e_L 211 (0, ei_goto 191, 0, 0))) (e_T 214 (e_L 214 (0, ei_load 0 2 215, 0, 0)) (e_L 215 (0, ei_getf eft elay 11 14 218, 0, 0)))))) (e_T 229 (e_T 225 (e_T 221 (e_T 218 (e_L 218 (0, ei_if1 0 245 221, 0, 0)) (e_L 221 (0, ei_load 0 2 222, 0, 0))) (e_T 222 (e_L 222 (0, ei_getf eft elay 11 10 225, 0, 0)) (e_L 225 (0, ei_push (0, 3) 226, 0, 0)))) (e_T 227 (e_T 226 (e_L 226 (0, ei_stk ef_dup2 227, 0, 0)) (e_L 227 (0, ei_ald elay false 228, 0, 0))) (e_T 228 (e_L 228 (0, ei_load 0 2 229, 0, 0)) (e_L 229 (0, ei_getf eft elay 11 4 232, 0, 0))))) (e_T 237 (e_T 233 (e_T 232 (e_L 232 (0, ei_load 0 2 233, 0, 0)) (e_L 233 (0, ei_getf eft elay 11 2 236, 0, 0))) (e_T 236 (e_L 236 (0, ei_load 0 2 237, 0, 0)) (e_L 237 (0, ei_getf eft elay 11 11 240, 0, 0)))) (e_T 243 (e_T 240 (e_L 240 (2, e_nof, 88, 3)) (e_L 243 (0, ei_bin eF_add 244, 0, 0))) (e_T 244 (e_L 244 (0, ei_ast elay false 245, 0, 0)) (e_L 245 (1, e_nof, 0, 0)))))))
set_option maxRecDepth 20000 in
set_option maxHeartbeats 4000000 in
theorem te_259_93_ok : ∀ pc, e_EOq eft cls elay eI n_259 pc (te_259_93 pc) :=
  (e_Tok2
  (e_Tok2
  (e_Tok2
  (e_Tok2
  (e_Tok2
  (e_Lok (e_st (I := eI) (er_goto (off := (-67)) (tg := 119) (x_dk dn_259_0_3_ok 18 rfl) (by decide)) nx_goto))
  (e_Lok (ps_iconst_0 (x_dk dn_259_0_3_ok 19 rfl))))
  (e_Tok2
  (e_Lok (e_st (I := eI) (er_istore_n (i := 2) (x_dk dn_259_0_3_ok 20 rfl) (by decide +kernel)) nx_stor))
  (e_Lok (ld_iload_n_2 (x_dk dn_259_0_3_ok 21 rfl)))))
  (e_Tok2
  (e_Tok2
  (e_Lok (ld_aload_n_0 (x_dk dn_259_0_3_ok 22 rfl)))
  (e_Lok (lk_11_94g ho_259 (x_dk dn_259_0_3_ok 23 rfl))))
  (e_Tok2
  (e_Lok (e_st (I := eI) (er_icmpge (off := 18) (tg := 214) (x_dk dn_259_0_3_ok 24 rfl) (by decide)) nx_if2))
  (e_Lok (ld_aload_n_0 (x_dk dn_259_1_0_ok 0 rfl))))))
  (e_Tok2
  (e_Tok2
  (e_Tok2
  (e_Lok (lk_11_27g ho_259 (x_dk dn_259_1_0_ok 1 rfl)))
  (e_Lok (ld_iload_n_2 (x_dk dn_259_1_0_ok 2 rfl))))
  (e_Tok2
  (e_Lok (e_st (I := eI) (er_aaload (x_dk dn_259_1_0_ok 3 rfl)) nx_aald))
  (e_Lok (lk_11_491 ho_259 (x_dk dn_259_1_0_ok 4 rfl)))))
  (e_Tok2
  (e_Tok2
  (e_Lok (e_st (I := eI) (er_iinc (i := 2) (n := 1) (x_dk dn_259_1_0_ok 5 rfl) (by decide +kernel) (by decide)) nx_inc))
  (e_Lok (e_st (I := eI) (er_goto (off := (-20)) (tg := 191) (x_dk dn_259_1_0_ok 6 rfl) (by decide)) nx_goto)))
  (e_Tok2
  (e_Lok (ld_aload_n_0 (x_dk dn_259_1_0_ok 7 rfl)))
  (e_Lok (lk_11_67g ho_259 (x_dk dn_259_1_0_ok 8 rfl)))))))
  (e_Tok2
  (e_Tok2
  (e_Tok2
  (e_Tok2
  (e_Lok (e_st (I := eI) (er_ifeq (off := 27) (tg := 245) (x_dk dn_259_1_0_ok 9 rfl) (by decide)) nx_if1))
  (e_Lok (ld_aload_n_0 (x_dk dn_259_1_0_ok 10 rfl))))
  (e_Tok2
  (e_Lok (lk_11_64g ho_259 (x_dk dn_259_1_0_ok 11 rfl)))
  (e_Lok (ps_iconst_3 (x_dk dn_259_1_0_ok 12 rfl)))))
  (e_Tok2
  (e_Tok2
  (e_Lok (e_st (I := eI) (er_dup2 (x_dk dn_259_1_0_ok 13 rfl)) (nx_stk bf_dup2)))
  (e_Lok (sm_iaload (x_dk dn_259_1_0_ok 14 rfl))))
  (e_Tok2
  (e_Lok (ld_aload_n_0 (x_dk dn_259_1_0_ok 15 rfl)))
  (e_Lok (lk_11_37g ho_259 (x_dk dn_259_1_0_ok 16 rfl))))))
  (e_Tok2
  (e_Tok2
  (e_Tok2
  (e_Lok (ld_aload_n_0 (x_dk dn_259_1_0_ok 17 rfl)))
  (e_Lok (lk_11_27g ho_259 (x_dk dn_259_1_0_ok 18 rfl))))
  (e_Tok2
  (e_Lok (ld_aload_n_0 (x_dk dn_259_1_0_ok 19 rfl)))
  (e_Lok (lk_11_94g ho_259 (x_dk dn_259_1_0_ok 20 rfl)))))
  (e_Tok2
  (e_Tok2
  (e_Lok (lk_11_494 ho_259 (x_dk dn_259_1_0_ok 21 rfl)))
  (e_Lok (sm_iadd (x_dk dn_259_1_0_ok 22 rfl))))
  (e_Tok2
  (e_Lok (sm_iastore (x_dk dn_259_1_0_ok 23 rfl)))
  (e_Lok (e_rt (I := eI) (k := 0) ⟨(x_dk dn_259_1_0_ok 24 rfl), rfl⟩)))))))
def te_259 : Nat → eE := (e_T 120 (e_T 57 te_259_0 te_259_31) (e_T 183 te_259_62 te_259_93))
theorem te_259_ok : ∀ pc, e_EOq eft cls elay eI n_259 pc (te_259 pc) := (e_Tok2 ((e_Tok2 (te_259_0_ok) (te_259_31_ok))) ((e_Tok2 (te_259_62_ok) (te_259_93_ok))))
theorem ho_260 : (xm_y n_260).cls = "RobotCellHouse" := rfl
def dn_260_0_0 : List (Nat × Instr × Nat) := [(0, .aload_n 0, 1), (1, .getfield 27, 3), (4, .iload_n 1, 1), (5, .aaload, 1), (6, .astore_n 2, 1), (7, .aload_n 2, 1), (8, .invokevirtual 498, 3), (11, .aload_n 0, 1), (12, .getfield 42, 3), (15, .getfield 274, 3), (18, .ifCond .eq 67, 3), (21, .aload_n 2, 1), (22, .getfield 286, 3), (25, .ifCond .eq 60, 3), (28, .aload_n 2, 1), (29, .invokevirtual 501, 3), (32, .ifCond .eq 11, 3), (35, .aload_n 0, 1), (36, .getfield 19, 3), (39, .iload_n 1, 1), (40, .invokevirtual 468, 3), (43, .aload_n 2, 1), (44, .getfield 286, 3), (47, .iconst 2, 1), (48, .if_icmp .ne 17, 3)]
set_option maxRecDepth 20000 in
theorem dn_260_0_0_ok : dn_260_0_0.all (fun q => decide (decode (xm_b n_260) q.1 = .ok (q.2.1, q.2.2))) = true := xa_g_ok (by decide +kernel)
def dn_260_0_1 : List (Nat × Instr × Nat) := [(51, .aload_n 2, 1), (52, .invokevirtual 503, 3), (55, .ifCond .eq 10, 3), (58, .aload_n 2, 1), (59, .invokevirtual 506, 3), (62, .goto 23, 3), (65, .aload_n 2, 1), (66, .getfield 286, 3), (69, .iconst 1, 1), (70, .if_icmp .ne 15, 3), (73, .aload_n 2, 1), (74, .invokevirtual 509, 3), (77, .ifCond .eq 8, 3), (80, .aload_n 0, 1), (81, .iload_n 1, 1), (82, .invokevirtual 512, 3), (85, .aload_n 0, 1), (86, .getfield 67, 3), (89, .ifCond .eq 23, 3), (92, .aload_n 0, 1), (93, .getfield 64, 3), (96, .iconst 0, 1), (97, .dup2, 1), (98, .iaload, 1), (99, .aload_n 2, 1)]
set_option maxRecDepth 20000 in
theorem dn_260_0_1_ok : dn_260_0_1.all (fun q => decide (decode (xm_b n_260) q.1 = .ok (q.2.1, q.2.2))) = true := xa_g_ok (by decide +kernel)
def dn_260_0_2 : List (Nat × Instr × Nat) := [(100, .aload_n 0, 1), (101, .getfield 42, 3), (104, .getfield 274, 3), (107, .invokevirtual 515, 3), (110, .iadd, 1), (111, .iastore, 1), (112, .return_, 1)]
set_option maxRecDepth 20000 in
theorem dn_260_0_2_ok : dn_260_0_2.all (fun q => decide (decode (xm_b n_260) q.1 = .ok (q.2.1, q.2.2))) = true := xa_g_ok (by decide +kernel)
def te_260_0 : Nat → eE := (e_T 25 (e_T 8 (e_T 4 (e_T 0 (e_L 0 (0, ei_load 0 2 1, 0, 0)) (e_T 1 (e_L 1 (0, ei_getf eft elay 11 2 4, 0, 0)) (e_L 4 (0, ei_load 1 0 5, 0, 0)))) (e_T 6 (e_T 5 (e_L 5 (0, ei_aald elay 6, 0, 0)) (e_L 6 (0, ei_stor 2 2 7, 0, 0))) (e_T 7 (e_L 7 (0, ei_load 2 2 8, 0, 0)) (e_L 8 (2, e_nof, 12, 1))))) (e_T 15 (e_T 11 (e_L 11 (0, ei_load 0 2 12, 0, 0)) (e_T 12 (e_L 12 (0, ei_getf eft elay 11 5 15, 0, 0)) (e_L 15 (0, ei_getf eft elay 2 3 18, 0, 0)))) (e_T 21 (e_T 18 (e_L 18 (0, ei_if1 0 85 21, 0, 0)) (e_L 21 (0, ei_load 2 2 22, 0, 0))) (e_T 22 (e_L 22 (0, ei_getf eft elay 0 11 25, 0, 0)) (e_L 25 (0, ei_if1 0 85 28, 0, 0)))))) (e_T 40 (e_T 32 (e_T 28 (e_L 28 (0, ei_load 2 2 29, 0, 0)) (e_T 29 (e_L 29 (2, e_nof, 14, 1)) (e_L 32 (0, ei_if1 0 43 35, 0, 0)))) (e_T 36 (e_T 35 (e_L 35 (0, ei_load 0 2 36, 0, 0)) (e_L 36 (0, ei_getf eft elay 11 1 39, 0, 0))) (e_T 39 (e_L 39 (0, ei_load 1 0 40, 0, 0)) (e_L 40 (2, e_nof, 39, 2))))) (e_T 47 (e_T 43 (e_L 43 (0, ei_load 2 2 44, 0, 0)) (e_T 44 (e_L 44 (0, ei_getf eft elay 0 11 47, 0, 0)) (e_L 47 (0, ei_push (0, 2) 48, 0, 0)))) (e_T 51 (e_T 48 (e_L 48 (0, ei_if2 1 65 51, 0, 0)) (e_L 51 (0, ei_load 2 2 52, 0, 0))) (e_T 52 (e_L 52 (2, e_nof, 15, 1)) (e_L 55 (0, ei_if1 0 65 58, 0, 0)))))))
set_option maxRecDepth 20000 in
set_option maxHeartbeats 4000000 in
theorem te_260_0_ok : ∀ pc, e_EOq eft cls elay eI n_260 pc (te_260_0 pc) :=
  (e_Tok2
  (e_Tok2
  (e_Tok2
  (e_Tok2
  (e_Lok (ld_aload_n_0 (x_dk dn_260_0_0_ok 0 rfl)))
  (e_Tok2
  (e_Lok (lk_11_27g ho_260 (x_dk dn_260_0_0_ok 1 rfl)))
  (e_Lok (ld_iload_n_1 (x_dk dn_260_0_0_ok 2 rfl)))))
  (e_Tok2
  (e_Tok2
  (e_Lok (e_st (I := eI) (er_aaload (x_dk dn_260_0_0_ok 3 rfl)) nx_aald))
  (e_Lok (e_st (I := eI) (er_astore_n (i := 2) (x_dk dn_260_0_0_ok 4 rfl) (by decide +kernel)) nx_stor)))
  (e_Tok2
  (e_Lok (ld_aload_n_2 (x_dk dn_260_0_0_ok 5 rfl)))
  (e_Lok (lk_11_498 ho_260 (x_dk dn_260_0_0_ok 6 rfl))))))
  (e_Tok2
  (e_Tok2
  (e_Lok (ld_aload_n_0 (x_dk dn_260_0_0_ok 7 rfl)))
  (e_Tok2
  (e_Lok (lk_11_42g ho_260 (x_dk dn_260_0_0_ok 8 rfl)))
  (e_Lok (lk_11_274g ho_260 (x_dk dn_260_0_0_ok 9 rfl)))))
  (e_Tok2
  (e_Tok2
  (e_Lok (e_st (I := eI) (er_ifeq (off := 67) (tg := 85) (x_dk dn_260_0_0_ok 10 rfl) (by decide)) nx_if1))
  (e_Lok (ld_aload_n_2 (x_dk dn_260_0_0_ok 11 rfl))))
  (e_Tok2
  (e_Lok (lk_11_286g ho_260 (x_dk dn_260_0_0_ok 12 rfl)))
  (e_Lok (e_st (I := eI) (er_ifeq (off := 60) (tg := 85) (x_dk dn_260_0_0_ok 13 rfl) (by decide)) nx_if1))))))
  (e_Tok2
  (e_Tok2
  (e_Tok2
  (e_Lok (ld_aload_n_2 (x_dk dn_260_0_0_ok 14 rfl)))
  (e_Tok2
  (e_Lok (lk_11_501 ho_260 (x_dk dn_260_0_0_ok 15 rfl)))
  (e_Lok (e_st (I := eI) (er_ifeq (off := 11) (tg := 43) (x_dk dn_260_0_0_ok 16 rfl) (by decide)) nx_if1))))
  (e_Tok2
  (e_Tok2
  (e_Lok (ld_aload_n_0 (x_dk dn_260_0_0_ok 17 rfl)))
  (e_Lok (lk_11_19g ho_260 (x_dk dn_260_0_0_ok 18 rfl))))
  (e_Tok2
  (e_Lok (ld_iload_n_1 (x_dk dn_260_0_0_ok 19 rfl)))
  (e_Lok (lk_11_468 ho_260 (x_dk dn_260_0_0_ok 20 rfl))))))
  (e_Tok2
  (e_Tok2
  (e_Lok (ld_aload_n_2 (x_dk dn_260_0_0_ok 21 rfl)))
  (e_Tok2
  (e_Lok (lk_11_286g ho_260 (x_dk dn_260_0_0_ok 22 rfl)))
  (e_Lok (ps_iconst_2 (x_dk dn_260_0_0_ok 23 rfl)))))
  (e_Tok2
  (e_Tok2
  (e_Lok (e_st (I := eI) (er_icmpne (off := 17) (tg := 65) (x_dk dn_260_0_0_ok 24 rfl) (by decide)) nx_if2))
  (e_Lok (ld_aload_n_2 (x_dk dn_260_0_1_ok 0 rfl))))
  (e_Tok2
  (e_Lok (lk_11_503 ho_260 (x_dk dn_260_0_1_ok 1 rfl)))
  (e_Lok (e_st (I := eI) (er_ifeq (off := 10) (tg := 65) (x_dk dn_260_0_1_ok 2 rfl) (by decide)) nx_if1)))))))
def te_260_28 : Nat → eE := (e_T 85 (e_T 70 (e_T 62 (e_T 58 (e_L 58 (0, ei_load 2 2 59, 0, 0)) (e_T 59 (e_L 59 (2, e_nof, 17, 1)) (e_L 62 (0, ei_goto 85, 0, 0)))) (e_T 66 (e_T 65 (e_L 65 (0, ei_load 2 2 66, 0, 0)) (e_L 66 (0, ei_getf eft elay 0 11 69, 0, 0))) (e_T 69 (e_L 69 (0, ei_push (0, 1) 70, 0, 0)) (e_L 70 (0, ei_if2 1 85 73, 0, 0))))) (e_T 77 (e_T 73 (e_L 73 (0, ei_load 2 2 74, 0, 0)) (e_T 74 (e_L 74 (2, e_nof, 16, 1)) (e_L 77 (0, ei_if1 0 85 80, 0, 0)))) (e_T 81 (e_T 80 (e_L 80 (0, ei_load 0 2 81, 0, 0)) (e_L 81 (0, ei_load 1 0 82, 0, 0))) (e_T 82 (e_L 82 (2, e_nof, 261, 2)) (e_L 85 (0, ei_load 0 2 86, 0, 0)))))) (e_T 98 (e_T 92 (e_T 86 (e_L 86 (0, ei_getf eft elay 11 14 89, 0, 0)) (e_T 89 (e_L 89 (0, ei_if1 0 112 92, 0, 0)) (e_L 92 (0, ei_load 0 2 93, 0, 0)))) (e_T 96 (e_T 93 (e_L 93 (0, ei_getf eft elay 11 10 96, 0, 0)) (e_L 96 (0, ei_push (0, 0) 97, 0, 0))) (e_T 97 (e_L 97 (0, ei_stk ef_dup2 98, 0, 0)) (e_L 98 (0, ei_ald elay false 99, 0, 0))))) (e_T 104 (e_T 100 (e_T 99 (e_L 99 (0, ei_load 2 2 100, 0, 0)) (e_L 100 (0, ei_load 0 2 101, 0, 0))) (e_T 101 (e_L 101 (0, ei_getf eft elay 11 5 104, 0, 0)) (e_L 104 (0, ei_getf eft elay 2 3 107, 0, 0)))) (e_T 110 (e_T 107 (e_L 107 (2, e_nof, 19, 2)) (e_L 110 (0, ei_bin eF_add 111, 0, 0))) (e_T 111 (e_L 111 (0, ei_ast elay false 112, 0, 0)) (e_L 112 (1, e_nof, 0, 0)))))))
set_option maxRecDepth 20000 in
set_option maxHeartbeats 4000000 in
theorem te_260_28_ok : ∀ pc, e_EOq eft cls elay eI n_260 pc (te_260_28 pc) :=
  (e_Tok2
  (e_Tok2
  (e_Tok2
  (e_Tok2
  (e_Lok (ld_aload_n_2 (x_dk dn_260_0_1_ok 3 rfl)))
  (e_Tok2
  (e_Lok (lk_11_506 ho_260 (x_dk dn_260_0_1_ok 4 rfl)))
  (e_Lok (e_st (I := eI) (er_goto (off := 23) (tg := 85) (x_dk dn_260_0_1_ok 5 rfl) (by decide)) nx_goto))))
  (e_Tok2
  (e_Tok2
  (e_Lok (ld_aload_n_2 (x_dk dn_260_0_1_ok 6 rfl)))
  (e_Lok (lk_11_286g ho_260 (x_dk dn_260_0_1_ok 7 rfl))))
  (e_Tok2
  (e_Lok (ps_iconst_1 (x_dk dn_260_0_1_ok 8 rfl)))
  (e_Lok (e_st (I := eI) (er_icmpne (off := 15) (tg := 85) (x_dk dn_260_0_1_ok 9 rfl) (by decide)) nx_if2)))))
  (e_Tok2
  (e_Tok2
  (e_Lok (ld_aload_n_2 (x_dk dn_260_0_1_ok 10 rfl)))
  (e_Tok2
  (e_Lok (lk_11_509 ho_260 (x_dk dn_260_0_1_ok 11 rfl)))
  (e_Lok (e_st (I := eI) (er_ifeq (off := 8) (tg := 85) (x_dk dn_260_0_1_ok 12 rfl) (by decide)) nx_if1))))
  (e_Tok2
  (e_Tok2
  (e_Lok (ld_aload_n_0 (x_dk dn_260_0_1_ok 13 rfl)))
  (e_Lok (ld_iload_n_1 (x_dk dn_260_0_1_ok 14 rfl))))
  (e_Tok2
  (e_Lok (lk_11_512 ho_260 (x_dk dn_260_0_1_ok 15 rfl)))
  (e_Lok (ld_aload_n_0 (x_dk dn_260_0_1_ok 16 rfl)))))))
  (e_Tok2
  (e_Tok2
  (e_Tok2
  (e_Lok (lk_11_67g ho_260 (x_dk dn_260_0_1_ok 17 rfl)))
  (e_Tok2
  (e_Lok (e_st (I := eI) (er_ifeq (off := 23) (tg := 112) (x_dk dn_260_0_1_ok 18 rfl) (by decide)) nx_if1))
  (e_Lok (ld_aload_n_0 (x_dk dn_260_0_1_ok 19 rfl)))))
  (e_Tok2
  (e_Tok2
  (e_Lok (lk_11_64g ho_260 (x_dk dn_260_0_1_ok 20 rfl)))
  (e_Lok (ps_iconst_0 (x_dk dn_260_0_1_ok 21 rfl))))
  (e_Tok2
  (e_Lok (e_st (I := eI) (er_dup2 (x_dk dn_260_0_1_ok 22 rfl)) (nx_stk bf_dup2)))
  (e_Lok (sm_iaload (x_dk dn_260_0_1_ok 23 rfl))))))
  (e_Tok2
  (e_Tok2
  (e_Tok2
  (e_Lok (ld_aload_n_2 (x_dk dn_260_0_1_ok 24 rfl)))
  (e_Lok (ld_aload_n_0 (x_dk dn_260_0_2_ok 0 rfl))))
  (e_Tok2
  (e_Lok (lk_11_42g ho_260 (x_dk dn_260_0_2_ok 1 rfl)))
  (e_Lok (lk_11_274g ho_260 (x_dk dn_260_0_2_ok 2 rfl)))))
  (e_Tok2
  (e_Tok2
  (e_Lok (lk_11_515 ho_260 (x_dk dn_260_0_2_ok 3 rfl)))
  (e_Lok (sm_iadd (x_dk dn_260_0_2_ok 4 rfl))))
  (e_Tok2
  (e_Lok (sm_iastore (x_dk dn_260_0_2_ok 5 rfl)))
  (e_Lok (e_rt (I := eI) (k := 0) ⟨(x_dk dn_260_0_2_ok 6 rfl), rfl⟩)))))))
def te_260 : Nat → eE := (e_T 55 te_260_0 te_260_28)
theorem te_260_ok : ∀ pc, e_EOq eft cls elay eI n_260 pc (te_260 pc) := (e_Tok2 (te_260_0_ok) (te_260_28_ok))
theorem ho_261 : (xm_y n_261).cls = "RobotCellHouse" := rfl
def dn_261_0_0 : List (Nat × Instr × Nat) := [(0, .aload_n 0, 1), (1, .getfield 27, 3), (4, .iload_n 1, 1), (5, .aaload, 1), (6, .astore_n 2, 1), (7, .aload_n 0, 1), (8, .getfield 42, 3), (11, .bipush 8, 2), (13, .iload_n 1, 1), (14, .aload_n 2, 1), (15, .getfield 519, 3), (18, .invokevirtual 522, 3), (21, .aload_n 0, 1), (22, .getfield 67, 3), (25, .ifCond .eq 26, 3), (28, .aload_n 2, 1), (29, .getfield 519, 3), (32, .aload_n 2, 1), (33, .invokevirtual 526, 3), (36, .iconst 1, 1), (37, .iadd, 1), (38, .if_icmp .eq 13, 3), (41, .aload_n 0, 1), (42, .getfield 64, 3), (45, .iconst 1, 1)]
set_option maxRecDepth 20000 in
theorem dn_261_0_0_ok : dn_261_0_0.all (fun q => decide (decode (xm_b n_261) q.1 = .ok (q.2.1, q.2.2))) = true := xa_g_ok (by decide +kernel)
def dn_261_0_1 : List (Nat × Instr × Nat) := [(46, .dup2, 1), (47, .iaload, 1), (48, .iconst 1, 1), (49, .iadd, 1), (50, .iastore, 1), (51, .aload_n 0, 1), (52, .getfield 53, 3), (55, .aload_n 2, 1), (56, .invokevirtual 529, 3), (59, .ifCond .ne 7, 3), (62, .aload_n 2, 1), (63, .invokevirtual 506, 3), (66, .return_, 1)]
set_option maxRecDepth 20000 in
theorem dn_261_0_1_ok : dn_261_0_1.all (fun q => decide (decode (xm_b n_261) q.1 = .ok (q.2.1, q.2.2))) = true := xa_g_ok (by decide +kernel)
def te_261_0 : Nat → eE := (e_T 33 (e_T 13 (e_T 5 (e_T 1 (e_T 0 (e_L 0 (0, ei_load 0 2 1, 0, 0)) (e_L 1 (0, ei_getf eft elay 11 2 4, 0, 0))) (e_T 4 (e_L 4 (0, ei_load 1 0 5, 0, 0)) (e_L 5 (0, ei_aald elay 6, 0, 0)))) (e_T 7 (e_T 6 (e_L 6 (0, ei_stor 2 2 7, 0, 0)) (e_L 7 (0, ei_load 0 2 8, 0, 0))) (e_T 8 (e_L 8 (0, ei_getf eft elay 11 5 11, 0, 0)) (e_T 11 (e_L 11 (0, ei_push (0, 8) 13, 0, 0)) (e_L 13 (0, ei_load 1 0 14, 0, 0)))))) (e_T 22 (e_T 15 (e_T 14 (e_L 14 (0, ei_load 2 2 15, 0, 0)) (e_L 15 (0, ei_getf eft elay 0 12 18, 0, 0))) (e_T 18 (e_L 18 (2, e_nof, 27, 4)) (e_T 21 (e_L 21 (0, ei_load 0 2 22, 0, 0)) (e_L 22 (0, ei_getf eft elay 11 14 25, 0, 0))))) (e_T 28 (e_T 25 (e_L 25 (0, ei_if1 0 51 28, 0, 0)) (e_L 28 (0, ei_load 2 2 29, 0, 0))) (e_T 29 (e_L 29 (0, ei_getf eft elay 0 12 32, 0, 0)) (e_T 32 (e_L 32 (0, ei_load 2 2 33, 0, 0)) (e_L 33 (2, e_nof, 18, 1))))))) (e_T 48 (e_T 41 (e_T 37 (e_T 36 (e_L 36 (0, ei_push (0, 1) 37, 0, 0)) (e_L 37 (0, ei_bin eF_add 38, 0, 0))) (e_T 38 (e_L 38 (0, ei_if2 0 51 41, 0, 0)) (e_L 41 (0, ei_load 0 2 42, 0, 0)))) (e_T 45 (e_T 42 (e_L 42 (0, ei_getf eft elay 11 10 45, 0, 0)) (e_L 45 (0, ei_push (0, 1) 46, 0, 0))) (e_T 46 (e_L 46 (0, ei_stk ef_dup2 47, 0, 0)) (e_T 47 (e_L 47 (0, ei_ald elay false 48, 0, 0)) (e_L 48 (0, ei_push (0, 1) 49, 0, 0)))))) (e_T 55 (e_T 50 (e_T 49 (e_L 49 (0, ei_bin eF_add 50, 0, 0)) (e_L 50 (0, ei_ast elay false 51, 0, 0))) (e_T 51 (e_L 51 (0, ei_load 0 2 52, 0, 0)) (e_T 52 (e_L 52 (0, ei_getf eft elay 11 7 55, 0, 0)) (e_L 55 (0, ei_load 2 2 56, 0, 0))))) (e_T 59 (e_T 56 (e_L 56 (2, e_nof, 108, 2)) (e_L 59 (0, ei_if1 1 66 62, 0, 0))) (e_T 62 (e_L 62 (0, ei_load 2 2 63, 0, 0)) (e_T 63 (e_L 63 (2, e_nof, 17, 1)) (e_L 66 (1, e_nof, 0, 0))))))))
set_option maxRecDepth 20000 in
set_option maxHeartbeats 4000000 in
theorem te_261_0_ok : ∀ pc, e_EOq eft cls elay eI n_261 pc (te_261_0 pc) :=
  (e_Tok2
  (e_Tok2
  (e_Tok2
  (e_Tok2
  (e_Tok2
  (e_Lok (ld_aload_n_0 (x_dk dn_261_0_0_ok 0 rfl)))
  (e_Lok (lk_11_27g ho_261 (x_dk dn_261_0_0_ok 1 rfl))))
  (e_Tok2
  (e_Lok (ld_iload_n_1 (x_dk dn_261_0_0_ok 2 rfl)))
  (e_Lok (e_st (I := eI) (er_aaload (x_dk dn_261_0_0_ok 3 rfl)) nx_aald))))
  (e_Tok2
  (e_Tok2
  (e_Lok (e_st (I := eI) (er_astore_n (i := 2) (x_dk dn_261_0_0_ok 4 rfl) (by decide +kernel)) nx_stor))
  (e_Lok (ld_aload_n_0 (x_dk dn_261_0_0_ok 5 rfl))))
  (e_Tok2
  (e_Lok (lk_11_42g ho_261 (x_dk dn_261_0_0_ok 6 rfl)))
  (e_Tok2
  (e_Lok (ps_bipush_8 (x_dk dn_261_0_0_ok 7 rfl)))
  (e_Lok (ld_iload_n_1 (x_dk dn_261_0_0_ok 8 rfl)))))))
  (e_Tok2
  (e_Tok2
  (e_Tok2
  (e_Lok (ld_aload_n_2 (x_dk dn_261_0_0_ok 9 rfl)))
  (e_Lok (lk_11_519g ho_261 (x_dk dn_261_0_0_ok 10 rfl))))
  (e_Tok2
  (e_Lok (lk_11_522 ho_261 (x_dk dn_261_0_0_ok 11 rfl)))
  (e_Tok2
  (e_Lok (ld_aload_n_0 (x_dk dn_261_0_0_ok 12 rfl)))
  (e_Lok (lk_11_67g ho_261 (x_dk dn_261_0_0_ok 13 rfl))))))
  (e_Tok2
  (e_Tok2
  (e_Lok (e_st (I := eI) (er_ifeq (off := 26) (tg := 51) (x_dk dn_261_0_0_ok 14 rfl) (by decide)) nx_if1))
  (e_Lok (ld_aload_n_2 (x_dk dn_261_0_0_ok 15 rfl))))
  (e_Tok2
  (e_Lok (lk_11_519g ho_261 (x_dk dn_261_0_0_ok 16 rfl)))
  (e_Tok2
  (e_Lok (ld_aload_n_2 (x_dk dn_261_0_0_ok 17 rfl)))
  (e_Lok (lk_11_526 ho_261 (x_dk dn_261_0_0_ok 18 rfl))))))))
  (e_Tok2
  (e_Tok2
  (e_Tok2
  (e_Tok2
  (e_Lok (ps_iconst_1 (x_dk dn_261_0_0_ok 19 rfl)))
  (e_Lok (sm_iadd (x_dk dn_261_0_0_ok 20 rfl))))
  (e_Tok2
  (e_Lok (e_st (I := eI) (er_icmpeq (off := 13) (tg := 51) (x_dk dn_261_0_0_ok 21 rfl) (by decide)) nx_if2))
  (e_Lok (ld_aload_n_0 (x_dk dn_261_0_0_ok 22 rfl)))))
  (e_Tok2
  (e_Tok2
  (e_Lok (lk_11_64g ho_261 (x_dk dn_261_0_0_ok 23 rfl)))
  (e_Lok (ps_iconst_1 (x_dk dn_261_0_0_ok 24 rfl))))
  (e_Tok2
  (e_Lok (e_st (I := eI) (er_dup2 (x_dk dn_261_0_1_ok 0 rfl)) (nx_stk bf_dup2)))
  (e_Tok2
  (e_Lok (sm_iaload (x_dk dn_261_0_1_ok 1 rfl)))
  (e_Lok (ps_iconst_1 (x_dk dn_261_0_1_ok 2 rfl)))))))
  (e_Tok2
  (e_Tok2
  (e_Tok2
  (e_Lok (sm_iadd (x_dk dn_261_0_1_ok 3 rfl)))
  (e_Lok (sm_iastore (x_dk dn_261_0_1_ok 4 rfl))))
  (e_Tok2
  (e_Lok (ld_aload_n_0 (x_dk dn_261_0_1_ok 5 rfl)))
  (e_Tok2
  (e_Lok (lk_11_53g ho_261 (x_dk dn_261_0_1_ok 6 rfl)))
  (e_Lok (ld_aload_n_2 (x_dk dn_261_0_1_ok 7 rfl))))))
  (e_Tok2
  (e_Tok2
  (e_Lok (lk_11_529 ho_261 (x_dk dn_261_0_1_ok 8 rfl)))
  (e_Lok (e_st (I := eI) (er_ifne (off := 7) (tg := 66) (x_dk dn_261_0_1_ok 9 rfl) (by decide)) nx_if1)))
  (e_Tok2
  (e_Lok (ld_aload_n_2 (x_dk dn_261_0_1_ok 10 rfl)))
  (e_Tok2
  (e_Lok (lk_11_506 ho_261 (x_dk dn_261_0_1_ok 11 rfl)))
  (e_Lok (e_rt (I := eI) (k := 0) ⟨(x_dk dn_261_0_1_ok 12 rfl), rfl⟩))))))))
def te_261 : Nat → eE := te_261_0
theorem te_261_ok : ∀ pc, e_EOq eft cls elay eI n_261 pc (te_261 pc) := te_261_0_ok
theorem ho_262 : (xm_y n_262).cls = "RobotCellHouse" := rfl
def dn_262_0_0 : List (Nat × Instr × Nat) := [(0, .aload_n 0, 1), (1, .getfield 42, 3), (4, .getfield 533, 3), (7, .ifCond .eq 7, 3), (10, .iconst (-1), 1), (11, .goto 7, 3), (14, .aload_n 0, 1), (15, .invokevirtual 536, 3), (18, .istore_n 1, 1), (19, .iload_n 1, 1), (20, .ifCond .lt 21, 3), (23, .aload_n 0, 1), (24, .getfield 67, 3), (27, .ifCond .eq 7, 3), (30, .aload_n 0, 1), (31, .invokevirtual 539, 3), (34, .aload_n 0, 1), (35, .iconst 2, 1), (36, .iload_n 1, 1), (37, .invokevirtual 460, 3), (40, .return_, 1), (41, .aload_n 0, 1), (42, .getfield 42, 3), (45, .iconst 1, 1), (46, .putfield 533, 3)]
set_option maxRecDepth 20000 in
theorem dn_262_0_0_ok : dn_262_0_0.all (fun q => decide (decode (xm_b n_262) q.1 = .ok (q.2.1, q.2.2))) = true := xa_g_ok (by decide +kernel)
def dn_262_0_1 : List (Nat × Instr × Nat) := [(49, .aload_n 0, 1), (50, .getfield 46, 3), (53, .aload_n 0, 1), (54, .getfield 27, 3), (57, .invokevirtual 542, 3), (60, .istore_n 2, 1), (61, .iload_n 2, 1), (62, .ifCond .lt 9, 3), (65, .aload_n 0, 1), (66, .iconst 3, 1), (67, .iload_n 2, 1), (68, .invokevirtual 460, 3), (71, .return_, 1)]
set_option maxRecDepth 20000 in
theorem dn_262_0_1_ok : dn_262_0_1.all (fun q => decide (decode (xm_b n_262) q.1 = .ok (q.2.1, q.2.2))) = true := xa_g_ok (by decide +kernel)
def te_262_0 : Nat → eE := (e_T 36 (e_T 18 (e_T 7 (e_T 1 (e_T 0 (e_L 0 (0, ei_load 0 2 1, 0, 0)) (e_L 1 (0, ei_getf eft elay 11 5 4, 0, 0))) (e_T 4 (e_L 4 (0, ei_getf eft elay 2 7 7, 0, 0)) (e_L 7 (0, ei_if1 0 14 10, 0, 0)))) (e_T 11 (e_T 10 (e_L 10 (0, ei_push (0, (-1)) 11, 0, 0)) (e_L 11 (0, ei_goto 18, 0, 0))) (e_T 14 (e_L 14 (0, ei_load 0 2 15, 0, 0)) (e_T 15 (e_L 15 (2, e_nof, 263, 1)) (e_L 18 (0, ei_stor 1 0 19, 0, 0)))))) (e_T 27 (e_T 20 (e_T 19 (e_L 19 (0, ei_load 1 0 20, 0, 0)) (e_L 20 (0, ei_if1 2 41 23, 0, 0))) (e_T 23 (e_L 23 (0, ei_load 0 2 24, 0, 0)) (e_T 24 (e_L 24 (0, ei_getf eft elay 11 14 27, 0, 0)) (e_L 27 (0, ei_if1 0 34 30, 0, 0))))) (e_T 31 (e_T 30 (e_L 30 (0, ei_load 0 2 31, 0, 0)) (e_L 31 (2, e_nof, 264, 1))) (e_T 34 (e_L 34 (0, ei_load 0 2 35, 0, 0)) (e_T 35 (e_L 35 (0, ei_push (0, 2) 36, 0, 0)) (e_L 36 (0, ei_load 1 0 37, 0, 0))))))) (e_T 53 (e_T 42 (e_T 40 (e_T 37 (e_L 37 (2, e_nof, 265, 3)) (e_L 40 (1, e_nof, 0, 0))) (e_T 41 (e_L 41 (0, ei_load 0 2 42, 0, 0)) (e_L 42 (0, ei_getf eft elay 11 5 45, 0, 0)))) (e_T 46 (e_T 45 (e_L 45 (0, ei_push (0, 1) 46, 0, 0)) (e_L 46 (0, ei_putf eft elay 2 7 1 49, 0, 0))) (e_T 49 (e_L 49 (0, ei_load 0 2 50, 0, 0)) (e_T 50 (e_L 50 (0, ei_getf eft elay 11 6 53, 0, 0)) (e_L 53 (0, ei_load 0 2 54, 0, 0)))))) (e_T 62 (e_T 57 (e_T 54 (e_L 54 (0, ei_getf eft elay 11 2 57, 0, 0)) (e_L 57 (2, e_nof, 169, 2))) (e_T 60 (e_L 60 (0, ei_stor 2 0 61, 0, 0)) (e_T 61 (e_L 61 (0, ei_load 2 0 62, 0, 0)) (e_L 62 (0, ei_if1 2 71 65, 0, 0))))) (e_T 66 (e_T 65 (e_L 65 (0, ei_load 0 2 66, 0, 0)) (e_L 66 (0, ei_push (0, 3) 67, 0, 0))) (e_T 67 (e_L 67 (0, ei_load 2 0 68, 0, 0)) (e_T 68 (e_L 68 (2, e_nof, 265, 3)) (e_L 71 (1, e_nof, 0, 0))))))))
set_option maxRecDepth 20000 in
set_option maxHeartbeats 4000000 in
theorem te_262_0_ok : ∀ pc, e_EOq eft cls elay eI n_262 pc (te_262_0 pc) :=
  (e_Tok2
  (e_Tok2
  (e_Tok2
  (e_Tok2
  (e_Tok2
  (e_Lok (ld_aload_n_0 (x_dk dn_262_0_0_ok 0 rfl)))
  (e_Lok (lk_11_42g ho_262 (x_dk dn_262_0_0_ok 1 rfl))))
  (e_Tok2
  (e_Lok (lk_11_533g ho_262 (x_dk dn_262_0_0_ok 2 rfl)))
  (e_Lok (e_st (I := eI) (er_ifeq (off := 7) (tg := 14) (x_dk dn_262_0_0_ok 3 rfl) (by decide)) nx_if1))))
  (e_Tok2
  (e_Tok2
  (e_Lok (ps_iconst_m1 (x_dk dn_262_0_0_ok 4 rfl)))
  (e_Lok (e_st (I := eI) (er_goto (off := 7) (tg := 18) (x_dk dn_262_0_0_ok 5 rfl) (by decide)) nx_goto)))
  (e_Tok2
  (e_Lok (ld_aload_n_0 (x_dk dn_262_0_0_ok 6 rfl)))
  (e_Tok2
  (e_Lok (lk_11_536 ho_262 (x_dk dn_262_0_0_ok 7 rfl)))
  (e_Lok (e_st (I := eI) (er_istore_n (i := 1) (x_dk dn_262_0_0_ok 8 rfl) (by decide +kernel)) nx_stor))))))
  (e_Tok2
  (e_Tok2
  (e_Tok2
  (e_Lok (ld_iload_n_1 (x_dk dn_262_0_0_ok 9 rfl)))
  (e_Lok (e_st (I := eI) (er_iflt (off := 21) (tg := 41) (x_dk dn_262_0_0_ok 10 rfl) (by decide)) nx_if1)))
  (e_Tok2
  (e_Lok (ld_aload_n_0 (x_dk dn_262_0_0_ok 11 rfl)))
  (e_Tok2
  (e_Lok (lk_11_67g ho_262 (x_dk dn_262_0_0_ok 12 rfl)))
  (e_Lok (e_st (I := eI) (er_ifeq (off := 7) (tg := 34) (x_dk dn_262_0_0_ok 13 rfl) (by decide)) nx_if1)))))
  (e_Tok2
  (e_Tok2
  (e_Lok (ld_aload_n_0 (x_dk dn_262_0_0_ok 14 rfl)))
  (e_Lok (lk_11_539 ho_262 (x_dk dn_262_0_0_ok 15 rfl))))
  (e_Tok2
  (e_Lok (ld_aload_n_0 (x_dk dn_262_0_0_ok 16 rfl)))
  (e_Tok2
  (e_Lok (ps_iconst_2 (x_dk dn_262_0_0_ok 17 rfl)))
  (e_Lok (ld_iload_n_1 (x_dk dn_262_0_0_ok 18 rfl))))))))
  (e_Tok2
  (e_Tok2
  (e_Tok2
  (e_Tok2
  (e_Lok (lk_11_460 ho_262 (x_dk dn_262_0_0_ok 19 rfl)))
  (e_Lok (e_rt (I := eI) (k := 0) ⟨(x_dk dn_262_0_0_ok 20 rfl), rfl⟩)))
  (e_Tok2
  (e_Lok (ld_aload_n_0 (x_dk dn_262_0_0_ok 21 rfl)))
  (e_Lok (lk_11_42g ho_262 (x_dk dn_262_0_0_ok 22 rfl)))))
  (e_Tok2
  (e_Tok2
  (e_Lok (ps_iconst_1 (x_dk dn_262_0_0_ok 23 rfl)))
  (e_Lok (lk_11_533p ho_262 (x_dk dn_262_0_0_ok 24 rfl))))
  (e_Tok2
  (e_Lok (ld_aload_n_0 (x_dk dn_262_0_1_ok 0 rfl)))
  (e_Tok2
  (e_Lok (lk_11_46g ho_262 (x_dk dn_262_0_1_ok 1 rfl)))
  (e_Lok (ld_aload_n_0 (x_dk dn_262_0_1_ok 2 rfl)))))))
  (e_Tok2
  (e_Tok2
  (e_Tok2
  (e_Lok (lk_11_27g ho_262 (x_dk dn_262_0_1_ok 3 rfl)))
  (e_Lok (lk_11_542 ho_262 (x_dk dn_262_0_1_ok 4 rfl))))
  (e_Tok2
  (e_Lok (e_st (I := eI) (er_istore_n (i := 2) (x_dk dn_262_0_1_ok 5 rfl) (by decide +kernel)) nx_stor))
  (e_Tok2
  (e_Lok (ld_iload_n_2 (x_dk dn_262_0_1_ok 6 rfl)))
  (e_Lok (e_st (I := eI) (er_iflt (off := 9) (tg := 71) (x_dk dn_262_0_1_ok 7 rfl) (by decide)) nx_if1)))))
  (e_Tok2
  (e_Tok2
  (e_Lok (ld_aload_n_0 (x_dk dn_262_0_1_ok 8 rfl)))
  (e_Lok (ps_iconst_3 (x_dk dn_262_0_1_ok 9 rfl))))
  (e_Tok2
  (e_Lok (ld_iload_n_2 (x_dk dn_262_0_1_ok 10 rfl)))
  (e_Tok2
  (e_Lok (lk_11_460 ho_262 (x_dk dn_262_0_1_ok 11 rfl)))
  (e_Lok (e_rt (I := eI) (k := 0) ⟨(x_dk dn_262_0_1_ok 12 rfl), rfl⟩))))))))
def te_262 : Nat → eE := te_262_0
theorem te_262_ok : ∀ pc, e_EOq eft cls elay eI n_262 pc (te_262 pc) := te_262_0_ok
theorem ho_263 : (xm_y n_263).cls = "RobotCellHouse" := rfl
def dn_263_0_0 : List (Nat × Instr × Nat) := [(0, .iconst 0, 1), (1, .istore_n 1, 1), (2, .iload_n 1, 1), (3, .aload_n 0, 1), (4, .getfield 94, 3), (7, .if_icmp .ge 34, 3), (10, .aload_n 0, 1), (11, .getfield 46, 3), (14, .aload_n 0, 1), (15, .getfield 27, 3), (18, .aload_n 0, 1), (19, .getfield 94, 3), (22, .iload_n 1, 1), (23, .iload_n 1, 1), (24, .iconst 1, 1), (25, .iadd, 1), (26, .iconst 0, 1), (27, .invokevirtual 403, 3), (30, .ifCond .eq 5, 3), (33, .iload_n 1, 1), (34, .ireturn, 1), (35, .iinc 1 1, 3), (38, .goto (-36), 3), (41, .iconst (-1), 1), (42, .ireturn, 1)]
set_option maxRecDepth 20000 in
theorem dn_263_0_0_ok : dn_263_0_0.all (fun q => decide (decode (xm_b n_263) q.1 = .ok (q.2.1, q.2.2))) = true := xa_g_ok (by decide +kernel)
def te_263_0 : Nat → eE := (e_T 19 (e_T 7 (e_T 2 (e_T 0 (e_L 0 (0, ei_push (0, 0) 1, 0, 0)) (e_T 1 (e_L 1 (0, ei_stor 1 0 2, 0, 0)) (e_L 2 (0, ei_load 1 0 3, 0, 0)))) (e_T 3 (e_L 3 (0, ei_load 0 2 4, 0, 0)) (e_T 4 (e_L 4 (0, ei_getf eft elay 11 11 7, 0, 0)) (e_L 7 (0, ei_if2 3 41 10, 0, 0))))) (e_T 14 (e_T 10 (e_L 10 (0, ei_load 0 2 11, 0, 0)) (e_T 11 (e_L 11 (0, ei_getf eft elay 11 6 14, 0, 0)) (e_L 14 (0, ei_load 0 2 15, 0, 0)))) (e_T 15 (e_L 15 (0, ei_getf eft elay 11 2 18, 0, 0)) (e_T 18 (e_L 18 (0, ei_load 0 2 19, 0, 0)) (e_L 19 (0, ei_getf eft elay 11 11 22, 0, 0)))))) (e_T 27 (e_T 24 (e_T 22 (e_L 22 (0, ei_load 1 0 23, 0, 0)) (e_T 23 (e_L 23 (0, ei_load 1 0 24, 0, 0)) (e_L 24 (0, ei_push (0, 1) 25, 0, 0)))) (e_T 25 (e_L 25 (0, ei_bin eF_add 26, 0, 0)) (e_T 26 (e_L 26 (0, ei_push (0, 0) 27, 0, 0)) (e_L 27 (2, e_nof, 171, 6))))) (e_T 34 (e_T 30 (e_L 30 (0, ei_if1 0 35 33, 0, 0)) (e_T 33 (e_L 33 (0, ei_load 1 0 34, 0, 0)) (e_L 34 (1, e_nof, 1, 0)))) (e_T 38 (e_T 35 (e_L 35 (0, ei_inc 1 1 38, 0, 0)) (e_L 38 (0, ei_goto 2, 0, 0))) (e_T 41 (e_L 41 (0, ei_push (0, (-1)) 42, 0, 0)) (e_L 42 (1, e_nof, 1, 0)))))))
set_option maxRecDepth 20000 in
set_option maxHeartbeats 4000000 in
theorem te_263_0_ok : ∀ pc, e_EOq eft cls elay eI n_263 pc (te_263_0 pc) :=
  (e_Tok2
  (e_Tok2
  (e_Tok2
  (e_Tok2
  (e_Lok (ps_iconst_0 (x_dk dn_263_0_0_ok 0 rfl)))
  (e_Tok2
  (e_Lok (e_st (I := eI) (er_istore_n (i := 1) (x_dk dn_263_0_0_ok 1 rfl) (by decide +kernel)) nx_stor))
  (e_Lok (ld_iload_n_1 (x_dk dn_263_0_0_ok 2 rfl)))))
  (e_Tok2
  (e_Lok (ld_aload_n_0 (x_dk dn_263_0_0_ok 3 rfl)))
  (e_Tok2
  (e_Lok (lk_11_94g ho_263 (x_dk dn_263_0_0_ok 4 rfl)))
  (e_Lok (e_st (I := eI) (er_icmpge (off := 34) (tg := 41) (x_dk dn_263_0_0_ok 5 rfl) (by decide)) nx_if2)))))
  (e_Tok2
  (e_Tok2
  (e_Lok (ld_aload_n_0 (x_dk dn_263_0_0_ok 6 rfl)))
  (e_Tok2
  (e_Lok (lk_11_46g ho_263 (x_dk dn_263_0_0_ok 7 rfl)))
  (e_Lok (ld_aload_n_0 (x_dk dn_263_0_0_ok 8 rfl)))))
  (e_Tok2
  (e_Lok (lk_11_27g ho_263 (x_dk dn_263_0_0_ok 9 rfl)))
  (e_Tok2
  (e_Lok (ld_aload_n_0 (x_dk dn_263_0_0_ok 10 rfl)))
  (e_Lok (lk_11_94g ho_263 (x_dk dn_263_0_0_ok 11 rfl)))))))
  (e_Tok2
  (e_Tok2
  (e_Tok2
  (e_Lok (ld_iload_n_1 (x_dk dn_263_0_0_ok 12 rfl)))
  (e_Tok2
  (e_Lok (ld_iload_n_1 (x_dk dn_263_0_0_ok 13 rfl)))
  (e_Lok (ps_iconst_1 (x_dk dn_263_0_0_ok 14 rfl)))))
  (e_Tok2
  (e_Lok (sm_iadd (x_dk dn_263_0_0_ok 15 rfl)))
  (e_Tok2
  (e_Lok (ps_iconst_0 (x_dk dn_263_0_0_ok 16 rfl)))
  (e_Lok (lk_11_403 ho_263 (x_dk dn_263_0_0_ok 17 rfl))))))
  (e_Tok2
  (e_Tok2
  (e_Lok (e_st (I := eI) (er_ifeq (off := 5) (tg := 35) (x_dk dn_263_0_0_ok 18 rfl) (by decide)) nx_if1))
  (e_Tok2
  (e_Lok (ld_iload_n_1 (x_dk dn_263_0_0_ok 19 rfl)))
  (e_Lok (e_rt (I := eI) (k := 1) ⟨(x_dk dn_263_0_0_ok 20 rfl), rfl⟩))))
  (e_Tok2
  (e_Tok2
  (e_Lok (e_st (I := eI) (er_iinc (i := 1) (n := 1) (x_dk dn_263_0_0_ok 21 rfl) (by decide +kernel) (by decide)) nx_inc))
  (e_Lok (e_st (I := eI) (er_goto (off := (-36)) (tg := 2) (x_dk dn_263_0_0_ok 22 rfl) (by decide)) nx_goto)))
  (e_Tok2
  (e_Lok (ps_iconst_m1 (x_dk dn_263_0_0_ok 23 rfl)))
  (e_Lok (e_rt (I := eI) (k := 1) ⟨(x_dk dn_263_0_0_ok 24 rfl), rfl⟩)))))))
def te_263 : Nat → eE := te_263_0
theorem te_263_ok : ∀ pc, e_EOq eft cls elay eI n_263 pc (te_263 pc) := te_263_0_ok
theorem ho_264 : (xm_y n_264).cls = "RobotCellHouse" := rfl
def dn_264_0_0 : List (Nat × Instr × Nat) := [(0, .iconst 0, 1), (1, .istore_n 1, 1), (2, .iload_n 1, 1), (3, .aload_n 0, 1), (4, .getfield 94, 3), (7, .if_icmp .ge 76, 3), (10, .aload_n 0, 1), (11, .getfield 27, 3), (14, .iload_n 1, 1), (15, .aaload, 1), (16, .getfield 323, 3), (19, .ifCond .lt 21, 3), (22, .aload_n 0, 1), (23, .getfield 27, 3), (26, .iload_n 1, 1), (27, .aaload, 1), (28, .getfield 546, 3), (31, .iconst 2, 1), (32, .iand, 1), (33, .ifCond .ne 7, 3), (36, .iconst 1, 1), (37, .goto 4, 3), (40, .iconst 0, 1), (41, .istore_n 2, 1), (42, .iload_n 2, 1)]
set_option maxRecDepth 20000 in
theorem dn_264_0_0_ok : dn_264_0_0.all (fun q => decide (decode (xm_b n_264) q.1 = .ok (q.2.1, q.2.2))) = true := xa_g_ok (by decide +kernel)
def dn_264_0_1 : List (Nat × Instr × Nat) := [(43, .ifCond .eq 34, 3), (46, .aload_n 0, 1), (47, .getfield 46, 3), (50, .aload_n 0, 1), (51, .getfield 27, 3), (54, .aload_n 0, 1), (55, .getfield 94, 3), (58, .iload_n 1, 1), (59, .iconst 0, 1), (60, .iconst 0, 1), (61, .invokevirtual 403, 3), (64, .ifCond .eq 13, 3), (67, .aload_n 0, 1), (68, .getfield 64, 3), (71, .iconst 2, 1), (72, .dup2, 1), (73, .iaload, 1), (74, .iconst 1, 1), (75, .iadd, 1), (76, .iastore, 1), (77, .iinc 1 1, 3), (80, .goto (-78), 3), (83, .return_, 1)]
set_option maxRecDepth 20000 in
theorem dn_264_0_1_ok : dn_264_0_1.all (fun q => decide (decode (xm_b n_264) q.1 = .ok (q.2.1, q.2.2))) = true := xa_g_ok (by decide +kernel)
def te_264_0 : Nat → eE := (e_T 19 (e_T 7 (e_T 2 (e_T 0 (e_L 0 (0, ei_push (0, 0) 1, 0, 0)) (e_T 1 (e_L 1 (0, ei_stor 1 0 2, 0, 0)) (e_L 2 (0, ei_load 1 0 3, 0, 0)))) (e_T 3 (e_L 3 (0, ei_load 0 2 4, 0, 0)) (e_T 4 (e_L 4 (0, ei_getf eft elay 11 11 7, 0, 0)) (e_L 7 (0, ei_if2 3 83 10, 0, 0))))) (e_T 14 (e_T 10 (e_L 10 (0, ei_load 0 2 11, 0, 0)) (e_T 11 (e_L 11 (0, ei_getf eft elay 11 2 14, 0, 0)) (e_L 14 (0, ei_load 1 0 15, 0, 0)))) (e_T 15 (e_L 15 (0, ei_aald elay 16, 0, 0)) (e_T 16 (e_L 16 (0, ei_getf eft elay 0 18 19, 0, 0)) (e_L 19 (0, ei_if1 2 40 22, 0, 0)))))) (e_T 31 (e_T 26 (e_T 22 (e_L 22 (0, ei_load 0 2 23, 0, 0)) (e_T 23 (e_L 23 (0, ei_getf eft elay 11 2 26, 0, 0)) (e_L 26 (0, ei_load 1 0 27, 0, 0)))) (e_T 27 (e_L 27 (0, ei_aald elay 28, 0, 0)) (e_T 28 (e_L 28 (0, ei_getf eft elay 0 19 31, 0, 0)) (e_L 31 (0, ei_push (0, 2) 32, 0, 0))))) (e_T 36 (e_T 32 (e_L 32 (0, ei_bin (eB (fun x y => x &&& y)) 33, 0, 0)) (e_T 33 (e_L 33 (0, ei_if1 1 40 36, 0, 0)) (e_L 36 (0, ei_push (0, 1) 37, 0, 0)))) (e_T 37 (e_L 37 (0, ei_goto 41, 0, 0)) (e_T 40 (e_L 40 (0, ei_push (0, 0) 41, 0, 0)) (e_L 41 (0, ei_stor 2 0 42, 0, 0)))))))
set_option maxRecDepth 20000 in
set_option maxHeartbeats 4000000 in
theorem te_264_0_ok : ∀ pc, e_EOq eft cls elay eI n_264 pc (te_264_0 pc) :=
  (e_Tok2
  (e_Tok2
  (e_Tok2
  (e_Tok2
  (e_Lok (ps_iconst_0 (x_dk dn_264_0_0_ok 0 rfl)))
  (e_Tok2
  (e_Lok (e_st (I := eI) (er_istore_n (i := 1) (x_dk dn_264_0_0_ok 1 rfl) (by decide +kernel)) nx_stor))
  (e_Lok (ld_iload_n_1 (x_dk dn_264_0_0_ok 2 rfl)))))
  (e_Tok2
  (e_Lok (ld_aload_n_0 (x_dk dn_264_0_0_ok 3 rfl)))
  (e_Tok2
  (e_Lok (lk_11_94g ho_264 (x_dk dn_264_0_0_ok 4 rfl)))
  (e_Lok (e_st (I := eI) (er_icmpge (off := 76) (tg := 83) (x_dk dn_264_0_0_ok 5 rfl) (by decide)) nx_if2)))))
  (e_Tok2
  (e_Tok2
  (e_Lok (ld_aload_n_0 (x_dk dn_264_0_0_ok 6 rfl)))
  (e_Tok2
  (e_Lok (lk_11_27g ho_264 (x_dk dn_264_0_0_ok 7 rfl)))
  (e_Lok (ld_iload_n_1 (x_dk dn_264_0_0_ok 8 rfl)))))
  (e_Tok2
  (e_Lok (e_st (I := eI) (er_aaload (x_dk dn_264_0_0_ok 9 rfl)) nx_aald))
  (e_Tok2
  (e_Lok (lk_11_323g ho_264 (x_dk dn_264_0_0_ok 10 rfl)))
  (e_Lok (e_st (I := eI) (er_iflt (off := 21) (tg := 40) (x_dk dn_264_0_0_ok 11 rfl) (by decide)) nx_if1))))))
  (e_Tok2
  (e_Tok2
  (e_Tok2
  (e_Lok (ld_aload_n_0 (x_dk dn_264_0_0_ok 12 rfl)))
  (e_Tok2
  (e_Lok (lk_11_27g ho_264 (x_dk dn_264_0_0_ok 13 rfl)))
  (e_Lok (ld_iload_n_1 (x_dk dn_264_0_0_ok 14 rfl)))))
  (e_Tok2
  (e_Lok (e_st (I := eI) (er_aaload (x_dk dn_264_0_0_ok 15 rfl)) nx_aald))
  (e_Tok2
  (e_Lok (lk_11_546g ho_264 (x_dk dn_264_0_0_ok 16 rfl)))
  (e_Lok (ps_iconst_2 (x_dk dn_264_0_0_ok 17 rfl))))))
  (e_Tok2
  (e_Tok2
  (e_Lok (e_st (I := eI) (er_iand (x_dk dn_264_0_0_ok 18 rfl)) nx_bin))
  (e_Tok2
  (e_Lok (e_st (I := eI) (er_ifne (off := 7) (tg := 40) (x_dk dn_264_0_0_ok 19 rfl) (by decide)) nx_if1))
  (e_Lok (ps_iconst_1 (x_dk dn_264_0_0_ok 20 rfl)))))
  (e_Tok2
  (e_Lok (e_st (I := eI) (er_goto (off := 4) (tg := 41) (x_dk dn_264_0_0_ok 21 rfl) (by decide)) nx_goto))
  (e_Tok2
  (e_Lok (ps_iconst_0 (x_dk dn_264_0_0_ok 22 rfl)))
  (e_Lok (e_st (I := eI) (er_istore_n (i := 2) (x_dk dn_264_0_0_ok 23 rfl) (by decide +kernel)) nx_stor)))))))
def te_264_24 : Nat → eE := (e_T 61 (e_T 51 (e_T 46 (e_T 42 (e_L 42 (0, ei_load 2 0 43, 0, 0)) (e_T 43 (e_L 43 (0, ei_if1 0 77 46, 0, 0)) (e_L 46 (0, ei_load 0 2 47, 0, 0)))) (e_T 47 (e_L 47 (0, ei_getf eft elay 11 6 50, 0, 0)) (e_T 50 (e_L 50 (0, ei_load 0 2 51, 0, 0)) (e_L 51 (0, ei_getf eft elay 11 2 54, 0, 0))))) (e_T 58 (e_T 54 (e_L 54 (0, ei_load 0 2 55, 0, 0)) (e_T 55 (e_L 55 (0, ei_getf eft elay 11 11 58, 0, 0)) (e_L 58 (0, ei_load 1 0 59, 0, 0)))) (e_T 59 (e_L 59 (0, ei_push (0, 0) 60, 0, 0)) (e_T 60 (e_L 60 (0, ei_push (0, 0) 61, 0, 0)) (e_L 61 (2, e_nof, 171, 6)))))) (e_T 73 (e_T 68 (e_T 64 (e_L 64 (0, ei_if1 0 77 67, 0, 0)) (e_T 67 (e_L 67 (0, ei_load 0 2 68, 0, 0)) (e_L 68 (0, ei_getf eft elay 11 10 71, 0, 0)))) (e_T 71 (e_L 71 (0, ei_push (0, 2) 72, 0, 0)) (e_T 72 (e_L 72 (0, ei_stk ef_dup2 73, 0, 0)) (e_L 73 (0, ei_ald elay false 74, 0, 0))))) (e_T 76 (e_T 74 (e_L 74 (0, ei_push (0, 1) 75, 0, 0)) (e_T 75 (e_L 75 (0, ei_bin eF_add 76, 0, 0)) (e_L 76 (0, ei_ast elay false 77, 0, 0)))) (e_T 77 (e_L 77 (0, ei_inc 1 1 80, 0, 0)) (e_T 80 (e_L 80 (0, ei_goto 2, 0, 0)) (e_L 83 (1, e_nof, 0, 0)))))))
set_option maxRecDepth 20000 in
set_option maxHeartbeats 4000000 in
theorem te_264_24_ok : ∀ pc, e_EOq eft cls elay eI n_264 pc (te_264_24 pc) :=
  (e_Tok2
  (e_Tok2
  (e_Tok2
  (e_Tok2
  (e_Lok (ld_iload_n_2 (x_dk dn_264_0_0_ok 24 rfl)))
  (e_Tok2
  (e_Lok (e_st (I := eI) (er_ifeq (off := 34) (tg := 77) (x_dk dn_264_0_1_ok 0 rfl) (by decide)) nx_if1))
  (e_Lok (ld_aload_n_0 (x_dk dn_264_0_1_ok 1 rfl)))))
  (e_Tok2
  (e_Lok (lk_11_46g ho_264 (x_dk dn_264_0_1_ok 2 rfl)))
  (e_Tok2
  (e_Lok (ld_aload_n_0 (x_dk dn_264_0_1_ok 3 rfl)))
  (e_Lok (lk_11_27g ho_264 (x_dk dn_264_0_1_ok 4 rfl))))))
  (e_Tok2
  (e_Tok2
  (e_Lok (ld_aload_n_0 (x_dk dn_264_0_1_ok 5 rfl)))
  (e_Tok2
  (e_Lok (lk_11_94g ho_264 (x_dk dn_264_0_1_ok 6 rfl)))
  (e_Lok (ld_iload_n_1 (x_dk dn_264_0_1_ok 7 rfl)))))
  (e_Tok2
  (e_Lok (ps_iconst_0 (x_dk dn_264_0_1_ok 8 rfl)))
  (e_Tok2
  (e_Lok (ps_iconst_0 (x_dk dn_264_0_1_ok 9 rfl)))
  (e_Lok (lk_11_403 ho_264 (x_dk dn_264_0_1_ok 10 rfl)))))))
  (e_Tok2
  (e_Tok2
  (e_Tok2
  (e_Lok (e_st (I := eI) (er_ifeq (off := 13) (tg := 77) (x_dk dn_264_0_1_ok 11 rfl) (by decide)) nx_if1))
  (e_Tok2
  (e_Lok (ld_aload_n_0 (x_dk dn_264_0_1_ok 12 rfl)))
  (e_Lok (lk_11_64g ho_264 (x_dk dn_264_0_1_ok 13 rfl)))))
  (e_Tok2
  (e_Lok (ps_iconst_2 (x_dk dn_264_0_1_ok 14 rfl)))
  (e_Tok2
  (e_Lok (e_st (I := eI) (er_dup2 (x_dk dn_264_0_1_ok 15 rfl)) (nx_stk bf_dup2)))
  (e_Lok (sm_iaload (x_dk dn_264_0_1_ok 16 rfl))))))
  (e_Tok2
  (e_Tok2
  (e_Lok (ps_iconst_1 (x_dk dn_264_0_1_ok 17 rfl)))
  (e_Tok2
  (e_Lok (sm_iadd (x_dk dn_264_0_1_ok 18 rfl)))
  (e_Lok (sm_iastore (x_dk dn_264_0_1_ok 19 rfl)))))
  (e_Tok2
  (e_Lok (e_st (I := eI) (er_iinc (i := 1) (n := 1) (x_dk dn_264_0_1_ok 20 rfl) (by decide +kernel) (by decide)) nx_inc))
  (e_Tok2
  (e_Lok (e_st (I := eI) (er_goto (off := (-78)) (tg := 2) (x_dk dn_264_0_1_ok 21 rfl) (by decide)) nx_goto))
  (e_Lok (e_rt (I := eI) (k := 0) ⟨(x_dk dn_264_0_1_ok 22 rfl), rfl⟩)))))))
def te_264 : Nat → eE := (e_T 41 te_264_0 te_264_24)
theorem te_264_ok : ∀ pc, e_EOq eft cls elay eI n_264 pc (te_264 pc) := (e_Tok2 (te_264_0_ok) (te_264_24_ok))
theorem ho_265 : (xm_y n_265).cls = "RobotCellHouse" := rfl
def dn_265_0_0 : List (Nat × Instr × Nat) := [(0, .aload_n 0, 1), (1, .getfield 42, 3), (4, .iload_n 1, 1), (5, .iload_n 2, 1), (6, .invokevirtual 549, 3), (9, .iconst 0, 1), (10, .istore_n 3, 1), (11, .iload_n 3, 1), (12, .aload_n 0, 1), (13, .getfield 94, 3), (16, .if_icmp .ge 39, 3), (19, .aload_n 0, 1), (20, .getfield 27, 3), (23, .iload_n 3, 1), (24, .aaload, 1), (25, .getfield 286, 3), (28, .iconst 1, 1), (29, .if_icmp .ne 11, 3), (32, .aload_n 0, 1), (33, .getfield 19, 3), (36, .iload_n 3, 1), (37, .invokevirtual 550, 3), (40, .aload_n 0, 1), (41, .getfield 27, 3), (44, .iload_n 3, 1)]
set_option maxRecDepth 20000 in
theorem dn_265_0_0_ok : dn_265_0_0.all (fun q => decide (decode (xm_b n_265) q.1 = .ok (q.2.1, q.2.2))) = true := xa_g_ok (by decide +kernel)
def dn_265_0_1 : List (Nat × Instr × Nat) := [(45, .aaload, 1), (46, .invokevirtual 506, 3), (49, .iinc 3 1, 3), (52, .goto (-41), 3), (55, .return_, 1)]
set_option maxRecDepth 20000 in
theorem dn_265_0_1_ok : dn_265_0_1.all (fun q => decide (decode (xm_b n_265) q.1 = .ok (q.2.1, q.2.2))) = true := xa_g_ok (by decide +kernel)
def te_265_0 : Nat → eE := (e_T 24 (e_T 10 (e_T 4 (e_T 0 (e_L 0 (0, ei_load 0 2 1, 0, 0)) (e_T 1 (e_L 1 (0, ei_getf eft elay 11 5 4, 0, 0)) (e_L 4 (0, ei_load 1 0 5, 0, 0)))) (e_T 6 (e_T 5 (e_L 5 (0, ei_load 2 0 6, 0, 0)) (e_L 6 (2, e_nof, 34, 3))) (e_T 9 (e_L 9 (0, ei_push (0, 0) 10, 0, 0)) (e_L 10 (0, ei_stor 3 0 11, 0, 0))))) (e_T 16 (e_T 12 (e_T 11 (e_L 11 (0, ei_load 3 0 12, 0, 0)) (e_L 12 (0, ei_load 0 2 13, 0, 0))) (e_T 13 (e_L 13 (0, ei_getf eft elay 11 11 16, 0, 0)) (e_L 16 (0, ei_if2 3 55 19, 0, 0)))) (e_T 20 (e_T 19 (e_L 19 (0, ei_load 0 2 20, 0, 0)) (e_L 20 (0, ei_getf eft elay 11 2 23, 0, 0))) (e_T 23 (e_L 23 (0, ei_load 3 0 24, 0, 0)) (e_L 24 (0, ei_aald elay 25, 0, 0)))))) (e_T 37 (e_T 29 (e_T 25 (e_L 25 (0, ei_getf eft elay 0 11 28, 0, 0)) (e_T 28 (e_L 28 (0, ei_push (0, 1) 29, 0, 0)) (e_L 29 (0, ei_if2 1 40 32, 0, 0)))) (e_T 33 (e_T 32 (e_L 32 (0, ei_load 0 2 33, 0, 0)) (e_L 33 (0, ei_getf eft elay 11 1 36, 0, 0))) (e_T 36 (e_L 36 (0, ei_load 3 0 37, 0, 0)) (e_L 37 (2, e_nof, 41, 2))))) (e_T 45 (e_T 41 (e_T 40 (e_L 40 (0, ei_load 0 2 41, 0, 0)) (e_L 41 (0, ei_getf eft elay 11 2 44, 0, 0))) (e_T 44 (e_L 44 (0, ei_load 3 0 45, 0, 0)) (e_L 45 (0, ei_aald elay 46, 0, 0)))) (e_T 49 (e_T 46 (e_L 46 (2, e_nof, 17, 1)) (e_L 49 (0, ei_inc 3 1 52, 0, 0))) (e_T 52 (e_L 52 (0, ei_goto 11, 0, 0)) (e_L 55 (1, e_nof, 0, 0)))))))
set_option maxRecDepth 20000 in
set_option maxHeartbeats 4000000 in
theorem te_265_0_ok : ∀ pc, e_EOq eft cls elay eI n_265 pc (te_265_0 pc) :=
  (e_Tok2
  (e_Tok2
  (e_Tok2
  (e_Tok2
  (e_Lok (ld_aload_n_0 (x_dk dn_265_0_0_ok 0 rfl)))
  (e_Tok2
  (e_Lok (lk_11_42g ho_265 (x_dk dn_265_0_0_ok 1 rfl)))
  (e_Lok (ld_iload_n_1 (x_dk dn_265_0_0_ok 2 rfl)))))
  (e_Tok2
  (e_Tok2
  (e_Lok (ld_iload_n_2 (x_dk dn_265_0_0_ok 3 rfl)))
  (e_Lok (lk_11_549 ho_265 (x_dk dn_265_0_0_ok 4 rfl))))
  (e_Tok2
  (e_Lok (ps_iconst_0 (x_dk dn_265_0_0_ok 5 rfl)))
  (e_Lok (e_st (I := eI) (er_istore_n (i := 3) (x_dk dn_265_0_0_ok 6 rfl) (by decide +kernel)) nx_stor)))))
  (e_Tok2
  (e_Tok2
  (e_Tok2
  (e_Lok (ld_iload_n_3 (x_dk dn_265_0_0_ok 7 rfl)))
  (e_Lok (ld_aload_n_0 (x_dk dn_265_0_0_ok 8 rfl))))
  (e_Tok2
  (e_Lok (lk_11_94g ho_265 (x_dk dn_265_0_0_ok 9 rfl)))
  (e_Lok (e_st (I := eI) (er_icmpge (off := 39) (tg := 55) (x_dk dn_265_0_0_ok 10 rfl) (by decide)) nx_if2))))
  (e_Tok2
  (e_Tok2
  (e_Lok (ld_aload_n_0 (x_dk dn_265_0_0_ok 11 rfl)))
  (e_Lok (lk_11_27g ho_265 (x_dk dn_265_0_0_ok 12 rfl))))
  (e_Tok2
  (e_Lok (ld_iload_n_3 (x_dk dn_265_0_0_ok 13 rfl)))
  (e_Lok (e_st (I := eI) (er_aaload (x_dk dn_265_0_0_ok 14 rfl)) nx_aald))))))
  (e_Tok2
  (e_Tok2
  (e_Tok2
  (e_Lok (lk_11_286g ho_265 (x_dk dn_265_0_0_ok 15 rfl)))
  (e_Tok2
  (e_Lok (ps_iconst_1 (x_dk dn_265_0_0_ok 16 rfl)))
  (e_Lok (e_st (I := eI) (er_icmpne (off := 11) (tg := 40) (x_dk dn_265_0_0_ok 17 rfl) (by decide)) nx_if2))))
  (e_Tok2
  (e_Tok2
  (e_Lok (ld_aload_n_0 (x_dk dn_265_0_0_ok 18 rfl)))
  (e_Lok (lk_11_19g ho_265 (x_dk dn_265_0_0_ok 19 rfl))))
  (e_Tok2
  (e_Lok (ld_iload_n_3 (x_dk dn_265_0_0_ok 20 rfl)))
  (e_Lok (lk_11_550 ho_265 (x_dk dn_265_0_0_ok 21 rfl))))))
  (e_Tok2
  (e_Tok2
  (e_Tok2
  (e_Lok (ld_aload_n_0 (x_dk dn_265_0_0_ok 22 rfl)))
  (e_Lok (lk_11_27g ho_265 (x_dk dn_265_0_0_ok 23 rfl))))
  (e_Tok2
  (e_Lok (ld_iload_n_3 (x_dk dn_265_0_0_ok 24 rfl)))
  (e_Lok (e_st (I := eI) (er_aaload (x_dk dn_265_0_1_ok 0 rfl)) nx_aald))))
  (e_Tok2
  (e_Tok2
  (e_Lok (lk_11_506 ho_265 (x_dk dn_265_0_1_ok 1 rfl)))
  (e_Lok (e_st (I := eI) (er_iinc (i := 3) (n := 1) (x_dk dn_265_0_1_ok 2 rfl) (by decide +kernel) (by decide)) nx_inc)))
  (e_Tok2
  (e_Lok (e_st (I := eI) (er_goto (off := (-41)) (tg := 11) (x_dk dn_265_0_1_ok 3 rfl) (by decide)) nx_goto))
  (e_Lok (e_rt (I := eI) (k := 0) ⟨(x_dk dn_265_0_1_ok 4 rfl), rfl⟩)))))))
def te_265 : Nat → eE := te_265_0
theorem te_265_ok : ∀ pc, e_EOq eft cls elay eI n_265 pc (te_265 pc) := te_265_0_ok
theorem ho_266 : (xm_y n_266).cls = "RobotCellHouseModel" := rfl
def dn_266_0_0 : List (Nat × Instr × Nat) := [(0, .lload_n 0, 1), (1, .lload_n 2, 1), (2, .lcmp, 1), (3, .ifCond .lt 14, 3), (6, .lload_n 0, 1), (7, .lload 4, 2), (9, .lcmp, 1), (10, .ifCond .gt 7, 3), (13, .iconst 1, 1), (14, .goto 4, 3), (17, .iconst 0, 1), (18, .ireturn, 1)]
set_option maxRecDepth 20000 in
theorem dn_266_0_0_ok : dn_266_0_0.all (fun q => decide (decode (xm_b n_266) q.1 = .ok (q.2.1, q.2.2))) = true := xa_g_ok (by decide +kernel)
def te_266_0 : Nat → eE := (e_T 7 (e_T 2 (e_T 0 (e_L 0 (0, ei_load 0 1 1, 0, 0)) (e_T 1 (e_L 1 (0, ei_load 2 1 2, 0, 0)) (e_L 2 (0, ei_binL eG_cmp 3, 0, 0)))) (e_T 3 (e_L 3 (0, ei_if1 2 17 6, 0, 0)) (e_T 6 (e_L 6 (0, ei_load 0 1 7, 0, 0)) (e_L 7 (0, ei_load 4 1 9, 0, 0))))) (e_T 13 (e_T 9 (e_L 9 (0, ei_binL eG_cmp 10, 0, 0)) (e_T 10 (e_L 10 (0, ei_if1 4 17 13, 0, 0)) (e_L 13 (0, ei_push (0, 1) 14, 0, 0)))) (e_T 14 (e_L 14 (0, ei_goto 18, 0, 0)) (e_T 17 (e_L 17 (0, ei_push (0, 0) 18, 0, 0)) (e_L 18 (1, e_nof, 4, 0))))))
set_option maxRecDepth 20000 in
set_option maxHeartbeats 4000000 in
theorem te_266_0_ok : ∀ pc, e_EOq eft cls elay eI n_266 pc (te_266_0 pc) :=
  (e_Tok2
  (e_Tok2
  (e_Tok2
  (e_Lok (ld_lload_n_0 (x_dk dn_266_0_0_ok 0 rfl)))
  (e_Tok2
  (e_Lok (ld_lload_n_2 (x_dk dn_266_0_0_ok 1 rfl)))
  (e_Lok (e_st (I := eI) (er_lcmp (x_dk dn_266_0_0_ok 2 rfl)) (nx_binL bG_lcmp)))))
  (e_Tok2
  (e_Lok (e_st (I := eI) (er_iflt (off := 14) (tg := 17) (x_dk dn_266_0_0_ok 3 rfl) (by decide)) nx_if1))
  (e_Tok2
  (e_Lok (ld_lload_n_0 (x_dk dn_266_0_0_ok 4 rfl)))
  (e_Lok (ld_lload_4 (x_dk dn_266_0_0_ok 5 rfl))))))
  (e_Tok2
  (e_Tok2
  (e_Lok (e_st (I := eI) (er_lcmp (x_dk dn_266_0_0_ok 6 rfl)) (nx_binL bG_lcmp)))
  (e_Tok2
  (e_Lok (e_st (I := eI) (er_ifgt (off := 7) (tg := 17) (x_dk dn_266_0_0_ok 7 rfl) (by decide)) nx_if1))
  (e_Lok (ps_iconst_1 (x_dk dn_266_0_0_ok 8 rfl)))))
  (e_Tok2
  (e_Lok (e_st (I := eI) (er_goto (off := 4) (tg := 18) (x_dk dn_266_0_0_ok 9 rfl) (by decide)) nx_goto))
  (e_Tok2
  (e_Lok (ps_iconst_0 (x_dk dn_266_0_0_ok 10 rfl)))
  (e_Lok (e_rt (I := eI) (k := 4) ⟨(x_dk dn_266_0_0_ok 11 rfl), rfl⟩))))))
def te_266 : Nat → eE := te_266_0
theorem te_266_ok : ∀ pc, e_EOq eft cls elay eI n_266 pc (te_266 pc) := te_266_0_ok
theorem ho_267 : (xm_y n_267).cls = "RobotCellHouseModel" := rfl
def dn_267_0_0 : List (Nat × Instr × Nat) := [(0, .aload_n 0, 1), (1, .iconst 0, 1), (2, .putfield 265, 3), (5, .aload_n 0, 1), (6, .iconst 0, 1), (7, .putfield 269, 3), (10, .aload_n 0, 1), (11, .iconst 0, 1), (12, .putfield 273, 3), (15, .aload_n 0, 1), (16, .iconst 0, 1), (17, .putfield 276, 3), (20, .aload_n 0, 1), (21, .iconst 0, 1), (22, .putfield 279, 3), (25, .aload_n 0, 1), (26, .iconst 0, 1), (27, .putfield 282, 3), (30, .aload_n 0, 1), (31, .iconst 0, 1), (32, .putfield 285, 3), (35, .aload_n 0, 1), (36, .iconst 0, 1), (37, .putfield 288, 3), (40, .aload_n 0, 1)]
set_option maxRecDepth 20000 in
theorem dn_267_0_0_ok : dn_267_0_0.all (fun q => decide (decode (xm_b n_267) q.1 = .ok (q.2.1, q.2.2))) = true := xa_g_ok (by decide +kernel)
def dn_267_0_1 : List (Nat × Instr × Nat) := [(41, .iconst 0, 1), (42, .putfield 291, 3), (45, .iconst 0, 1), (46, .istore_n 1, 1), (47, .iload_n 1, 1), (48, .ldc 7, 2), (50, .if_icmp .ge 16, 3), (53, .aload_n 0, 1), (54, .getfield 8, 3), (57, .iload_n 1, 1), (58, .iconst 0, 1), (59, .iastore, 1), (60, .iinc 1 1, 3), (63, .goto (-16), 3), (66, .iconst 0, 1), (67, .istore_n 1, 1), (68, .iload_n 1, 1), (69, .iconst 4, 1), (70, .if_icmp .ge 100, 3), (73, .aload_n 0, 1), (74, .getfield 43, 3), (77, .iload_n 1, 1), (78, .iconst 0, 1), (79, .iastore, 1), (80, .aload_n 0, 1)]
set_option maxRecDepth 20000 in
theorem dn_267_0_1_ok : dn_267_0_1.all (fun q => decide (decode (xm_b n_267) q.1 = .ok (q.2.1, q.2.2))) = true := xa_g_ok (by decide +kernel)
def dn_267_0_2 : List (Nat × Instr × Nat) := [(81, .getfield 8, 3), (84, .iload_n 1, 1), (85, .invokestatic 294, 3), (88, .iconst 1, 1), (89, .iadd, 1), (90, .iconst (-1), 1), (91, .iastore, 1), (92, .aload_n 0, 1), (93, .getfield 8, 3), (96, .iload_n 1, 1), (97, .invokestatic 294, 3), (100, .iconst 2, 1), (101, .iadd, 1), (102, .iconst (-1), 1), (103, .iastore, 1), (104, .aload_n 0, 1), (105, .getfield 8, 3), (108, .iload_n 1, 1), (109, .invokestatic 294, 3), (112, .iconst 3, 1), (113, .iadd, 1), (114, .iconst (-1), 1), (115, .iastore, 1), (116, .aload_n 0, 1), (117, .getfield 8, 3)]
set_option maxRecDepth 20000 in
theorem dn_267_0_2_ok : dn_267_0_2.all (fun q => decide (decode (xm_b n_267) q.1 = .ok (q.2.1, q.2.2))) = true := xa_g_ok (by decide +kernel)
def dn_267_0_3 : List (Nat × Instr × Nat) := [(120, .iload_n 1, 1), (121, .invokestatic 294, 3), (124, .bipush 9, 2), (126, .iadd, 1), (127, .iconst (-1), 1), (128, .iastore, 1), (129, .aload_n 0, 1), (130, .getfield 104, 3), (133, .iload_n 1, 1), (134, .iconst (-1), 1), (135, .iastore, 1), (136, .aload_n 0, 1), (137, .getfield 24, 3), (140, .iload_n 1, 1), (141, .iconst 0, 1), (142, .iastore, 1), (143, .aload_n 0, 1), (144, .getfield 201, 3), (147, .iload_n 1, 1), (148, .iconst 0, 1), (149, .iastore, 1), (150, .aload_n 0, 1), (151, .getfield 204, 3), (154, .iload_n 1, 1), (155, .iconst 0, 1)]
set_option maxRecDepth 20000 in
theorem dn_267_0_3_ok : dn_267_0_3.all (fun q => decide (decode (xm_b n_267) q.1 = .ok (q.2.1, q.2.2))) = true := xa_g_ok (by decide +kernel)
def dn_267_1_0 : List (Nat × Instr × Nat) := [(156, .iastore, 1), (157, .aload_n 0, 1), (158, .getfield 207, 3), (161, .iload_n 1, 1), (162, .iconst 0, 1), (163, .bastore, 1), (164, .iinc 1 1, 3), (167, .goto (-99), 3), (170, .iconst 0, 1), (171, .istore_n 1, 1), (172, .iload_n 1, 1), (173, .bipush 16, 2), (175, .if_icmp .ge 21, 3), (178, .aload_n 0, 1), (179, .getfield 8, 3), (182, .iload_n 1, 1), (183, .invokestatic 298, 3), (186, .iconst 1, 1), (187, .iadd, 1), (188, .iconst (-1), 1), (189, .iastore, 1), (190, .iinc 1 1, 3), (193, .goto (-21), 3), (196, .iconst 0, 1), (197, .istore_n 1, 1)]
set_option maxRecDepth 20000 in
theorem dn_267_1_0_ok : dn_267_1_0.all (fun q => decide (decode (xm_b n_267) q.1 = .ok (q.2.1, q.2.2))) = true := xa_g_ok (by decide +kernel)
def dn_267_1_1 : List (Nat × Instr × Nat) := [(198, .iload_n 1, 1), (199, .bipush 8, 2), (201, .if_icmp .ge 55, 3), (204, .aload_n 0, 1), (205, .getfield 8, 3), (208, .sipush 20868, 3), (211, .iload_n 1, 1), (212, .iadd, 1), (213, .iconst (-1), 1), (214, .iastore, 1), (215, .aload_n 0, 1), (216, .getfield 8, 3), (219, .sipush 20836, 3), (222, .iconst 4, 1), (223, .iload_n 1, 1), (224, .imul, 1), (225, .iadd, 1), (226, .iconst 1, 1), (227, .iastore, 1), (228, .aload_n 0, 1), (229, .getfield 8, 3), (232, .sipush 20836, 3), (235, .iconst 4, 1), (236, .iload_n 1, 1), (237, .imul, 1)]
set_option maxRecDepth 20000 in
theorem dn_267_1_1_ok : dn_267_1_1.all (fun q => decide (decode (xm_b n_267) q.1 = .ok (q.2.1, q.2.2))) = true := xa_g_ok (by decide +kernel)
def dn_267_1_2 : List (Nat × Instr × Nat) := [(238, .iadd, 1), (239, .iconst 1, 1), (240, .iadd, 1), (241, .iconst 1, 1), (242, .iastore, 1), (243, .aload_n 0, 1), (244, .getfield 137, 3), (247, .iload_n 1, 1), (248, .iconst 0, 1), (249, .bastore, 1), (250, .iinc 1 1, 3), (253, .goto (-55), 3), (256, .iconst 0, 1), (257, .istore_n 1, 1), (258, .iload_n 1, 1), (259, .bipush 64, 2), (261, .if_icmp .ge 16, 3), (264, .aload_n 0, 1), (265, .getfield 140, 3), (268, .iload_n 1, 1), (269, .iconst (-1), 1), (270, .iastore, 1), (271, .iinc 1 1, 3), (274, .goto (-16), 3), (277, .iconst 0, 1)]
set_option maxRecDepth 20000 in
theorem dn_267_1_2_ok : dn_267_1_2.all (fun q => decide (decode (xm_b n_267) q.1 = .ok (q.2.1, q.2.2))) = true := xa_g_ok (by decide +kernel)
def dn_267_1_3 : List (Nat × Instr × Nat) := [(278, .istore_n 1, 1), (279, .iload_n 1, 1), (280, .sipush 448, 3), (283, .if_icmp .ge 16, 3), (286, .aload_n 0, 1), (287, .getfield 83, 3), (290, .iload_n 1, 1), (291, .iconst 0, 1), (292, .bastore, 1), (293, .iinc 1 1, 3), (296, .goto (-17), 3), (299, .return_, 1)]
set_option maxRecDepth 20000 in
theorem dn_267_1_3_ok : dn_267_1_3.all (fun q => decide (decode (xm_b n_267) q.1 = .ok (q.2.1, q.2.2))) = true := xa_g_ok (by decide +kernel)
def te_267_0 : Nat → eE := (e_T 16 (e_T 6 (e_T 1 (e_T 0 (e_L 0 (0, ei_load 0 2 1, 0, 0)) (e_L 1 (0, ei_push (0, 0) 2, 0, 0))) (e_T 2 (e_L 2 (0, ei_putf eft elay 12 3 1 5, 0, 0)) (e_T 5 (e_L 5 (0, ei_load 0 2 6, 0, 0)) (e_L 6 (0, ei_push (0, 0) 7, 0, 0))))) (e_T 11 (e_T 7 (e_L 7 (0, ei_putf eft elay 12 10 0 10, 0, 0)) (e_T 10 (e_L 10 (0, ei_load 0 2 11, 0, 0)) (e_L 11 (0, ei_push (0, 0) 12, 0, 0)))) (e_T 12 (e_L 12 (0, ei_putf eft elay 12 23 0 15, 0, 0)) (e_T 15 (e_L 15 (0, ei_load 0 2 16, 0, 0)) (e_L 16 (0, ei_push (0, 0) 17, 0, 0)))))) (e_T 26 (e_T 21 (e_T 17 (e_L 17 (0, ei_putf eft elay 12 30 0 20, 0, 0)) (e_T 20 (e_L 20 (0, ei_load 0 2 21, 0, 0)) (e_L 21 (0, ei_push (0, 0) 22, 0, 0)))) (e_T 22 (e_L 22 (0, ei_putf eft elay 12 40 0 25, 0, 0)) (e_T 25 (e_L 25 (0, ei_load 0 2 26, 0, 0)) (e_L 26 (0, ei_push (0, 0) 27, 0, 0))))) (e_T 31 (e_T 27 (e_L 27 (0, ei_putf eft elay 12 42 0 30, 0, 0)) (e_T 30 (e_L 30 (0, ei_load 0 2 31, 0, 0)) (e_L 31 (0, ei_push (0, 0) 32, 0, 0)))) (e_T 32 (e_L 32 (0, ei_putf eft elay 12 49 0 35, 0, 0)) (e_T 35 (e_L 35 (0, ei_load 0 2 36, 0, 0)) (e_L 36 (0, ei_push (0, 0) 37, 0, 0)))))))
set_option maxRecDepth 20000 in
set_option maxHeartbeats 4000000 in
theorem te_267_0_ok : ∀ pc, e_EOq eft cls elay eI n_267 pc (te_267_0 pc) :=
  (e_Tok2
  (e_Tok2
  (e_Tok2
  (e_Tok2
  (e_Lok (ld_aload_n_0 (x_dk dn_267_0_0_ok 0 rfl)))
  (e_Lok (ps_iconst_0 (x_dk dn_267_0_0_ok 1 rfl))))
  (e_Tok2
  (e_Lok (lk_12_265p ho_267 (x_dk dn_267_0_0_ok 2 rfl)))
  (e_Tok2
  (e_Lok (ld_aload_n_0 (x_dk dn_267_0_0_ok 3 rfl)))
  (e_Lok (ps_iconst_0 (x_dk dn_267_0_0_ok 4 rfl))))))
  (e_Tok2
  (e_Tok2
  (e_Lok (lk_12_269p ho_267 (x_dk dn_267_0_0_ok 5 rfl)))
  (e_Tok2
  (e_Lok (ld_aload_n_0 (x_dk dn_267_0_0_ok 6 rfl)))
  (e_Lok (ps_iconst_0 (x_dk dn_267_0_0_ok 7 rfl)))))
  (e_Tok2
  (e_Lok (lk_12_273p ho_267 (x_dk dn_267_0_0_ok 8 rfl)))
  (e_Tok2
  (e_Lok (ld_aload_n_0 (x_dk dn_267_0_0_ok 9 rfl)))
  (e_Lok (ps_iconst_0 (x_dk dn_267_0_0_ok 10 rfl)))))))
  (e_Tok2
  (e_Tok2
  (e_Tok2
  (e_Lok (lk_12_276p ho_267 (x_dk dn_267_0_0_ok 11 rfl)))
  (e_Tok2
  (e_Lok (ld_aload_n_0 (x_dk dn_267_0_0_ok 12 rfl)))
  (e_Lok (ps_iconst_0 (x_dk dn_267_0_0_ok 13 rfl)))))
  (e_Tok2
  (e_Lok (lk_12_279p ho_267 (x_dk dn_267_0_0_ok 14 rfl)))
  (e_Tok2
  (e_Lok (ld_aload_n_0 (x_dk dn_267_0_0_ok 15 rfl)))
  (e_Lok (ps_iconst_0 (x_dk dn_267_0_0_ok 16 rfl))))))
  (e_Tok2
  (e_Tok2
  (e_Lok (lk_12_282p ho_267 (x_dk dn_267_0_0_ok 17 rfl)))
  (e_Tok2
  (e_Lok (ld_aload_n_0 (x_dk dn_267_0_0_ok 18 rfl)))
  (e_Lok (ps_iconst_0 (x_dk dn_267_0_0_ok 19 rfl)))))
  (e_Tok2
  (e_Lok (lk_12_285p ho_267 (x_dk dn_267_0_0_ok 20 rfl)))
  (e_Tok2
  (e_Lok (ld_aload_n_0 (x_dk dn_267_0_0_ok 21 rfl)))
  (e_Lok (ps_iconst_0 (x_dk dn_267_0_0_ok 22 rfl))))))))
def te_267_23 : Nat → eE := (e_T 54 (e_T 45 (e_T 40 (e_T 37 (e_L 37 (0, ei_putf eft elay 12 5 0 40, 0, 0)) (e_L 40 (0, ei_load 0 2 41, 0, 0))) (e_T 41 (e_L 41 (0, ei_push (0, 0) 42, 0, 0)) (e_T 42 (e_L 42 (0, ei_putf eft elay 12 118 0 45, 0, 0)) (e_L 45 (0, ei_push (0, 0) 46, 0, 0))))) (e_T 48 (e_T 46 (e_L 46 (0, ei_stor 1 0 47, 0, 0)) (e_T 47 (e_L 47 (0, ei_load 1 0 48, 0, 0)) (e_L 48 (0, ei_push (0, 33060) 50, 0, 0)))) (e_T 50 (e_L 50 (0, ei_if2 3 66 53, 0, 0)) (e_T 53 (e_L 53 (0, ei_load 0 2 54, 0, 0)) (e_L 54 (0, ei_getf eft elay 12 0 57, 0, 0)))))) (e_T 66 (e_T 59 (e_T 57 (e_L 57 (0, ei_load 1 0 58, 0, 0)) (e_T 58 (e_L 58 (0, ei_push (0, 0) 59, 0, 0)) (e_L 59 (0, ei_ast elay false 60, 0, 0)))) (e_T 60 (e_L 60 (0, ei_inc 1 1 63, 0, 0)) (e_T 63 (e_L 63 (0, ei_goto 47, 0, 0)) (e_L 66 (0, ei_push (0, 0) 67, 0, 0))))) (e_T 69 (e_T 67 (e_L 67 (0, ei_stor 1 0 68, 0, 0)) (e_T 68 (e_L 68 (0, ei_load 1 0 69, 0, 0)) (e_L 69 (0, ei_push (0, 4) 70, 0, 0)))) (e_T 70 (e_L 70 (0, ei_if2 3 170 73, 0, 0)) (e_T 73 (e_L 73 (0, ei_load 0 2 74, 0, 0)) (e_L 74 (0, ei_getf eft elay 12 15 77, 0, 0)))))))
set_option maxRecDepth 20000 in
set_option maxHeartbeats 4000000 in
theorem te_267_23_ok : ∀ pc, e_EOq eft cls elay eI n_267 pc (te_267_23 pc) :=
  (e_Tok2
  (e_Tok2
  (e_Tok2
  (e_Tok2
  (e_Lok (lk_12_288p ho_267 (x_dk dn_267_0_0_ok 23 rfl)))
  (e_Lok (ld_aload_n_0 (x_dk dn_267_0_0_ok 24 rfl))))
  (e_Tok2
  (e_Lok (ps_iconst_0 (x_dk dn_267_0_1_ok 0 rfl)))
  (e_Tok2
  (e_Lok (lk_12_291p ho_267 (x_dk dn_267_0_1_ok 1 rfl)))
  (e_Lok (ps_iconst_0 (x_dk dn_267_0_1_ok 2 rfl))))))
  (e_Tok2
  (e_Tok2
  (e_Lok (e_st (I := eI) (er_istore_n (i := 1) (x_dk dn_267_0_1_ok 3 rfl) (by decide +kernel)) nx_stor))
  (e_Tok2
  (e_Lok (ld_iload_n_1 (x_dk dn_267_0_1_ok 4 rfl)))
  (e_Lok (e_st (I := eI) (er_ldc (ix := 7) (z := 33060) (v := 33060) (x_dk dn_267_0_1_ok 5 rfl) (in_t9 (List.mem_of_getElem? (i := 86) rfl) rfl) (by decide)) (nx_push (Or.inl rfl))))))
  (e_Tok2
  (e_Lok (e_st (I := eI) (er_icmpge (off := 16) (tg := 66) (x_dk dn_267_0_1_ok 6 rfl) (by decide)) nx_if2))
  (e_Tok2
  (e_Lok (ld_aload_n_0 (x_dk dn_267_0_1_ok 7 rfl)))
  (e_Lok (lk_12_8g ho_267 (x_dk dn_267_0_1_ok 8 rfl)))))))
  (e_Tok2
  (e_Tok2
  (e_Tok2
  (e_Lok (ld_iload_n_1 (x_dk dn_267_0_1_ok 9 rfl)))
  (e_Tok2
  (e_Lok (ps_iconst_0 (x_dk dn_267_0_1_ok 10 rfl)))
  (e_Lok (sm_iastore (x_dk dn_267_0_1_ok 11 rfl)))))
  (e_Tok2
  (e_Lok (e_st (I := eI) (er_iinc (i := 1) (n := 1) (x_dk dn_267_0_1_ok 12 rfl) (by decide +kernel) (by decide)) nx_inc))
  (e_Tok2
  (e_Lok (e_st (I := eI) (er_goto (off := (-16)) (tg := 47) (x_dk dn_267_0_1_ok 13 rfl) (by decide)) nx_goto))
  (e_Lok (ps_iconst_0 (x_dk dn_267_0_1_ok 14 rfl))))))
  (e_Tok2
  (e_Tok2
  (e_Lok (e_st (I := eI) (er_istore_n (i := 1) (x_dk dn_267_0_1_ok 15 rfl) (by decide +kernel)) nx_stor))
  (e_Tok2
  (e_Lok (ld_iload_n_1 (x_dk dn_267_0_1_ok 16 rfl)))
  (e_Lok (ps_iconst_4 (x_dk dn_267_0_1_ok 17 rfl)))))
  (e_Tok2
  (e_Lok (e_st (I := eI) (er_icmpge (off := 100) (tg := 170) (x_dk dn_267_0_1_ok 18 rfl) (by decide)) nx_if2))
  (e_Tok2
  (e_Lok (ld_aload_n_0 (x_dk dn_267_0_1_ok 19 rfl)))
  (e_Lok (lk_12_43g ho_267 (x_dk dn_267_0_1_ok 20 rfl))))))))
def te_267_46 : Nat → eE := (e_T 91 (e_T 81 (e_T 78 (e_T 77 (e_L 77 (0, ei_load 1 0 78, 0, 0)) (e_L 78 (0, ei_push (0, 0) 79, 0, 0))) (e_T 79 (e_L 79 (0, ei_ast elay false 80, 0, 0)) (e_T 80 (e_L 80 (0, ei_load 0 2 81, 0, 0)) (e_L 81 (0, ei_getf eft elay 12 0 84, 0, 0))))) (e_T 88 (e_T 84 (e_L 84 (0, ei_load 1 0 85, 0, 0)) (e_T 85 (e_L 85 (2, e_nof, 268, 1)) (e_L 88 (0, ei_push (0, 1) 89, 0, 0)))) (e_T 89 (e_L 89 (0, ei_bin eF_add 90, 0, 0)) (e_T 90 (e_L 90 (0, ei_push (0, (-1)) 91, 0, 0)) (e_L 91 (0, ei_ast elay false 92, 0, 0)))))) (e_T 101 (e_T 96 (e_T 92 (e_L 92 (0, ei_load 0 2 93, 0, 0)) (e_T 93 (e_L 93 (0, ei_getf eft elay 12 0 96, 0, 0)) (e_L 96 (0, ei_load 1 0 97, 0, 0)))) (e_T 97 (e_L 97 (2, e_nof, 268, 1)) (e_T 100 (e_L 100 (0, ei_push (0, 2) 101, 0, 0)) (e_L 101 (0, ei_bin eF_add 102, 0, 0))))) (e_T 104 (e_T 102 (e_L 102 (0, ei_push (0, (-1)) 103, 0, 0)) (e_T 103 (e_L 103 (0, ei_ast elay false 104, 0, 0)) (e_L 104 (0, ei_load 0 2 105, 0, 0)))) (e_T 105 (e_L 105 (0, ei_getf eft elay 12 0 108, 0, 0)) (e_T 108 (e_L 108 (0, ei_load 1 0 109, 0, 0)) (e_L 109 (2, e_nof, 268, 1)))))))
set_option maxRecDepth 20000 in
set_option maxHeartbeats 4000000 in
theorem te_267_46_ok : ∀ pc, e_EOq eft cls elay eI n_267 pc (te_267_46 pc) :=
  (e_Tok2
  (e_Tok2
  (e_Tok2
  (e_Tok2
  (e_Lok (ld_iload_n_1 (x_dk dn_267_0_1_ok 21 rfl)))
  (e_Lok (ps_iconst_0 (x_dk dn_267_0_1_ok 22 rfl))))
  (e_Tok2
  (e_Lok (sm_iastore (x_dk dn_267_0_1_ok 23 rfl)))
  (e_Tok2
  (e_Lok (ld_aload_n_0 (x_dk dn_267_0_1_ok 24 rfl)))
  (e_Lok (lk_12_8g ho_267 (x_dk dn_267_0_2_ok 0 rfl))))))
  (e_Tok2
  (e_Tok2
  (e_Lok (ld_iload_n_1 (x_dk dn_267_0_2_ok 1 rfl)))
  (e_Tok2
  (e_Lok (lk_12_294 ho_267 (x_dk dn_267_0_2_ok 2 rfl)))
  (e_Lok (ps_iconst_1 (x_dk dn_267_0_2_ok 3 rfl)))))
  (e_Tok2
  (e_Lok (sm_iadd (x_dk dn_267_0_2_ok 4 rfl)))
  (e_Tok2
  (e_Lok (ps_iconst_m1 (x_dk dn_267_0_2_ok 5 rfl)))
  (e_Lok (sm_iastore (x_dk dn_267_0_2_ok 6 rfl)))))))
  (e_Tok2
  (e_Tok2
  (e_Tok2
  (e_Lok (ld_aload_n_0 (x_dk dn_267_0_2_ok 7 rfl)))
  (e_Tok2
  (e_Lok (lk_12_8g ho_267 (x_dk dn_267_0_2_ok 8 rfl)))
  (e_Lok (ld_iload_n_1 (x_dk dn_267_0_2_ok 9 rfl)))))
  (e_Tok2
  (e_Lok (lk_12_294 ho_267 (x_dk dn_267_0_2_ok 10 rfl)))
  (e_Tok2
  (e_Lok (ps_iconst_2 (x_dk dn_267_0_2_ok 11 rfl)))
  (e_Lok (sm_iadd (x_dk dn_267_0_2_ok 12 rfl))))))
  (e_Tok2
  (e_Tok2
  (e_Lok (ps_iconst_m1 (x_dk dn_267_0_2_ok 13 rfl)))
  (e_Tok2
  (e_Lok (sm_iastore (x_dk dn_267_0_2_ok 14 rfl)))
  (e_Lok (ld_aload_n_0 (x_dk dn_267_0_2_ok 15 rfl)))))
  (e_Tok2
  (e_Lok (lk_12_8g ho_267 (x_dk dn_267_0_2_ok 16 rfl)))
  (e_Tok2
  (e_Lok (ld_iload_n_1 (x_dk dn_267_0_2_ok 17 rfl)))
  (e_Lok (lk_12_294 ho_267 (x_dk dn_267_0_2_ok 18 rfl))))))))
def te_267_69 : Nat → eE := (e_T 128 (e_T 117 (e_T 114 (e_T 112 (e_L 112 (0, ei_push (0, 3) 113, 0, 0)) (e_T 113 (e_L 113 (0, ei_bin eF_add 114, 0, 0)) (e_L 114 (0, ei_push (0, (-1)) 115, 0, 0)))) (e_T 115 (e_L 115 (0, ei_ast elay false 116, 0, 0)) (e_T 116 (e_L 116 (0, ei_load 0 2 117, 0, 0)) (e_L 117 (0, ei_getf eft elay 12 0 120, 0, 0))))) (e_T 124 (e_T 120 (e_L 120 (0, ei_load 1 0 121, 0, 0)) (e_T 121 (e_L 121 (2, e_nof, 268, 1)) (e_L 124 (0, ei_push (0, 9) 126, 0, 0)))) (e_T 126 (e_L 126 (0, ei_bin eF_add 127, 0, 0)) (e_T 127 (e_L 127 (0, ei_push (0, (-1)) 128, 0, 0)) (e_L 128 (0, ei_ast elay false 129, 0, 0)))))) (e_T 136 (e_T 133 (e_T 129 (e_L 129 (0, ei_load 0 2 130, 0, 0)) (e_T 130 (e_L 130 (0, ei_getf eft elay 12 37 133, 0, 0)) (e_L 133 (0, ei_load 1 0 134, 0, 0)))) (e_T 134 (e_L 134 (0, ei_push (0, (-1)) 135, 0, 0)) (e_T 135 (e_L 135 (0, ei_ast elay false 136, 0, 0)) (e_L 136 (0, ei_load 0 2 137, 0, 0))))) (e_T 141 (e_T 137 (e_L 137 (0, ei_getf eft elay 12 7 140, 0, 0)) (e_T 140 (e_L 140 (0, ei_load 1 0 141, 0, 0)) (e_L 141 (0, ei_push (0, 0) 142, 0, 0)))) (e_T 142 (e_L 142 (0, ei_ast elay false 143, 0, 0)) (e_T 143 (e_L 143 (0, ei_load 0 2 144, 0, 0)) (e_L 144 (0, ei_getf eft elay 12 75 147, 0, 0)))))))
set_option maxRecDepth 20000 in
set_option maxHeartbeats 4000000 in
theorem te_267_69_ok : ∀ pc, e_EOq eft cls elay eI n_267 pc (te_267_69 pc) :=
  (e_Tok2
  (e_Tok2
  (e_Tok2
  (e_Tok2
  (e_Lok (ps_iconst_3 (x_dk dn_267_0_2_ok 19 rfl)))
  (e_Tok2
  (e_Lok (sm_iadd (x_dk dn_267_0_2_ok 20 rfl)))
  (e_Lok (ps_iconst_m1 (x_dk dn_267_0_2_ok 21 rfl)))))
  (e_Tok2
  (e_Lok (sm_iastore (x_dk dn_267_0_2_ok 22 rfl)))
  (e_Tok2
  (e_Lok (ld_aload_n_0 (x_dk dn_267_0_2_ok 23 rfl)))
  (e_Lok (lk_12_8g ho_267 (x_dk dn_267_0_2_ok 24 rfl))))))
  (e_Tok2
  (e_Tok2
  (e_Lok (ld_iload_n_1 (x_dk dn_267_0_3_ok 0 rfl)))
  (e_Tok2
  (e_Lok (lk_12_294 ho_267 (x_dk dn_267_0_3_ok 1 rfl)))
  (e_Lok (ps_bipush_9 (x_dk dn_267_0_3_ok 2 rfl)))))
  (e_Tok2
  (e_Lok (sm_iadd (x_dk dn_267_0_3_ok 3 rfl)))
  (e_Tok2
  (e_Lok (ps_iconst_m1 (x_dk dn_267_0_3_ok 4 rfl)))
  (e_Lok (sm_iastore (x_dk dn_267_0_3_ok 5 rfl)))))))
  (e_Tok2
  (e_Tok2
  (e_Tok2
  (e_Lok (ld_aload_n_0 (x_dk dn_267_0_3_ok 6 rfl)))
  (e_Tok2
  (e_Lok (lk_12_104g ho_267 (x_dk dn_267_0_3_ok 7 rfl)))
  (e_Lok (ld_iload_n_1 (x_dk dn_267_0_3_ok 8 rfl)))))
  (e_Tok2
  (e_Lok (ps_iconst_m1 (x_dk dn_267_0_3_ok 9 rfl)))
  (e_Tok2
  (e_Lok (sm_iastore (x_dk dn_267_0_3_ok 10 rfl)))
  (e_Lok (ld_aload_n_0 (x_dk dn_267_0_3_ok 11 rfl))))))
  (e_Tok2
  (e_Tok2
  (e_Lok (lk_12_24g ho_267 (x_dk dn_267_0_3_ok 12 rfl)))
  (e_Tok2
  (e_Lok (ld_iload_n_1 (x_dk dn_267_0_3_ok 13 rfl)))
  (e_Lok (ps_iconst_0 (x_dk dn_267_0_3_ok 14 rfl)))))
  (e_Tok2
  (e_Lok (sm_iastore (x_dk dn_267_0_3_ok 15 rfl)))
  (e_Tok2
  (e_Lok (ld_aload_n_0 (x_dk dn_267_0_3_ok 16 rfl)))
  (e_Lok (lk_12_201g ho_267 (x_dk dn_267_0_3_ok 17 rfl))))))))
def te_267_93 : Nat → eE := (e_T 161 (e_T 151 (e_T 148 (e_T 147 (e_L 147 (0, ei_load 1 0 148, 0, 0)) (e_L 148 (0, ei_push (0, 0) 149, 0, 0))) (e_T 149 (e_L 149 (0, ei_ast elay false 150, 0, 0)) (e_T 150 (e_L 150 (0, ei_load 0 2 151, 0, 0)) (e_L 151 (0, ei_getf eft elay 12 76 154, 0, 0))))) (e_T 156 (e_T 154 (e_L 154 (0, ei_load 1 0 155, 0, 0)) (e_T 155 (e_L 155 (0, ei_push (0, 0) 156, 0, 0)) (e_L 156 (0, ei_ast elay false 157, 0, 0)))) (e_T 157 (e_L 157 (0, ei_load 0 2 158, 0, 0)) (e_T 158 (e_L 158 (0, ei_getf eft elay 12 77 161, 0, 0)) (e_L 161 (0, ei_load 1 0 162, 0, 0)))))) (e_T 171 (e_T 164 (e_T 162 (e_L 162 (0, ei_push (0, 0) 163, 0, 0)) (e_T 163 (e_L 163 (0, ei_ast elay true 164, 0, 0)) (e_L 164 (0, ei_inc 1 1 167, 0, 0)))) (e_T 167 (e_L 167 (0, ei_goto 68, 0, 0)) (e_T 170 (e_L 170 (0, ei_push (0, 0) 171, 0, 0)) (e_L 171 (0, ei_stor 1 0 172, 0, 0))))) (e_T 175 (e_T 172 (e_L 172 (0, ei_load 1 0 173, 0, 0)) (e_T 173 (e_L 173 (0, ei_push (0, 16) 175, 0, 0)) (e_L 175 (0, ei_if2 3 196 178, 0, 0)))) (e_T 178 (e_L 178 (0, ei_load 0 2 179, 0, 0)) (e_T 179 (e_L 179 (0, ei_getf eft elay 12 0 182, 0, 0)) (e_L 182 (0, ei_load 1 0 183, 0, 0)))))))
set_option maxRecDepth 20000 in
set_option maxHeartbeats 4000000 in
theorem te_267_93_ok : ∀ pc, e_EOq eft cls elay eI n_267 pc (te_267_93 pc) :=
  (e_Tok2
  (e_Tok2
  (e_Tok2
  (e_Tok2
  (e_Lok (ld_iload_n_1 (x_dk dn_267_0_3_ok 18 rfl)))
  (e_Lok (ps_iconst_0 (x_dk dn_267_0_3_ok 19 rfl))))
  (e_Tok2
  (e_Lok (sm_iastore (x_dk dn_267_0_3_ok 20 rfl)))
  (e_Tok2
  (e_Lok (ld_aload_n_0 (x_dk dn_267_0_3_ok 21 rfl)))
  (e_Lok (lk_12_204g ho_267 (x_dk dn_267_0_3_ok 22 rfl))))))
  (e_Tok2
  (e_Tok2
  (e_Lok (ld_iload_n_1 (x_dk dn_267_0_3_ok 23 rfl)))
  (e_Tok2
  (e_Lok (ps_iconst_0 (x_dk dn_267_0_3_ok 24 rfl)))
  (e_Lok (sm_iastore (x_dk dn_267_1_0_ok 0 rfl)))))
  (e_Tok2
  (e_Lok (ld_aload_n_0 (x_dk dn_267_1_0_ok 1 rfl)))
  (e_Tok2
  (e_Lok (lk_12_207g ho_267 (x_dk dn_267_1_0_ok 2 rfl)))
  (e_Lok (ld_iload_n_1 (x_dk dn_267_1_0_ok 3 rfl)))))))
  (e_Tok2
  (e_Tok2
  (e_Tok2
  (e_Lok (ps_iconst_0 (x_dk dn_267_1_0_ok 4 rfl)))
  (e_Tok2
  (e_Lok (e_st (I := eI) (er_bastore (x_dk dn_267_1_0_ok 5 rfl)) nx_ast))
  (e_Lok (e_st (I := eI) (er_iinc (i := 1) (n := 1) (x_dk dn_267_1_0_ok 6 rfl) (by decide +kernel) (by decide)) nx_inc))))
  (e_Tok2
  (e_Lok (e_st (I := eI) (er_goto (off := (-99)) (tg := 68) (x_dk dn_267_1_0_ok 7 rfl) (by decide)) nx_goto))
  (e_Tok2
  (e_Lok (ps_iconst_0 (x_dk dn_267_1_0_ok 8 rfl)))
  (e_Lok (e_st (I := eI) (er_istore_n (i := 1) (x_dk dn_267_1_0_ok 9 rfl) (by decide +kernel)) nx_stor)))))
  (e_Tok2
  (e_Tok2
  (e_Lok (ld_iload_n_1 (x_dk dn_267_1_0_ok 10 rfl)))
  (e_Tok2
  (e_Lok (ps_bipush_16 (x_dk dn_267_1_0_ok 11 rfl)))
  (e_Lok (e_st (I := eI) (er_icmpge (off := 21) (tg := 196) (x_dk dn_267_1_0_ok 12 rfl) (by decide)) nx_if2))))
  (e_Tok2
  (e_Lok (ld_aload_n_0 (x_dk dn_267_1_0_ok 13 rfl)))
  (e_Tok2
  (e_Lok (lk_12_8g ho_267 (x_dk dn_267_1_0_ok 14 rfl)))
  (e_Lok (ld_iload_n_1 (x_dk dn_267_1_0_ok 15 rfl))))))))
def te_267_116 : Nat → eE := (e_T 201 (e_T 190 (e_T 187 (e_T 183 (e_L 183 (2, e_nof, 269, 1)) (e_T 186 (e_L 186 (0, ei_push (0, 1) 187, 0, 0)) (e_L 187 (0, ei_bin eF_add 188, 0, 0)))) (e_T 188 (e_L 188 (0, ei_push (0, (-1)) 189, 0, 0)) (e_T 189 (e_L 189 (0, ei_ast elay false 190, 0, 0)) (e_L 190 (0, ei_inc 1 1 193, 0, 0))))) (e_T 197 (e_T 193 (e_L 193 (0, ei_goto 172, 0, 0)) (e_T 196 (e_L 196 (0, ei_push (0, 0) 197, 0, 0)) (e_L 197 (0, ei_stor 1 0 198, 0, 0)))) (e_T 198 (e_L 198 (0, ei_load 1 0 199, 0, 0)) (e_T 199 (e_L 199 (0, ei_push (0, 8) 201, 0, 0)) (e_L 201 (0, ei_if2 3 256 204, 0, 0)))))) (e_T 213 (e_T 208 (e_T 204 (e_L 204 (0, ei_load 0 2 205, 0, 0)) (e_T 205 (e_L 205 (0, ei_getf eft elay 12 0 208, 0, 0)) (e_L 208 (0, ei_push (0, 20868) 211, 0, 0)))) (e_T 211 (e_L 211 (0, ei_load 1 0 212, 0, 0)) (e_T 212 (e_L 212 (0, ei_bin eF_add 213, 0, 0)) (e_L 213 (0, ei_push (0, (-1)) 214, 0, 0))))) (e_T 216 (e_T 214 (e_L 214 (0, ei_ast elay false 215, 0, 0)) (e_T 215 (e_L 215 (0, ei_load 0 2 216, 0, 0)) (e_L 216 (0, ei_getf eft elay 12 0 219, 0, 0)))) (e_T 219 (e_L 219 (0, ei_push (0, 20836) 222, 0, 0)) (e_T 222 (e_L 222 (0, ei_push (0, 4) 223, 0, 0)) (e_L 223 (0, ei_load 1 0 224, 0, 0)))))))
set_option maxRecDepth 20000 in
set_option maxHeartbeats 4000000 in
theorem te_267_116_ok : ∀ pc, e_EOq eft cls elay eI n_267 pc (te_267_116 pc) :=
  (e_Tok2
  (e_Tok2
  (e_Tok2
  (e_Tok2
  (e_Lok (lk_12_298 ho_267 (x_dk dn_267_1_0_ok 16 rfl)))
  (e_Tok2
  (e_Lok (ps_iconst_1 (x_dk dn_267_1_0_ok 17 rfl)))
  (e_Lok (sm_iadd (x_dk dn_267_1_0_ok 18 rfl)))))
  (e_Tok2
  (e_Lok (ps_iconst_m1 (x_dk dn_267_1_0_ok 19 rfl)))
  (e_Tok2
  (e_Lok (sm_iastore (x_dk dn_267_1_0_ok 20 rfl)))
  (e_Lok (e_st (I := eI) (er_iinc (i := 1) (n := 1) (x_dk dn_267_1_0_ok 21 rfl) (by decide +kernel) (by decide)) nx_inc)))))
  (e_Tok2
  (e_Tok2
  (e_Lok (e_st (I := eI) (er_goto (off := (-21)) (tg := 172) (x_dk dn_267_1_0_ok 22 rfl) (by decide)) nx_goto))
  (e_Tok2
  (e_Lok (ps_iconst_0 (x_dk dn_267_1_0_ok 23 rfl)))
  (e_Lok (e_st (I := eI) (er_istore_n (i := 1) (x_dk dn_267_1_0_ok 24 rfl) (by decide +kernel)) nx_stor))))
  (e_Tok2
  (e_Lok (ld_iload_n_1 (x_dk dn_267_1_1_ok 0 rfl)))
  (e_Tok2
  (e_Lok (ps_bipush_8 (x_dk dn_267_1_1_ok 1 rfl)))
  (e_Lok (e_st (I := eI) (er_icmpge (off := 55) (tg := 256) (x_dk dn_267_1_1_ok 2 rfl) (by decide)) nx_if2))))))
  (e_Tok2
  (e_Tok2
  (e_Tok2
  (e_Lok (ld_aload_n_0 (x_dk dn_267_1_1_ok 3 rfl)))
  (e_Tok2
  (e_Lok (lk_12_8g ho_267 (x_dk dn_267_1_1_ok 4 rfl)))
  (e_Lok (ps_sipush_20868 (x_dk dn_267_1_1_ok 5 rfl)))))
  (e_Tok2
  (e_Lok (ld_iload_n_1 (x_dk dn_267_1_1_ok 6 rfl)))
  (e_Tok2
  (e_Lok (sm_iadd (x_dk dn_267_1_1_ok 7 rfl)))
  (e_Lok (ps_iconst_m1 (x_dk dn_267_1_1_ok 8 rfl))))))
  (e_Tok2
  (e_Tok2
  (e_Lok (sm_iastore (x_dk dn_267_1_1_ok 9 rfl)))
  (e_Tok2
  (e_Lok (ld_aload_n_0 (x_dk dn_267_1_1_ok 10 rfl)))
  (e_Lok (lk_12_8g ho_267 (x_dk dn_267_1_1_ok 11 rfl)))))
  (e_Tok2
  (e_Lok (ps_sipush_20836 (x_dk dn_267_1_1_ok 12 rfl)))
  (e_Tok2
  (e_Lok (ps_iconst_4 (x_dk dn_267_1_1_ok 13 rfl)))
  (e_Lok (ld_iload_n_1 (x_dk dn_267_1_1_ok 14 rfl))))))))
def te_267_140 : Nat → eE := (e_T 238 (e_T 228 (e_T 225 (e_T 224 (e_L 224 (0, ei_bin eF_mul 225, 0, 0)) (e_L 225 (0, ei_bin eF_add 226, 0, 0))) (e_T 226 (e_L 226 (0, ei_push (0, 1) 227, 0, 0)) (e_T 227 (e_L 227 (0, ei_ast elay false 228, 0, 0)) (e_L 228 (0, ei_load 0 2 229, 0, 0))))) (e_T 235 (e_T 229 (e_L 229 (0, ei_getf eft elay 12 0 232, 0, 0)) (e_T 232 (e_L 232 (0, ei_push (0, 20836) 235, 0, 0)) (e_L 235 (0, ei_push (0, 4) 236, 0, 0)))) (e_T 236 (e_L 236 (0, ei_load 1 0 237, 0, 0)) (e_T 237 (e_L 237 (0, ei_bin eF_mul 238, 0, 0)) (e_L 238 (0, ei_bin eF_add 239, 0, 0)))))) (e_T 244 (e_T 241 (e_T 239 (e_L 239 (0, ei_push (0, 1) 240, 0, 0)) (e_T 240 (e_L 240 (0, ei_bin eF_add 241, 0, 0)) (e_L 241 (0, ei_push (0, 1) 242, 0, 0)))) (e_T 242 (e_L 242 (0, ei_ast elay false 243, 0, 0)) (e_T 243 (e_L 243 (0, ei_load 0 2 244, 0, 0)) (e_L 244 (0, ei_getf eft elay 12 51 247, 0, 0))))) (e_T 249 (e_T 247 (e_L 247 (0, ei_load 1 0 248, 0, 0)) (e_T 248 (e_L 248 (0, ei_push (0, 0) 249, 0, 0)) (e_L 249 (0, ei_ast elay true 250, 0, 0)))) (e_T 250 (e_L 250 (0, ei_inc 1 1 253, 0, 0)) (e_T 253 (e_L 253 (0, ei_goto 198, 0, 0)) (e_L 256 (0, ei_push (0, 0) 257, 0, 0)))))))
set_option maxRecDepth 20000 in
set_option maxHeartbeats 4000000 in
theorem te_267_140_ok : ∀ pc, e_EOq eft cls elay eI n_267 pc (te_267_140 pc) :=
  (e_Tok2
  (e_Tok2
  (e_Tok2
  (e_Tok2
  (e_Lok (sm_imul (x_dk dn_267_1_1_ok 15 rfl)))
  (e_Lok (sm_iadd (x_dk dn_267_1_1_ok 16 rfl))))
  (e_Tok2
  (e_Lok (ps_iconst_1 (x_dk dn_267_1_1_ok 17 rfl)))
  (e_Tok2
  (e_Lok (sm_iastore (x_dk dn_267_1_1_ok 18 rfl)))
  (e_Lok (ld_aload_n_0 (x_dk dn_267_1_1_ok 19 rfl))))))
  (e_Tok2
  (e_Tok2
  (e_Lok (lk_12_8g ho_267 (x_dk dn_267_1_1_ok 20 rfl)))
  (e_Tok2
  (e_Lok (ps_sipush_20836 (x_dk dn_267_1_1_ok 21 rfl)))
  (e_Lok (ps_iconst_4 (x_dk dn_267_1_1_ok 22 rfl)))))
  (e_Tok2
  (e_Lok (ld_iload_n_1 (x_dk dn_267_1_1_ok 23 rfl)))
  (e_Tok2
  (e_Lok (sm_imul (x_dk dn_267_1_1_ok 24 rfl)))
  (e_Lok (sm_iadd (x_dk dn_267_1_2_ok 0 rfl)))))))
  (e_Tok2
  (e_Tok2
  (e_Tok2
  (e_Lok (ps_iconst_1 (x_dk dn_267_1_2_ok 1 rfl)))
  (e_Tok2
  (e_Lok (sm_iadd (x_dk dn_267_1_2_ok 2 rfl)))
  (e_Lok (ps_iconst_1 (x_dk dn_267_1_2_ok 3 rfl)))))
  (e_Tok2
  (e_Lok (sm_iastore (x_dk dn_267_1_2_ok 4 rfl)))
  (e_Tok2
  (e_Lok (ld_aload_n_0 (x_dk dn_267_1_2_ok 5 rfl)))
  (e_Lok (lk_12_137g ho_267 (x_dk dn_267_1_2_ok 6 rfl))))))
  (e_Tok2
  (e_Tok2
  (e_Lok (ld_iload_n_1 (x_dk dn_267_1_2_ok 7 rfl)))
  (e_Tok2
  (e_Lok (ps_iconst_0 (x_dk dn_267_1_2_ok 8 rfl)))
  (e_Lok (e_st (I := eI) (er_bastore (x_dk dn_267_1_2_ok 9 rfl)) nx_ast))))
  (e_Tok2
  (e_Lok (e_st (I := eI) (er_iinc (i := 1) (n := 1) (x_dk dn_267_1_2_ok 10 rfl) (by decide +kernel) (by decide)) nx_inc))
  (e_Tok2
  (e_Lok (e_st (I := eI) (er_goto (off := (-55)) (tg := 198) (x_dk dn_267_1_2_ok 11 rfl) (by decide)) nx_goto))
  (e_Lok (ps_iconst_0 (x_dk dn_267_1_2_ok 12 rfl))))))))
def te_267_163 : Nat → eE := (e_T 277 (e_T 265 (e_T 259 (e_T 257 (e_L 257 (0, ei_stor 1 0 258, 0, 0)) (e_T 258 (e_L 258 (0, ei_load 1 0 259, 0, 0)) (e_L 259 (0, ei_push (0, 64) 261, 0, 0)))) (e_T 261 (e_L 261 (0, ei_if2 3 277 264, 0, 0)) (e_T 264 (e_L 264 (0, ei_load 0 2 265, 0, 0)) (e_L 265 (0, ei_getf eft elay 12 52 268, 0, 0))))) (e_T 270 (e_T 268 (e_L 268 (0, ei_load 1 0 269, 0, 0)) (e_T 269 (e_L 269 (0, ei_push (0, (-1)) 270, 0, 0)) (e_L 270 (0, ei_ast elay false 271, 0, 0)))) (e_T 271 (e_L 271 (0, ei_inc 1 1 274, 0, 0)) (e_T 274 (e_L 274 (0, ei_goto 258, 0, 0)) (e_L 277 (0, ei_push (0, 0) 278, 0, 0)))))) (e_T 287 (e_T 280 (e_T 278 (e_L 278 (0, ei_stor 1 0 279, 0, 0)) (e_T 279 (e_L 279 (0, ei_load 1 0 280, 0, 0)) (e_L 280 (0, ei_push (0, 448) 283, 0, 0)))) (e_T 283 (e_L 283 (0, ei_if2 3 299 286, 0, 0)) (e_T 286 (e_L 286 (0, ei_load 0 2 287, 0, 0)) (e_L 287 (0, ei_getf eft elay 12 29 290, 0, 0))))) (e_T 292 (e_T 290 (e_L 290 (0, ei_load 1 0 291, 0, 0)) (e_T 291 (e_L 291 (0, ei_push (0, 0) 292, 0, 0)) (e_L 292 (0, ei_ast elay true 293, 0, 0)))) (e_T 293 (e_L 293 (0, ei_inc 1 1 296, 0, 0)) (e_T 296 (e_L 296 (0, ei_goto 279, 0, 0)) (e_L 299 (1, e_nof, 0, 0)))))))
set_option maxRecDepth 20000 in
set_option maxHeartbeats 4000000 in
theorem te_267_163_ok : ∀ pc, e_EOq eft cls elay eI n_267 pc (te_267_163 pc) :=
  (e_Tok2
  (e_Tok2
  (e_Tok2
  (e_Tok2
  (e_Lok (e_st (I := eI) (er_istore_n (i := 1) (x_dk dn_267_1_2_ok 13 rfl) (by decide +kernel)) nx_stor))
  (e_Tok2
  (e_Lok (ld_iload_n_1 (x_dk dn_267_1_2_ok 14 rfl)))
  (e_Lok (ps_bipush_64 (x_dk dn_267_1_2_ok 15 rfl)))))
  (e_Tok2
  (e_Lok (e_st (I := eI) (er_icmpge (off := 16) (tg := 277) (x_dk dn_267_1_2_ok 16 rfl) (by decide)) nx_if2))
  (e_Tok2
  (e_Lok (ld_aload_n_0 (x_dk dn_267_1_2_ok 17 rfl)))
  (e_Lok (lk_12_140g ho_267 (x_dk dn_267_1_2_ok 18 rfl))))))
  (e_Tok2
  (e_Tok2
  (e_Lok (ld_iload_n_1 (x_dk dn_267_1_2_ok 19 rfl)))
  (e_Tok2
  (e_Lok (ps_iconst_m1 (x_dk dn_267_1_2_ok 20 rfl)))
  (e_Lok (sm_iastore (x_dk dn_267_1_2_ok 21 rfl)))))
  (e_Tok2
  (e_Lok (e_st (I := eI) (er_iinc (i := 1) (n := 1) (x_dk dn_267_1_2_ok 22 rfl) (by decide +kernel) (by decide)) nx_inc))
  (e_Tok2
  (e_Lok (e_st (I := eI) (er_goto (off := (-16)) (tg := 258) (x_dk dn_267_1_2_ok 23 rfl) (by decide)) nx_goto))
  (e_Lok (ps_iconst_0 (x_dk dn_267_1_2_ok 24 rfl)))))))
  (e_Tok2
  (e_Tok2
  (e_Tok2
  (e_Lok (e_st (I := eI) (er_istore_n (i := 1) (x_dk dn_267_1_3_ok 0 rfl) (by decide +kernel)) nx_stor))
  (e_Tok2
  (e_Lok (ld_iload_n_1 (x_dk dn_267_1_3_ok 1 rfl)))
  (e_Lok (ps_sipush_448 (x_dk dn_267_1_3_ok 2 rfl)))))
  (e_Tok2
  (e_Lok (e_st (I := eI) (er_icmpge (off := 16) (tg := 299) (x_dk dn_267_1_3_ok 3 rfl) (by decide)) nx_if2))
  (e_Tok2
  (e_Lok (ld_aload_n_0 (x_dk dn_267_1_3_ok 4 rfl)))
  (e_Lok (lk_12_83g ho_267 (x_dk dn_267_1_3_ok 5 rfl))))))
  (e_Tok2
  (e_Tok2
  (e_Lok (ld_iload_n_1 (x_dk dn_267_1_3_ok 6 rfl)))
  (e_Tok2
  (e_Lok (ps_iconst_0 (x_dk dn_267_1_3_ok 7 rfl)))
  (e_Lok (e_st (I := eI) (er_bastore (x_dk dn_267_1_3_ok 8 rfl)) nx_ast))))
  (e_Tok2
  (e_Lok (e_st (I := eI) (er_iinc (i := 1) (n := 1) (x_dk dn_267_1_3_ok 9 rfl) (by decide +kernel) (by decide)) nx_inc))
  (e_Tok2
  (e_Lok (e_st (I := eI) (er_goto (off := (-17)) (tg := 279) (x_dk dn_267_1_3_ok 10 rfl) (by decide)) nx_goto))
  (e_Lok (e_rt (I := eI) (k := 0) ⟨(x_dk dn_267_1_3_ok 11 rfl), rfl⟩)))))))
def te_267 : Nat → eE := (e_T 144 (e_T 74 (e_T 36 te_267_0 te_267_23) (e_T 109 te_267_46 te_267_69)) (e_T 223 (e_T 182 te_267_93 te_267_116) (e_T 256 te_267_140 te_267_163)))
theorem te_267_ok : ∀ pc, e_EOq eft cls elay eI n_267 pc (te_267 pc) := (e_Tok2 ((e_Tok2 ((e_Tok2 (te_267_0_ok) (te_267_23_ok))) ((e_Tok2 (te_267_46_ok) (te_267_69_ok))))) ((e_Tok2 ((e_Tok2 (te_267_93_ok) (te_267_116_ok))) ((e_Tok2 (te_267_140_ok) (te_267_163_ok))))))
end
end
-- part 41as
section
noncomputable section
theorem ho_268 : (xm_y n_268).cls = "RobotCellHouseModel" := rfl
def dn_268_0_0 : List (Nat × Instr × Nat) := [(0, .bipush 16, 2), (2, .bipush 36, 2), (4, .iload_n 0, 1), (5, .imul, 1), (6, .iadd, 1), (7, .ireturn, 1)]
set_option maxRecDepth 20000 in
theorem dn_268_0_0_ok : dn_268_0_0.all (fun q => decide (decode (xm_b n_268) q.1 = .ok (q.2.1, q.2.2))) = true := xa_g_ok (by decide +kernel)
def te_268_0 : Nat → eE := (e_T 4 (e_T 0 (e_L 0 (0, ei_push (0, 16) 2, 0, 0)) (e_T 2 (e_L 2 (0, ei_push (0, 36) 4, 0, 0)) (e_L 4 (0, ei_load 0 0 5, 0, 0)))) (e_T 5 (e_L 5 (0, ei_bin eF_mul 6, 0, 0)) (e_T 6 (e_L 6 (0, ei_bin eF_add 7, 0, 0)) (e_L 7 (1, e_nof, 1, 0)))))
set_option maxRecDepth 20000 in
set_option maxHeartbeats 4000000 in
theorem te_268_0_ok : ∀ pc, e_EOq eft cls elay eI n_268 pc (te_268_0 pc) :=
  (e_Tok2
  (e_Tok2
  (e_Lok (ps_bipush_16 (x_dk dn_268_0_0_ok 0 rfl)))
  (e_Tok2
  (e_Lok (ps_bipush_36 (x_dk dn_268_0_0_ok 1 rfl)))
  (e_Lok (ld_iload_n_0 (x_dk dn_268_0_0_ok 2 rfl)))))
  (e_Tok2
  (e_Lok (sm_imul (x_dk dn_268_0_0_ok 3 rfl)))
  (e_Tok2
  (e_Lok (sm_iadd (x_dk dn_268_0_0_ok 4 rfl)))
  (e_Lok (e_rt (I := eI) (k := 1) ⟨(x_dk dn_268_0_0_ok 5 rfl), rfl⟩)))))
def te_268 : Nat → eE := te_268_0
theorem te_268_ok : ∀ pc, e_EOq eft cls elay eI n_268 pc (te_268 pc) := te_268_0_ok
theorem ho_269 : (xm_y n_269).cls = "RobotCellHouseModel" := rfl
def dn_269_0_0 : List (Nat × Instr × Nat) := [(0, .sipush 416, 3), (3, .sipush 1260, 3), (6, .iload_n 0, 1), (7, .imul, 1), (8, .iadd, 1), (9, .ireturn, 1)]
set_option maxRecDepth 20000 in
theorem dn_269_0_0_ok : dn_269_0_0.all (fun q => decide (decode (xm_b n_269) q.1 = .ok (q.2.1, q.2.2))) = true := xa_g_ok (by decide +kernel)
def te_269_0 : Nat → eE := (e_T 6 (e_T 0 (e_L 0 (0, ei_push (0, 416) 3, 0, 0)) (e_T 3 (e_L 3 (0, ei_push (0, 1260) 6, 0, 0)) (e_L 6 (0, ei_load 0 0 7, 0, 0)))) (e_T 7 (e_L 7 (0, ei_bin eF_mul 8, 0, 0)) (e_T 8 (e_L 8 (0, ei_bin eF_add 9, 0, 0)) (e_L 9 (1, e_nof, 1, 0)))))
set_option maxRecDepth 20000 in
set_option maxHeartbeats 4000000 in
theorem te_269_0_ok : ∀ pc, e_EOq eft cls elay eI n_269 pc (te_269_0 pc) :=
  (e_Tok2
  (e_Tok2
  (e_Lok (ps_sipush_416 (x_dk dn_269_0_0_ok 0 rfl)))
  (e_Tok2
  (e_Lok (ps_sipush_1260 (x_dk dn_269_0_0_ok 1 rfl)))
  (e_Lok (ld_iload_n_0 (x_dk dn_269_0_0_ok 2 rfl)))))
  (e_Tok2
  (e_Lok (sm_imul (x_dk dn_269_0_0_ok 3 rfl)))
  (e_Tok2
  (e_Lok (sm_iadd (x_dk dn_269_0_0_ok 4 rfl)))
  (e_Lok (e_rt (I := eI) (k := 1) ⟨(x_dk dn_269_0_0_ok 5 rfl), rfl⟩)))))
def te_269 : Nat → eE := te_269_0
theorem te_269_ok : ∀ pc, e_EOq eft cls elay eI n_269 pc (te_269 pc) := te_269_0_ok
theorem ho_270 : (xm_y n_270).cls = "RobotCellHouseModel" := rfl
def dn_270_0_0 : List (Nat × Instr × Nat) := [(0, .iload_n 1, 1), (1, .i2l, 1), (2, .lconst 0, 1), (3, .aload_n 0, 1), (4, .getfield 269, 3), (7, .iconst 1, 1), (8, .isub, 1), (9, .i2l, 1), (10, .invokestatic 301, 3), (13, .ireturn, 1)]
set_option maxRecDepth 20000 in
theorem dn_270_0_0_ok : dn_270_0_0.all (fun q => decide (decode (xm_b n_270) q.1 = .ok (q.2.1, q.2.2))) = true := xa_g_ok (by decide +kernel)
def te_270_0 : Nat → eE := (e_T 4 (e_T 1 (e_T 0 (e_L 0 (0, ei_load 1 0 1, 0, 0)) (e_L 1 (0, ei_un (fun x => (4, x)) 2, 0, 0))) (e_T 2 (e_L 2 (0, ei_push (4, 0) 3, 0, 0)) (e_T 3 (e_L 3 (0, ei_load 0 2 4, 0, 0)) (e_L 4 (0, ei_getf eft elay 12 10 7, 0, 0))))) (e_T 8 (e_T 7 (e_L 7 (0, ei_push (0, 1) 8, 0, 0)) (e_L 8 (0, ei_bin eF_sub 9, 0, 0))) (e_T 9 (e_L 9 (0, ei_un (fun x => (4, x)) 10, 0, 0)) (e_T 10 (e_L 10 (2, e_nof, 266, 3)) (e_L 13 (1, e_nof, 4, 0))))))
set_option maxRecDepth 20000 in
set_option maxHeartbeats 4000000 in
theorem te_270_0_ok : ∀ pc, e_EOq eft cls elay eI n_270 pc (te_270_0 pc) :=
  (e_Tok2
  (e_Tok2
  (e_Tok2
  (e_Lok (ld_iload_n_1 (x_dk dn_270_0_0_ok 0 rfl)))
  (e_Lok (e_st (I := eI) (er_i2l (x_dk dn_270_0_0_ok 1 rfl)) (nx_un (fun _ => rfl)))))
  (e_Tok2
  (e_Lok (ps_lconst_0 (x_dk dn_270_0_0_ok 2 rfl)))
  (e_Tok2
  (e_Lok (ld_aload_n_0 (x_dk dn_270_0_0_ok 3 rfl)))
  (e_Lok (lk_12_269g ho_270 (x_dk dn_270_0_0_ok 4 rfl))))))
  (e_Tok2
  (e_Tok2
  (e_Lok (ps_iconst_1 (x_dk dn_270_0_0_ok 5 rfl)))
  (e_Lok (sm_isub (x_dk dn_270_0_0_ok 6 rfl))))
  (e_Tok2
  (e_Lok (e_st (I := eI) (er_i2l (x_dk dn_270_0_0_ok 7 rfl)) (nx_un (fun _ => rfl))))
  (e_Tok2
  (e_Lok (lk_12_301 ho_270 (x_dk dn_270_0_0_ok 8 rfl)))
  (e_Lok (e_rt (I := eI) (k := 4) ⟨(x_dk dn_270_0_0_ok 9 rfl), rfl⟩))))))
def te_270 : Nat → eE := te_270_0
theorem te_270_ok : ∀ pc, e_EOq eft cls elay eI n_270 pc (te_270 pc) := te_270_0_ok
theorem ho_271 : (xm_y n_271).cls = "RobotCellHouseModel" := rfl
def dn_271_0_0 : List (Nat × Instr × Nat) := [(0, .aload_n 0, 1), (1, .iload_n 1, 1), (2, .invokevirtual 305, 3), (5, .ifCond .eq 25, 3), (8, .iload_n 2, 1), (9, .i2l, 1), (10, .lconst 0, 1), (11, .aload_n 0, 1), (12, .getfield 43, 3), (15, .iload_n 1, 1), (16, .iaload, 1), (17, .iconst 1, 1), (18, .isub, 1), (19, .i2l, 1), (20, .invokestatic 301, 3), (23, .ifCond .eq 7, 3), (26, .iconst 1, 1), (27, .goto 4, 3), (30, .iconst 0, 1), (31, .ireturn, 1)]
set_option maxRecDepth 20000 in
theorem dn_271_0_0_ok : dn_271_0_0.all (fun q => decide (decode (xm_b n_271) q.1 = .ok (q.2.1, q.2.2))) = true := xa_g_ok (by decide +kernel)
def te_271_0 : Nat → eE := (e_T 15 (e_T 8 (e_T 1 (e_T 0 (e_L 0 (0, ei_load 0 2 1, 0, 0)) (e_L 1 (0, ei_load 1 0 2, 0, 0))) (e_T 2 (e_L 2 (2, e_nof, 270, 2)) (e_T 5 (e_L 5 (0, ei_if1 0 30 8, 0, 0)) (e_L 8 (0, ei_load 2 0 9, 0, 0))))) (e_T 10 (e_T 9 (e_L 9 (0, ei_un (fun x => (4, x)) 10, 0, 0)) (e_L 10 (0, ei_push (4, 0) 11, 0, 0))) (e_T 11 (e_L 11 (0, ei_load 0 2 12, 0, 0)) (e_T 12 (e_L 12 (0, ei_getf eft elay 12 15 15, 0, 0)) (e_L 15 (0, ei_load 1 0 16, 0, 0)))))) (e_T 20 (e_T 17 (e_T 16 (e_L 16 (0, ei_ald elay false 17, 0, 0)) (e_L 17 (0, ei_push (0, 1) 18, 0, 0))) (e_T 18 (e_L 18 (0, ei_bin eF_sub 19, 0, 0)) (e_T 19 (e_L 19 (0, ei_un (fun x => (4, x)) 20, 0, 0)) (e_L 20 (2, e_nof, 266, 3))))) (e_T 26 (e_T 23 (e_L 23 (0, ei_if1 0 30 26, 0, 0)) (e_L 26 (0, ei_push (0, 1) 27, 0, 0))) (e_T 27 (e_L 27 (0, ei_goto 31, 0, 0)) (e_T 30 (e_L 30 (0, ei_push (0, 0) 31, 0, 0)) (e_L 31 (1, e_nof, 4, 0)))))))
set_option maxRecDepth 20000 in
set_option maxHeartbeats 4000000 in
theorem te_271_0_ok : ∀ pc, e_EOq eft cls elay eI n_271 pc (te_271_0 pc) :=
  (e_Tok2
  (e_Tok2
  (e_Tok2
  (e_Tok2
  (e_Lok (ld_aload_n_0 (x_dk dn_271_0_0_ok 0 rfl)))
  (e_Lok (ld_iload_n_1 (x_dk dn_271_0_0_ok 1 rfl))))
  (e_Tok2
  (e_Lok (lk_12_305 ho_271 (x_dk dn_271_0_0_ok 2 rfl)))
  (e_Tok2
  (e_Lok (e_st (I := eI) (er_ifeq (off := 25) (tg := 30) (x_dk dn_271_0_0_ok 3 rfl) (by decide)) nx_if1))
  (e_Lok (ld_iload_n_2 (x_dk dn_271_0_0_ok 4 rfl))))))
  (e_Tok2
  (e_Tok2
  (e_Lok (e_st (I := eI) (er_i2l (x_dk dn_271_0_0_ok 5 rfl)) (nx_un (fun _ => rfl))))
  (e_Lok (ps_lconst_0 (x_dk dn_271_0_0_ok 6 rfl))))
  (e_Tok2
  (e_Lok (ld_aload_n_0 (x_dk dn_271_0_0_ok 7 rfl)))
  (e_Tok2
  (e_Lok (lk_12_43g ho_271 (x_dk dn_271_0_0_ok 8 rfl)))
  (e_Lok (ld_iload_n_1 (x_dk dn_271_0_0_ok 9 rfl)))))))
  (e_Tok2
  (e_Tok2
  (e_Tok2
  (e_Lok (sm_iaload (x_dk dn_271_0_0_ok 10 rfl)))
  (e_Lok (ps_iconst_1 (x_dk dn_271_0_0_ok 11 rfl))))
  (e_Tok2
  (e_Lok (sm_isub (x_dk dn_271_0_0_ok 12 rfl)))
  (e_Tok2
  (e_Lok (e_st (I := eI) (er_i2l (x_dk dn_271_0_0_ok 13 rfl)) (nx_un (fun _ => rfl))))
  (e_Lok (lk_12_301 ho_271 (x_dk dn_271_0_0_ok 14 rfl))))))
  (e_Tok2
  (e_Tok2
  (e_Lok (e_st (I := eI) (er_ifeq (off := 7) (tg := 30) (x_dk dn_271_0_0_ok 15 rfl) (by decide)) nx_if1))
  (e_Lok (ps_iconst_1 (x_dk dn_271_0_0_ok 16 rfl))))
  (e_Tok2
  (e_Lok (e_st (I := eI) (er_goto (off := 4) (tg := 31) (x_dk dn_271_0_0_ok 17 rfl) (by decide)) nx_goto))
  (e_Tok2
  (e_Lok (ps_iconst_0 (x_dk dn_271_0_0_ok 18 rfl)))
  (e_Lok (e_rt (I := eI) (k := 4) ⟨(x_dk dn_271_0_0_ok 19 rfl), rfl⟩)))))))
def te_271 : Nat → eE := te_271_0
theorem te_271_ok : ∀ pc, e_EOq eft cls elay eI n_271 pc (te_271 pc) := te_271_0_ok
theorem ho_272 : (xm_y n_272).cls = "RobotCellHouseModel" := rfl
def dn_272_0_0 : List (Nat × Instr × Nat) := [(0, .iload_n 0, 1), (1, .i2l, 1), (2, .ldc2_w 309, 3), (5, .ldc2_w 311, 3), (8, .invokestatic 301, 3), (11, .ifCond .eq 21, 3), (14, .iload_n 1, 1), (15, .i2l, 1), (16, .ldc2_w 309, 3), (19, .ldc2_w 311, 3), (22, .invokestatic 301, 3), (25, .ifCond .eq 7, 3), (28, .iconst 1, 1), (29, .goto 4, 3), (32, .iconst 0, 1), (33, .ireturn, 1)]
set_option maxRecDepth 20000 in
theorem dn_272_0_0_ok : dn_272_0_0.all (fun q => decide (decode (xm_b n_272) q.1 = .ok (q.2.1, q.2.2))) = true := xa_g_ok (by decide +kernel)
def te_272_0 : Nat → eE := (e_T 15 (e_T 5 (e_T 1 (e_T 0 (e_L 0 (0, ei_load 0 0 1, 0, 0)) (e_L 1 (0, ei_un (fun x => (4, x)) 2, 0, 0))) (e_T 2 (e_L 2 (0, ei_push (4, (-16000)) 5, 0, 0)) (e_L 5 (0, ei_push (4, 16000) 8, 0, 0)))) (e_T 11 (e_T 8 (e_L 8 (2, e_nof, 266, 3)) (e_L 11 (0, ei_if1 0 32 14, 0, 0))) (e_T 14 (e_L 14 (0, ei_load 1 0 15, 0, 0)) (e_L 15 (0, ei_un (fun x => (4, x)) 16, 0, 0))))) (e_T 25 (e_T 19 (e_T 16 (e_L 16 (0, ei_push (4, (-16000)) 19, 0, 0)) (e_L 19 (0, ei_push (4, 16000) 22, 0, 0))) (e_T 22 (e_L 22 (2, e_nof, 266, 3)) (e_L 25 (0, ei_if1 0 32 28, 0, 0)))) (e_T 29 (e_T 28 (e_L 28 (0, ei_push (0, 1) 29, 0, 0)) (e_L 29 (0, ei_goto 33, 0, 0))) (e_T 32 (e_L 32 (0, ei_push (0, 0) 33, 0, 0)) (e_L 33 (1, e_nof, 4, 0))))))
set_option maxRecDepth 20000 in
set_option maxHeartbeats 4000000 in
theorem te_272_0_ok : ∀ pc, e_EOq eft cls elay eI n_272 pc (te_272_0 pc) :=
  (e_Tok2
  (e_Tok2
  (e_Tok2
  (e_Tok2
  (e_Lok (ld_iload_n_0 (x_dk dn_272_0_0_ok 0 rfl)))
  (e_Lok (e_st (I := eI) (er_i2l (x_dk dn_272_0_0_ok 1 rfl)) (nx_un (fun _ => rfl)))))
  (e_Tok2
  (e_Lok (e_st (I := eI) (er_ldc2 (ix := 309) (z := (-16000)) (v := (-16000)) (x_dk dn_272_0_0_ok 2 rfl) (in_t11 (List.mem_of_getElem? (i := 49) rfl) rfl) (by decide)) (nx_push (Or.inl rfl))))
  (e_Lok (e_st (I := eI) (er_ldc2 (ix := 311) (z := 16000) (v := 16000) (x_dk dn_272_0_0_ok 3 rfl) (in_t11 (List.mem_of_getElem? (i := 50) rfl) rfl) (by decide)) (nx_push (Or.inl rfl))))))
  (e_Tok2
  (e_Tok2
  (e_Lok (lk_12_301 ho_272 (x_dk dn_272_0_0_ok 4 rfl)))
  (e_Lok (e_st (I := eI) (er_ifeq (off := 21) (tg := 32) (x_dk dn_272_0_0_ok 5 rfl) (by decide)) nx_if1)))
  (e_Tok2
  (e_Lok (ld_iload_n_1 (x_dk dn_272_0_0_ok 6 rfl)))
  (e_Lok (e_st (I := eI) (er_i2l (x_dk dn_272_0_0_ok 7 rfl)) (nx_un (fun _ => rfl)))))))
  (e_Tok2
  (e_Tok2
  (e_Tok2
  (e_Lok (e_st (I := eI) (er_ldc2 (ix := 309) (z := (-16000)) (v := (-16000)) (x_dk dn_272_0_0_ok 8 rfl) (in_t11 (List.mem_of_getElem? (i := 49) rfl) rfl) (by decide)) (nx_push (Or.inl rfl))))
  (e_Lok (e_st (I := eI) (er_ldc2 (ix := 311) (z := 16000) (v := 16000) (x_dk dn_272_0_0_ok 9 rfl) (in_t11 (List.mem_of_getElem? (i := 50) rfl) rfl) (by decide)) (nx_push (Or.inl rfl)))))
  (e_Tok2
  (e_Lok (lk_12_301 ho_272 (x_dk dn_272_0_0_ok 10 rfl)))
  (e_Lok (e_st (I := eI) (er_ifeq (off := 7) (tg := 32) (x_dk dn_272_0_0_ok 11 rfl) (by decide)) nx_if1))))
  (e_Tok2
  (e_Tok2
  (e_Lok (ps_iconst_1 (x_dk dn_272_0_0_ok 12 rfl)))
  (e_Lok (e_st (I := eI) (er_goto (off := 4) (tg := 33) (x_dk dn_272_0_0_ok 13 rfl) (by decide)) nx_goto)))
  (e_Tok2
  (e_Lok (ps_iconst_0 (x_dk dn_272_0_0_ok 14 rfl)))
  (e_Lok (e_rt (I := eI) (k := 4) ⟨(x_dk dn_272_0_0_ok 15 rfl), rfl⟩))))))
def te_272 : Nat → eE := te_272_0
theorem te_272_ok : ∀ pc, e_EOq eft cls elay eI n_272 pc (te_272 pc) := te_272_0_ok
theorem ho_273 : (xm_y n_273).cls = "RobotCellHouseModel" := rfl
def dn_273_0_0 : List (Nat × Instr × Nat) := [(0, .iload_n 0, 1), (1, .iload_n 1, 1), (2, .invokestatic 313, 3), (5, .ifCond .eq 39, 3), (8, .iload_n 2, 1), (9, .ifCond .lt 35, 3), (12, .iload_n 3, 1), (13, .ifCond .lt 31, 3), (16, .iload_n 0, 1), (17, .i2l, 1), (18, .iload_n 2, 1), (19, .i2l, 1), (20, .ladd, 1), (21, .ldc2_w 311, 3), (24, .lcmp, 1), (25, .ifCond .gt 19, 3), (28, .iload_n 1, 1), (29, .i2l, 1), (30, .iload_n 3, 1), (31, .i2l, 1), (32, .ladd, 1), (33, .ldc2_w 311, 3), (36, .lcmp, 1), (37, .ifCond .gt 7, 3), (40, .iconst 1, 1)]
set_option maxRecDepth 20000 in
theorem dn_273_0_0_ok : dn_273_0_0.all (fun q => decide (decode (xm_b n_273) q.1 = .ok (q.2.1, q.2.2))) = true := xa_g_ok (by decide +kernel)
def dn_273_0_1 : List (Nat × Instr × Nat) := [(41, .goto 4, 3), (44, .iconst 0, 1), (45, .ireturn, 1)]
set_option maxRecDepth 20000 in
theorem dn_273_0_1_ok : dn_273_0_1.all (fun q => decide (decode (xm_b n_273) q.1 = .ok (q.2.1, q.2.2))) = true := xa_g_ok (by decide +kernel)
def te_273_0 : Nat → eE := (e_T 21 (e_T 12 (e_T 2 (e_T 0 (e_L 0 (0, ei_load 0 0 1, 0, 0)) (e_T 1 (e_L 1 (0, ei_load 1 0 2, 0, 0)) (e_L 2 (2, e_nof, 272, 2)))) (e_T 8 (e_T 5 (e_L 5 (0, ei_if1 0 44 8, 0, 0)) (e_L 8 (0, ei_load 2 0 9, 0, 0))) (e_T 9 (e_L 9 (0, ei_if1 2 44 12, 0, 0)) (e_L 12 (0, ei_load 3 0 13, 0, 0))))) (e_T 17 (e_T 13 (e_L 13 (0, ei_if1 2 44 16, 0, 0)) (e_T 16 (e_L 16 (0, ei_load 0 0 17, 0, 0)) (e_L 17 (0, ei_un (fun x => (4, x)) 18, 0, 0)))) (e_T 19 (e_T 18 (e_L 18 (0, ei_load 2 0 19, 0, 0)) (e_L 19 (0, ei_un (fun x => (4, x)) 20, 0, 0))) (e_T 20 (e_L 20 (0, ei_binL eG_add 21, 0, 0)) (e_L 21 (0, ei_push (4, 16000) 24, 0, 0)))))) (e_T 32 (e_T 28 (e_T 24 (e_L 24 (0, ei_binL eG_cmp 25, 0, 0)) (e_T 25 (e_L 25 (0, ei_if1 4 44 28, 0, 0)) (e_L 28 (0, ei_load 1 0 29, 0, 0)))) (e_T 30 (e_T 29 (e_L 29 (0, ei_un (fun x => (4, x)) 30, 0, 0)) (e_L 30 (0, ei_load 3 0 31, 0, 0))) (e_T 31 (e_L 31 (0, ei_un (fun x => (4, x)) 32, 0, 0)) (e_L 32 (0, ei_binL eG_add 33, 0, 0))))) (e_T 37 (e_T 33 (e_L 33 (0, ei_push (4, 16000) 36, 0, 0)) (e_T 36 (e_L 36 (0, ei_binL eG_cmp 37, 0, 0)) (e_L 37 (0, ei_if1 4 44 40, 0, 0)))) (e_T 41 (e_T 40 (e_L 40 (0, ei_push (0, 1) 41, 0, 0)) (e_L 41 (0, ei_goto 45, 0, 0))) (e_T 44 (e_L 44 (0, ei_push (0, 0) 45, 0, 0)) (e_L 45 (1, e_nof, 4, 0)))))))
set_option maxRecDepth 20000 in
set_option maxHeartbeats 4000000 in
theorem te_273_0_ok : ∀ pc, e_EOq eft cls elay eI n_273 pc (te_273_0 pc) :=
  (e_Tok2
  (e_Tok2
  (e_Tok2
  (e_Tok2
  (e_Lok (ld_iload_n_0 (x_dk dn_273_0_0_ok 0 rfl)))
  (e_Tok2
  (e_Lok (ld_iload_n_1 (x_dk dn_273_0_0_ok 1 rfl)))
  (e_Lok (lk_12_313 ho_273 (x_dk dn_273_0_0_ok 2 rfl)))))
  (e_Tok2
  (e_Tok2
  (e_Lok (e_st (I := eI) (er_ifeq (off := 39) (tg := 44) (x_dk dn_273_0_0_ok 3 rfl) (by decide)) nx_if1))
  (e_Lok (ld_iload_n_2 (x_dk dn_273_0_0_ok 4 rfl))))
  (e_Tok2
  (e_Lok (e_st (I := eI) (er_iflt (off := 35) (tg := 44) (x_dk dn_273_0_0_ok 5 rfl) (by decide)) nx_if1))
  (e_Lok (ld_iload_n_3 (x_dk dn_273_0_0_ok 6 rfl))))))
  (e_Tok2
  (e_Tok2
  (e_Lok (e_st (I := eI) (er_iflt (off := 31) (tg := 44) (x_dk dn_273_0_0_ok 7 rfl) (by decide)) nx_if1))
  (e_Tok2
  (e_Lok (ld_iload_n_0 (x_dk dn_273_0_0_ok 8 rfl)))
  (e_Lok (e_st (I := eI) (er_i2l (x_dk dn_273_0_0_ok 9 rfl)) (nx_un (fun _ => rfl))))))
  (e_Tok2
  (e_Tok2
  (e_Lok (ld_iload_n_2 (x_dk dn_273_0_0_ok 10 rfl)))
  (e_Lok (e_st (I := eI) (er_i2l (x_dk dn_273_0_0_ok 11 rfl)) (nx_un (fun _ => rfl)))))
  (e_Tok2
  (e_Lok (e_st (I := eI) (er_ladd (x_dk dn_273_0_0_ok 12 rfl)) (nx_binL bG_ladd)))
  (e_Lok (e_st (I := eI) (er_ldc2 (ix := 311) (z := 16000) (v := 16000) (x_dk dn_273_0_0_ok 13 rfl) (in_t11 (List.mem_of_getElem? (i := 50) rfl) rfl) (by decide)) (nx_push (Or.inl rfl))))))))
  (e_Tok2
  (e_Tok2
  (e_Tok2
  (e_Lok (e_st (I := eI) (er_lcmp (x_dk dn_273_0_0_ok 14 rfl)) (nx_binL bG_lcmp)))
  (e_Tok2
  (e_Lok (e_st (I := eI) (er_ifgt (off := 19) (tg := 44) (x_dk dn_273_0_0_ok 15 rfl) (by decide)) nx_if1))
  (e_Lok (ld_iload_n_1 (x_dk dn_273_0_0_ok 16 rfl)))))
  (e_Tok2
  (e_Tok2
  (e_Lok (e_st (I := eI) (er_i2l (x_dk dn_273_0_0_ok 17 rfl)) (nx_un (fun _ => rfl))))
  (e_Lok (ld_iload_n_3 (x_dk dn_273_0_0_ok 18 rfl))))
  (e_Tok2
  (e_Lok (e_st (I := eI) (er_i2l (x_dk dn_273_0_0_ok 19 rfl)) (nx_un (fun _ => rfl))))
  (e_Lok (e_st (I := eI) (er_ladd (x_dk dn_273_0_0_ok 20 rfl)) (nx_binL bG_ladd))))))
  (e_Tok2
  (e_Tok2
  (e_Lok (e_st (I := eI) (er_ldc2 (ix := 311) (z := 16000) (v := 16000) (x_dk dn_273_0_0_ok 21 rfl) (in_t11 (List.mem_of_getElem? (i := 50) rfl) rfl) (by decide)) (nx_push (Or.inl rfl))))
  (e_Tok2
  (e_Lok (e_st (I := eI) (er_lcmp (x_dk dn_273_0_0_ok 22 rfl)) (nx_binL bG_lcmp)))
  (e_Lok (e_st (I := eI) (er_ifgt (off := 7) (tg := 44) (x_dk dn_273_0_0_ok 23 rfl) (by decide)) nx_if1))))
  (e_Tok2
  (e_Tok2
  (e_Lok (ps_iconst_1 (x_dk dn_273_0_0_ok 24 rfl)))
  (e_Lok (e_st (I := eI) (er_goto (off := 4) (tg := 45) (x_dk dn_273_0_1_ok 0 rfl) (by decide)) nx_goto)))
  (e_Tok2
  (e_Lok (ps_iconst_0 (x_dk dn_273_0_1_ok 1 rfl)))
  (e_Lok (e_rt (I := eI) (k := 4) ⟨(x_dk dn_273_0_1_ok 2 rfl), rfl⟩)))))))
def te_273 : Nat → eE := te_273_0
theorem te_273_ok : ∀ pc, e_EOq eft cls elay eI n_273 pc (te_273 pc) := te_273_0_ok
theorem ho_274 : (xm_y n_274).cls = "RobotCellHouseModel" := rfl
def dn_274_0_0 : List (Nat × Instr × Nat) := [(0, .aload_n 0, 1), (1, .getfield 317, 3), (4, .bipush 20, 2), (6, .iadd, 1), (7, .sipush 4000, 3), (10, .if_icmp .le 6, 3), (13, .bipush (-3), 2), (15, .ireturn, 1), (16, .aload_n 0, 1), (17, .iload_n 1, 1), (18, .invokevirtual 320, 3), (21, .aload_n 0, 1), (22, .iload_n 2, 1), (23, .invokevirtual 320, 3), (26, .aload_n 0, 1), (27, .iload_n 3, 1), (28, .invokevirtual 320, 3), (31, .aload_n 0, 1), (32, .iload 4, 2), (34, .invokevirtual 320, 3), (37, .aload_n 0, 1), (38, .iload 5, 2), (40, .invokevirtual 320, 3), (43, .aload_n 0, 1), (44, .getfield 317, 3)]
set_option maxRecDepth 20000 in
theorem dn_274_0_0_ok : dn_274_0_0.all (fun q => decide (decode (xm_b n_274) q.1 = .ok (q.2.1, q.2.2))) = true := xa_g_ok (by decide +kernel)
def dn_274_0_1 : List (Nat × Instr × Nat) := [(47, .ireturn, 1)]
set_option maxRecDepth 20000 in
theorem dn_274_0_1_ok : dn_274_0_1.all (fun q => decide (decode (xm_b n_274) q.1 = .ok (q.2.1, q.2.2))) = true := xa_g_ok (by decide +kernel)
def te_274_0 : Nat → eE := (e_T 22 (e_T 10 (e_T 4 (e_T 0 (e_L 0 (0, ei_load 0 2 1, 0, 0)) (e_T 1 (e_L 1 (0, ei_getf eft elay 12 9 4, 0, 0)) (e_L 4 (0, ei_push (0, 20) 6, 0, 0)))) (e_T 6 (e_L 6 (0, ei_bin eF_add 7, 0, 0)) (e_T 7 (e_L 7 (0, ei_push (0, 4000) 10, 0, 0)) (e_L 10 (0, ei_if2 5 16 13, 0, 0))))) (e_T 16 (e_T 13 (e_L 13 (0, ei_push (0, (-3)) 15, 0, 0)) (e_T 15 (e_L 15 (1, e_nof, 1, 0)) (e_L 16 (0, ei_load 0 2 17, 0, 0)))) (e_T 18 (e_T 17 (e_L 17 (0, ei_load 1 0 18, 0, 0)) (e_L 18 (2, e_nof, 275, 2))) (e_T 21 (e_L 21 (0, ei_load 0 2 22, 0, 0)) (e_L 22 (0, ei_load 2 0 23, 0, 0)))))) (e_T 32 (e_T 27 (e_T 23 (e_L 23 (2, e_nof, 275, 2)) (e_T 26 (e_L 26 (0, ei_load 0 2 27, 0, 0)) (e_L 27 (0, ei_load 3 0 28, 0, 0)))) (e_T 28 (e_L 28 (2, e_nof, 275, 2)) (e_T 31 (e_L 31 (0, ei_load 0 2 32, 0, 0)) (e_L 32 (0, ei_load 4 0 34, 0, 0))))) (e_T 38 (e_T 34 (e_L 34 (2, e_nof, 275, 2)) (e_T 37 (e_L 37 (0, ei_load 0 2 38, 0, 0)) (e_L 38 (0, ei_load 5 0 40, 0, 0)))) (e_T 43 (e_T 40 (e_L 40 (2, e_nof, 275, 2)) (e_L 43 (0, ei_load 0 2 44, 0, 0))) (e_T 44 (e_L 44 (0, ei_getf eft elay 12 9 47, 0, 0)) (e_L 47 (1, e_nof, 1, 0)))))))
set_option maxRecDepth 20000 in
set_option maxHeartbeats 4000000 in
theorem te_274_0_ok : ∀ pc, e_EOq eft cls elay eI n_274 pc (te_274_0 pc) :=
  (e_Tok2
  (e_Tok2
  (e_Tok2
  (e_Tok2
  (e_Lok (ld_aload_n_0 (x_dk dn_274_0_0_ok 0 rfl)))
  (e_Tok2
  (e_Lok (lk_12_317g ho_274 (x_dk dn_274_0_0_ok 1 rfl)))
  (e_Lok (ps_bipush_20 (x_dk dn_274_0_0_ok 2 rfl)))))
  (e_Tok2
  (e_Lok (sm_iadd (x_dk dn_274_0_0_ok 3 rfl)))
  (e_Tok2
  (e_Lok (ps_sipush_4000 (x_dk dn_274_0_0_ok 4 rfl)))
  (e_Lok (e_st (I := eI) (er_icmple (off := 6) (tg := 16) (x_dk dn_274_0_0_ok 5 rfl) (by decide)) nx_if2)))))
  (e_Tok2
  (e_Tok2
  (e_Lok (ps_bipush_m3 (x_dk dn_274_0_0_ok 6 rfl)))
  (e_Tok2
  (e_Lok (e_rt (I := eI) (k := 1) ⟨(x_dk dn_274_0_0_ok 7 rfl), rfl⟩))
  (e_Lok (ld_aload_n_0 (x_dk dn_274_0_0_ok 8 rfl)))))
  (e_Tok2
  (e_Tok2
  (e_Lok (ld_iload_n_1 (x_dk dn_274_0_0_ok 9 rfl)))
  (e_Lok (lk_12_320 ho_274 (x_dk dn_274_0_0_ok 10 rfl))))
  (e_Tok2
  (e_Lok (ld_aload_n_0 (x_dk dn_274_0_0_ok 11 rfl)))
  (e_Lok (ld_iload_n_2 (x_dk dn_274_0_0_ok 12 rfl)))))))
  (e_Tok2
  (e_Tok2
  (e_Tok2
  (e_Lok (lk_12_320 ho_274 (x_dk dn_274_0_0_ok 13 rfl)))
  (e_Tok2
  (e_Lok (ld_aload_n_0 (x_dk dn_274_0_0_ok 14 rfl)))
  (e_Lok (ld_iload_n_3 (x_dk dn_274_0_0_ok 15 rfl)))))
  (e_Tok2
  (e_Lok (lk_12_320 ho_274 (x_dk dn_274_0_0_ok 16 rfl)))
  (e_Tok2
  (e_Lok (ld_aload_n_0 (x_dk dn_274_0_0_ok 17 rfl)))
  (e_Lok (ld_iload_4 (x_dk dn_274_0_0_ok 18 rfl))))))
  (e_Tok2
  (e_Tok2
  (e_Lok (lk_12_320 ho_274 (x_dk dn_274_0_0_ok 19 rfl)))
  (e_Tok2
  (e_Lok (ld_aload_n_0 (x_dk dn_274_0_0_ok 20 rfl)))
  (e_Lok (ld_iload_5 (x_dk dn_274_0_0_ok 21 rfl)))))
  (e_Tok2
  (e_Tok2
  (e_Lok (lk_12_320 ho_274 (x_dk dn_274_0_0_ok 22 rfl)))
  (e_Lok (ld_aload_n_0 (x_dk dn_274_0_0_ok 23 rfl))))
  (e_Tok2
  (e_Lok (lk_12_317g ho_274 (x_dk dn_274_0_0_ok 24 rfl)))
  (e_Lok (e_rt (I := eI) (k := 1) ⟨(x_dk dn_274_0_1_ok 0 rfl), rfl⟩)))))))
def te_274 : Nat → eE := te_274_0
theorem te_274_ok : ∀ pc, e_EOq eft cls elay eI n_274 pc (te_274 pc) := te_274_0_ok
theorem ho_275 : (xm_y n_275).cls = "RobotCellHouseModel" := rfl
def dn_275_0_0 : List (Nat × Instr × Nat) := [(0, .bipush 24, 2), (2, .istore_n 2, 1), (3, .iload_n 2, 1), (4, .ifCond .lt 32, 3), (7, .aload_n 0, 1), (8, .getfield 27, 3), (11, .aload_n 0, 1), (12, .getfield 317, 3), (15, .iload_n 1, 1), (16, .iload_n 2, 1), (17, .ishr, 1), (18, .i2b, 1), (19, .bastore, 1), (20, .aload_n 0, 1), (21, .dup, 1), (22, .getfield 317, 3), (25, .iconst 1, 1), (26, .iadd, 1), (27, .putfield 317, 3), (30, .iinc 2 (-8), 3), (33, .goto (-30), 3), (36, .return_, 1)]
set_option maxRecDepth 20000 in
theorem dn_275_0_0_ok : dn_275_0_0.all (fun q => decide (decode (xm_b n_275) q.1 = .ok (q.2.1, q.2.2))) = true := xa_g_ok (by decide +kernel)
def te_275_0 : Nat → eE := (e_T 17 (e_T 7 (e_T 2 (e_T 0 (e_L 0 (0, ei_push (0, 24) 2, 0, 0)) (e_L 2 (0, ei_stor 2 0 3, 0, 0))) (e_T 3 (e_L 3 (0, ei_load 2 0 4, 0, 0)) (e_T 4 (e_L 4 (0, ei_if1 2 36 7, 0, 0)) (e_L 7 (0, ei_load 0 2 8, 0, 0))))) (e_T 12 (e_T 8 (e_L 8 (0, ei_getf eft elay 12 8 11, 0, 0)) (e_T 11 (e_L 11 (0, ei_load 0 2 12, 0, 0)) (e_L 12 (0, ei_getf eft elay 12 9 15, 0, 0)))) (e_T 15 (e_L 15 (0, ei_load 1 0 16, 0, 0)) (e_T 16 (e_L 16 (0, ei_load 2 0 17, 0, 0)) (e_L 17 (0, ei_bin (eB (fun x y => x >>> (y &&& 31))) 18, 0, 0)))))) (e_T 22 (e_T 19 (e_T 18 (e_L 18 (0, ei_un (fun x => (0, x.bmod 256)) 19, 0, 0)) (e_L 19 (0, ei_ast elay true 20, 0, 0))) (e_T 20 (e_L 20 (0, ei_load 0 2 21, 0, 0)) (e_T 21 (e_L 21 (0, ei_stk ef_dup 22, 0, 0)) (e_L 22 (0, ei_getf eft elay 12 9 25, 0, 0))))) (e_T 27 (e_T 25 (e_L 25 (0, ei_push (0, 1) 26, 0, 0)) (e_T 26 (e_L 26 (0, ei_bin eF_add 27, 0, 0)) (e_L 27 (0, ei_putf eft elay 12 9 0 30, 0, 0)))) (e_T 30 (e_L 30 (0, ei_inc 2 (-8) 33, 0, 0)) (e_T 33 (e_L 33 (0, ei_goto 3, 0, 0)) (e_L 36 (1, e_nof, 0, 0)))))))
set_option maxRecDepth 20000 in
set_option maxHeartbeats 4000000 in
theorem te_275_0_ok : ∀ pc, e_EOq eft cls elay eI n_275 pc (te_275_0 pc) :=
  (e_Tok2
  (e_Tok2
  (e_Tok2
  (e_Tok2
  (e_Lok (ps_bipush_24 (x_dk dn_275_0_0_ok 0 rfl)))
  (e_Lok (e_st (I := eI) (er_istore_n (i := 2) (x_dk dn_275_0_0_ok 1 rfl) (by decide +kernel)) nx_stor)))
  (e_Tok2
  (e_Lok (ld_iload_n_2 (x_dk dn_275_0_0_ok 2 rfl)))
  (e_Tok2
  (e_Lok (e_st (I := eI) (er_iflt (off := 32) (tg := 36) (x_dk dn_275_0_0_ok 3 rfl) (by decide)) nx_if1))
  (e_Lok (ld_aload_n_0 (x_dk dn_275_0_0_ok 4 rfl))))))
  (e_Tok2
  (e_Tok2
  (e_Lok (lk_12_27g ho_275 (x_dk dn_275_0_0_ok 5 rfl)))
  (e_Tok2
  (e_Lok (ld_aload_n_0 (x_dk dn_275_0_0_ok 6 rfl)))
  (e_Lok (lk_12_317g ho_275 (x_dk dn_275_0_0_ok 7 rfl)))))
  (e_Tok2
  (e_Lok (ld_iload_n_1 (x_dk dn_275_0_0_ok 8 rfl)))
  (e_Tok2
  (e_Lok (ld_iload_n_2 (x_dk dn_275_0_0_ok 9 rfl)))
  (e_Lok (e_st (I := eI) (er_ishr (x_dk dn_275_0_0_ok 10 rfl)) nx_bin))))))
  (e_Tok2
  (e_Tok2
  (e_Tok2
  (e_Lok (e_st (I := eI) (er_i2b (x_dk dn_275_0_0_ok 11 rfl)) (nx_un (fun _ => rfl))))
  (e_Lok (e_st (I := eI) (er_bastore (x_dk dn_275_0_0_ok 12 rfl)) nx_ast)))
  (e_Tok2
  (e_Lok (ld_aload_n_0 (x_dk dn_275_0_0_ok 13 rfl)))
  (e_Tok2
  (e_Lok (e_st (I := eI) (er_dup (x_dk dn_275_0_0_ok 14 rfl)) (nx_stk bf_dup)))
  (e_Lok (lk_12_317g ho_275 (x_dk dn_275_0_0_ok 15 rfl))))))
  (e_Tok2
  (e_Tok2
  (e_Lok (ps_iconst_1 (x_dk dn_275_0_0_ok 16 rfl)))
  (e_Tok2
  (e_Lok (sm_iadd (x_dk dn_275_0_0_ok 17 rfl)))
  (e_Lok (lk_12_317p ho_275 (x_dk dn_275_0_0_ok 18 rfl)))))
  (e_Tok2
  (e_Lok (e_st (I := eI) (er_iinc (i := 2) (n := (-8)) (x_dk dn_275_0_0_ok 19 rfl) (by decide +kernel) (by decide)) nx_inc))
  (e_Tok2
  (e_Lok (e_st (I := eI) (er_goto (off := (-30)) (tg := 3) (x_dk dn_275_0_0_ok 20 rfl) (by decide)) nx_goto))
  (e_Lok (e_rt (I := eI) (k := 0) ⟨(x_dk dn_275_0_0_ok 21 rfl), rfl⟩)))))))
def te_275 : Nat → eE := te_275_0
theorem te_275_ok : ∀ pc, e_EOq eft cls elay eI n_275 pc (te_275 pc) := te_275_0_ok
theorem ho_276 : (xm_y n_276).cls = "RobotCellHouseModel" := rfl
def dn_276_0_0 : List (Nat × Instr × Nat) := [(0, .iload_n 1, 1), (1, .i2l, 1), (2, .lconst 0, 1), (3, .aload_n 0, 1), (4, .getfield 317, 3), (7, .i2l, 1), (8, .invokestatic 301, 3), (11, .ifCond .ne 5, 3), (14, .iconst (-1), 1), (15, .ireturn, 1), (16, .aload_n 0, 1), (17, .dup, 1), (18, .getfield 317, 3), (21, .iload_n 1, 1), (22, .isub, 1), (23, .putfield 317, 3), (26, .aload_n 0, 1), (27, .getfield 317, 3), (30, .ireturn, 1)]
set_option maxRecDepth 20000 in
theorem dn_276_0_0_ok : dn_276_0_0.all (fun q => decide (decode (xm_b n_276) q.1 = .ok (q.2.1, q.2.2))) = true := xa_g_ok (by decide +kernel)
def te_276_0 : Nat → eE := (e_T 14 (e_T 3 (e_T 1 (e_T 0 (e_L 0 (0, ei_load 1 0 1, 0, 0)) (e_L 1 (0, ei_un (fun x => (4, x)) 2, 0, 0))) (e_T 2 (e_L 2 (0, ei_push (4, 0) 3, 0, 0)) (e_L 3 (0, ei_load 0 2 4, 0, 0)))) (e_T 7 (e_T 4 (e_L 4 (0, ei_getf eft elay 12 9 7, 0, 0)) (e_L 7 (0, ei_un (fun x => (4, x)) 8, 0, 0))) (e_T 8 (e_L 8 (2, e_nof, 266, 3)) (e_T 11 (e_L 11 (0, ei_if1 1 16 14, 0, 0)) (e_L 14 (0, ei_push (0, (-1)) 15, 0, 0)))))) (e_T 21 (e_T 16 (e_T 15 (e_L 15 (1, e_nof, 1, 0)) (e_L 16 (0, ei_load 0 2 17, 0, 0))) (e_T 17 (e_L 17 (0, ei_stk ef_dup 18, 0, 0)) (e_T 18 (e_L 18 (0, ei_getf eft elay 12 9 21, 0, 0)) (e_L 21 (0, ei_load 1 0 22, 0, 0))))) (e_T 23 (e_T 22 (e_L 22 (0, ei_bin eF_sub 23, 0, 0)) (e_L 23 (0, ei_putf eft elay 12 9 0 26, 0, 0))) (e_T 26 (e_L 26 (0, ei_load 0 2 27, 0, 0)) (e_T 27 (e_L 27 (0, ei_getf eft elay 12 9 30, 0, 0)) (e_L 30 (1, e_nof, 1, 0)))))))
set_option maxRecDepth 20000 in
set_option maxHeartbeats 4000000 in
theorem te_276_0_ok : ∀ pc, e_EOq eft cls elay eI n_276 pc (te_276_0 pc) :=
  (e_Tok2
  (e_Tok2
  (e_Tok2
  (e_Tok2
  (e_Lok (ld_iload_n_1 (x_dk dn_276_0_0_ok 0 rfl)))
  (e_Lok (e_st (I := eI) (er_i2l (x_dk dn_276_0_0_ok 1 rfl)) (nx_un (fun _ => rfl)))))
  (e_Tok2
  (e_Lok (ps_lconst_0 (x_dk dn_276_0_0_ok 2 rfl)))
  (e_Lok (ld_aload_n_0 (x_dk dn_276_0_0_ok 3 rfl)))))
  (e_Tok2
  (e_Tok2
  (e_Lok (lk_12_317g ho_276 (x_dk dn_276_0_0_ok 4 rfl)))
  (e_Lok (e_st (I := eI) (er_i2l (x_dk dn_276_0_0_ok 5 rfl)) (nx_un (fun _ => rfl)))))
  (e_Tok2
  (e_Lok (lk_12_301 ho_276 (x_dk dn_276_0_0_ok 6 rfl)))
  (e_Tok2
  (e_Lok (e_st (I := eI) (er_ifne (off := 5) (tg := 16) (x_dk dn_276_0_0_ok 7 rfl) (by decide)) nx_if1))
  (e_Lok (ps_iconst_m1 (x_dk dn_276_0_0_ok 8 rfl)))))))
  (e_Tok2
  (e_Tok2
  (e_Tok2
  (e_Lok (e_rt (I := eI) (k := 1) ⟨(x_dk dn_276_0_0_ok 9 rfl), rfl⟩))
  (e_Lok (ld_aload_n_0 (x_dk dn_276_0_0_ok 10 rfl))))
  (e_Tok2
  (e_Lok (e_st (I := eI) (er_dup (x_dk dn_276_0_0_ok 11 rfl)) (nx_stk bf_dup)))
  (e_Tok2
  (e_Lok (lk_12_317g ho_276 (x_dk dn_276_0_0_ok 12 rfl)))
  (e_Lok (ld_iload_n_1 (x_dk dn_276_0_0_ok 13 rfl))))))
  (e_Tok2
  (e_Tok2
  (e_Lok (sm_isub (x_dk dn_276_0_0_ok 14 rfl)))
  (e_Lok (lk_12_317p ho_276 (x_dk dn_276_0_0_ok 15 rfl))))
  (e_Tok2
  (e_Lok (ld_aload_n_0 (x_dk dn_276_0_0_ok 16 rfl)))
  (e_Tok2
  (e_Lok (lk_12_317g ho_276 (x_dk dn_276_0_0_ok 17 rfl)))
  (e_Lok (e_rt (I := eI) (k := 1) ⟨(x_dk dn_276_0_0_ok 18 rfl), rfl⟩)))))))
def te_276 : Nat → eE := te_276_0
theorem te_276_ok : ∀ pc, e_EOq eft cls elay eI n_276 pc (te_276 pc) := te_276_0_ok
theorem ho_277 : (xm_y n_277).cls = "RobotCellHouseModel" := rfl
def dn_277_0_0 : List (Nat × Instr × Nat) := [(0, .aload_n 0, 1), (1, .getfield 8, 3), (4, .iconst 0, 1), (5, .iaload, 1), (6, .istore_n 1, 1), (7, .aload_n 0, 1), (8, .invokevirtual 262, 3), (11, .iload_n 1, 1), (12, .ireturn, 1)]
set_option maxRecDepth 20000 in
theorem dn_277_0_0_ok : dn_277_0_0.all (fun q => decide (decode (xm_b n_277) q.1 = .ok (q.2.1, q.2.2))) = true := xa_g_ok (by decide +kernel)
def te_277_0 : Nat → eE := (e_T 5 (e_T 1 (e_T 0 (e_L 0 (0, ei_load 0 2 1, 0, 0)) (e_L 1 (0, ei_getf eft elay 12 0 4, 0, 0))) (e_T 4 (e_L 4 (0, ei_push (0, 0) 5, 0, 0)) (e_L 5 (0, ei_ald elay false 6, 0, 0)))) (e_T 7 (e_T 6 (e_L 6 (0, ei_stor 1 0 7, 0, 0)) (e_L 7 (0, ei_load 0 2 8, 0, 0))) (e_T 8 (e_L 8 (2, e_nof, 267, 1)) (e_T 11 (e_L 11 (0, ei_load 1 0 12, 0, 0)) (e_L 12 (1, e_nof, 1, 0))))))
set_option maxRecDepth 20000 in
set_option maxHeartbeats 4000000 in
theorem te_277_0_ok : ∀ pc, e_EOq eft cls elay eI n_277 pc (te_277_0 pc) :=
  (e_Tok2
  (e_Tok2
  (e_Tok2
  (e_Lok (ld_aload_n_0 (x_dk dn_277_0_0_ok 0 rfl)))
  (e_Lok (lk_12_8g ho_277 (x_dk dn_277_0_0_ok 1 rfl))))
  (e_Tok2
  (e_Lok (ps_iconst_0 (x_dk dn_277_0_0_ok 2 rfl)))
  (e_Lok (sm_iaload (x_dk dn_277_0_0_ok 3 rfl)))))
  (e_Tok2
  (e_Tok2
  (e_Lok (e_st (I := eI) (er_istore_n (i := 1) (x_dk dn_277_0_0_ok 4 rfl) (by decide +kernel)) nx_stor))
  (e_Lok (ld_aload_n_0 (x_dk dn_277_0_0_ok 5 rfl))))
  (e_Tok2
  (e_Lok (lk_12_262 ho_277 (x_dk dn_277_0_0_ok 6 rfl)))
  (e_Tok2
  (e_Lok (ld_iload_n_1 (x_dk dn_277_0_0_ok 7 rfl)))
  (e_Lok (e_rt (I := eI) (k := 1) ⟨(x_dk dn_277_0_0_ok 8 rfl), rfl⟩))))))
def te_277 : Nat → eE := te_277_0
theorem te_277_ok : ∀ pc, e_EOq eft cls elay eI n_277 pc (te_277 pc) := te_277_0_ok
theorem ho_278 : (xm_y n_278).cls = "RobotCellHouseModel" := rfl
def dn_278_0_0 : List (Nat × Instr × Nat) := [(0, .iload_n 1, 1), (1, .i2l, 1), (2, .ldc2_w 324, 3), (5, .ldc2_w 326, 3), (8, .invokestatic 301, 3), (11, .ifCond .eq 42, 3), (14, .iload_n 2, 1), (15, .i2l, 1), (16, .ldc2_w 324, 3), (19, .ldc2_w 326, 3), (22, .invokestatic 301, 3), (25, .ifCond .eq 28, 3), (28, .iload_n 3, 1), (29, .i2l, 1), (30, .lconst 0, 1), (31, .ldc2_w 328, 3), (34, .invokestatic 301, 3), (37, .ifCond .eq 16, 3), (40, .iload 4, 2), (42, .i2l, 1), (43, .lconst 0, 1), (44, .ldc2_w 330, 3), (47, .invokestatic 301, 3), (50, .ifCond .ne 5, 3), (53, .iconst (-1), 1)]
set_option maxRecDepth 20000 in
theorem dn_278_0_0_ok : dn_278_0_0.all (fun q => decide (decode (xm_b n_278) q.1 = .ok (q.2.1, q.2.2))) = true := xa_g_ok (by decide +kernel)
def dn_278_0_1 : List (Nat × Instr × Nat) := [(54, .ireturn, 1), (55, .aload_n 0, 1), (56, .getfield 265, 3), (59, .ifCond .eq 6, 3), (62, .bipush (-2), 2), (64, .ireturn, 1), (65, .aload_n 0, 1), (66, .getfield 269, 3), (69, .iconst 4, 1), (70, .if_icmp .ne 6, 3), (73, .bipush (-3), 2), (75, .ireturn, 1), (76, .aload_n 0, 1), (77, .getfield 31, 3), (80, .aload_n 0, 1), (81, .getfield 269, 3), (84, .iload_n 1, 1), (85, .iastore, 1), (86, .aload_n 0, 1), (87, .getfield 34, 3), (90, .aload_n 0, 1), (91, .getfield 269, 3), (94, .iload_n 2, 1), (95, .iastore, 1), (96, .aload_n 0, 1)]
set_option maxRecDepth 20000 in
theorem dn_278_0_1_ok : dn_278_0_1.all (fun q => decide (decode (xm_b n_278) q.1 = .ok (q.2.1, q.2.2))) = true := xa_g_ok (by decide +kernel)
def dn_278_0_2 : List (Nat × Instr × Nat) := [(97, .getfield 37, 3), (100, .aload_n 0, 1), (101, .getfield 269, 3), (104, .iload_n 3, 1), (105, .iastore, 1), (106, .aload_n 0, 1), (107, .getfield 40, 3), (110, .aload_n 0, 1), (111, .getfield 269, 3), (114, .iload 4, 2), (116, .iastore, 1), (117, .aload_n 0, 1), (118, .dup, 1), (119, .getfield 269, 3), (122, .iconst 1, 1), (123, .iadd, 1), (124, .putfield 269, 3), (127, .aload_n 0, 1), (128, .getfield 269, 3), (131, .iconst 1, 1), (132, .isub, 1), (133, .ireturn, 1)]
set_option maxRecDepth 20000 in
theorem dn_278_0_2_ok : dn_278_0_2.all (fun q => decide (decode (xm_b n_278) q.1 = .ok (q.2.1, q.2.2))) = true := xa_g_ok (by decide +kernel)
def te_278_0 : Nat → eE := (e_T 37 (e_T 16 (e_T 5 (e_T 1 (e_T 0 (e_L 0 (0, ei_load 1 0 1, 0, 0)) (e_L 1 (0, ei_un (fun x => (4, x)) 2, 0, 0))) (e_T 2 (e_L 2 (0, ei_push (4, (-8000)) 5, 0, 0)) (e_L 5 (0, ei_push (4, 8000) 8, 0, 0)))) (e_T 11 (e_T 8 (e_L 8 (2, e_nof, 266, 3)) (e_L 11 (0, ei_if1 0 53 14, 0, 0))) (e_T 14 (e_L 14 (0, ei_load 2 0 15, 0, 0)) (e_T 15 (e_L 15 (0, ei_un (fun x => (4, x)) 16, 0, 0)) (e_L 16 (0, ei_push (4, (-8000)) 19, 0, 0)))))) (e_T 28 (e_T 22 (e_T 19 (e_L 19 (0, ei_push (4, 8000) 22, 0, 0)) (e_L 22 (2, e_nof, 266, 3))) (e_T 25 (e_L 25 (0, ei_if1 0 53 28, 0, 0)) (e_L 28 (0, ei_load 3 0 29, 0, 0)))) (e_T 30 (e_T 29 (e_L 29 (0, ei_un (fun x => (4, x)) 30, 0, 0)) (e_L 30 (0, ei_push (4, 0) 31, 0, 0))) (e_T 31 (e_L 31 (0, ei_push (4, 4095) 34, 0, 0)) (e_T 34 (e_L 34 (2, e_nof, 266, 3)) (e_L 37 (0, ei_if1 0 53 40, 0, 0))))))) (e_T 55 (e_T 44 (e_T 42 (e_T 40 (e_L 40 (0, ei_load 4 0 42, 0, 0)) (e_L 42 (0, ei_un (fun x => (4, x)) 43, 0, 0))) (e_T 43 (e_L 43 (0, ei_push (4, 0) 44, 0, 0)) (e_L 44 (0, ei_push (4, 800) 47, 0, 0)))) (e_T 50 (e_T 47 (e_L 47 (2, e_nof, 266, 3)) (e_L 50 (0, ei_if1 1 55 53, 0, 0))) (e_T 53 (e_L 53 (0, ei_push (0, (-1)) 54, 0, 0)) (e_T 54 (e_L 54 (1, e_nof, 1, 0)) (e_L 55 (0, ei_load 0 2 56, 0, 0)))))) (e_T 64 (e_T 59 (e_T 56 (e_L 56 (0, ei_getf eft elay 12 3 59, 0, 0)) (e_L 59 (0, ei_if1 0 65 62, 0, 0))) (e_T 62 (e_L 62 (0, ei_push (0, (-2)) 64, 0, 0)) (e_L 64 (1, e_nof, 1, 0)))) (e_T 66 (e_T 65 (e_L 65 (0, ei_load 0 2 66, 0, 0)) (e_L 66 (0, ei_getf eft elay 12 10 69, 0, 0))) (e_T 69 (e_L 69 (0, ei_push (0, 4) 70, 0, 0)) (e_T 70 (e_L 70 (0, ei_if2 1 76 73, 0, 0)) (e_L 73 (0, ei_push (0, (-3)) 75, 0, 0))))))))
set_option maxRecDepth 20000 in
set_option maxHeartbeats 4000000 in
theorem te_278_0_ok : ∀ pc, e_EOq eft cls elay eI n_278 pc (te_278_0 pc) :=
  (e_Tok2
  (e_Tok2
  (e_Tok2
  (e_Tok2
  (e_Tok2
  (e_Lok (ld_iload_n_1 (x_dk dn_278_0_0_ok 0 rfl)))
  (e_Lok (e_st (I := eI) (er_i2l (x_dk dn_278_0_0_ok 1 rfl)) (nx_un (fun _ => rfl)))))
  (e_Tok2
  (e_Lok (e_st (I := eI) (er_ldc2 (ix := 324) (z := (-8000)) (v := (-8000)) (x_dk dn_278_0_0_ok 2 rfl) (in_t11 (List.mem_of_getElem? (i := 16) rfl) rfl) (by decide)) (nx_push (Or.inl rfl))))
  (e_Lok (e_st (I := eI) (er_ldc2 (ix := 326) (z := 8000) (v := 8000) (x_dk dn_278_0_0_ok 3 rfl) (in_t11 (List.mem_of_getElem? (i := 17) rfl) rfl) (by decide)) (nx_push (Or.inl rfl))))))
  (e_Tok2
  (e_Tok2
  (e_Lok (lk_12_301 ho_278 (x_dk dn_278_0_0_ok 4 rfl)))
  (e_Lok (e_st (I := eI) (er_ifeq (off := 42) (tg := 53) (x_dk dn_278_0_0_ok 5 rfl) (by decide)) nx_if1)))
  (e_Tok2
  (e_Lok (ld_iload_n_2 (x_dk dn_278_0_0_ok 6 rfl)))
  (e_Tok2
  (e_Lok (e_st (I := eI) (er_i2l (x_dk dn_278_0_0_ok 7 rfl)) (nx_un (fun _ => rfl))))
  (e_Lok (e_st (I := eI) (er_ldc2 (ix := 324) (z := (-8000)) (v := (-8000)) (x_dk dn_278_0_0_ok 8 rfl) (in_t11 (List.mem_of_getElem? (i := 16) rfl) rfl) (by decide)) (nx_push (Or.inl rfl))))))))
  (e_Tok2
  (e_Tok2
  (e_Tok2
  (e_Lok (e_st (I := eI) (er_ldc2 (ix := 326) (z := 8000) (v := 8000) (x_dk dn_278_0_0_ok 9 rfl) (in_t11 (List.mem_of_getElem? (i := 17) rfl) rfl) (by decide)) (nx_push (Or.inl rfl))))
  (e_Lok (lk_12_301 ho_278 (x_dk dn_278_0_0_ok 10 rfl))))
  (e_Tok2
  (e_Lok (e_st (I := eI) (er_ifeq (off := 28) (tg := 53) (x_dk dn_278_0_0_ok 11 rfl) (by decide)) nx_if1))
  (e_Lok (ld_iload_n_3 (x_dk dn_278_0_0_ok 12 rfl)))))
  (e_Tok2
  (e_Tok2
  (e_Lok (e_st (I := eI) (er_i2l (x_dk dn_278_0_0_ok 13 rfl)) (nx_un (fun _ => rfl))))
  (e_Lok (ps_lconst_0 (x_dk dn_278_0_0_ok 14 rfl))))
  (e_Tok2
  (e_Lok (e_st (I := eI) (er_ldc2 (ix := 328) (z := 4095) (v := 4095) (x_dk dn_278_0_0_ok 15 rfl) (in_t11 (List.mem_of_getElem? (i := 18) rfl) rfl) (by decide)) (nx_push (Or.inl rfl))))
  (e_Tok2
  (e_Lok (lk_12_301 ho_278 (x_dk dn_278_0_0_ok 16 rfl)))
  (e_Lok (e_st (I := eI) (er_ifeq (off := 16) (tg := 53) (x_dk dn_278_0_0_ok 17 rfl) (by decide)) nx_if1)))))))
  (e_Tok2
  (e_Tok2
  (e_Tok2
  (e_Tok2
  (e_Lok (ld_iload_4 (x_dk dn_278_0_0_ok 18 rfl)))
  (e_Lok (e_st (I := eI) (er_i2l (x_dk dn_278_0_0_ok 19 rfl)) (nx_un (fun _ => rfl)))))
  (e_Tok2
  (e_Lok (ps_lconst_0 (x_dk dn_278_0_0_ok 20 rfl)))
  (e_Lok (e_st (I := eI) (er_ldc2 (ix := 330) (z := 800) (v := 800) (x_dk dn_278_0_0_ok 21 rfl) (in_t11 (List.mem_of_getElem? (i := 19) rfl) rfl) (by decide)) (nx_push (Or.inl rfl))))))
  (e_Tok2
  (e_Tok2
  (e_Lok (lk_12_301 ho_278 (x_dk dn_278_0_0_ok 22 rfl)))
  (e_Lok (e_st (I := eI) (er_ifne (off := 5) (tg := 55) (x_dk dn_278_0_0_ok 23 rfl) (by decide)) nx_if1)))
  (e_Tok2
  (e_Lok (ps_iconst_m1 (x_dk dn_278_0_0_ok 24 rfl)))
  (e_Tok2
  (e_Lok (e_rt (I := eI) (k := 1) ⟨(x_dk dn_278_0_1_ok 0 rfl), rfl⟩))
  (e_Lok (ld_aload_n_0 (x_dk dn_278_0_1_ok 1 rfl)))))))
  (e_Tok2
  (e_Tok2
  (e_Tok2
  (e_Lok (lk_12_265g ho_278 (x_dk dn_278_0_1_ok 2 rfl)))
  (e_Lok (e_st (I := eI) (er_ifeq (off := 6) (tg := 65) (x_dk dn_278_0_1_ok 3 rfl) (by decide)) nx_if1)))
  (e_Tok2
  (e_Lok (ps_bipush_m2 (x_dk dn_278_0_1_ok 4 rfl)))
  (e_Lok (e_rt (I := eI) (k := 1) ⟨(x_dk dn_278_0_1_ok 5 rfl), rfl⟩))))
  (e_Tok2
  (e_Tok2
  (e_Lok (ld_aload_n_0 (x_dk dn_278_0_1_ok 6 rfl)))
  (e_Lok (lk_12_269g ho_278 (x_dk dn_278_0_1_ok 7 rfl))))
  (e_Tok2
  (e_Lok (ps_iconst_4 (x_dk dn_278_0_1_ok 8 rfl)))
  (e_Tok2
  (e_Lok (e_st (I := eI) (er_icmpne (off := 6) (tg := 76) (x_dk dn_278_0_1_ok 9 rfl) (by decide)) nx_if2))
  (e_Lok (ps_bipush_m3 (x_dk dn_278_0_1_ok 10 rfl)))))))))
def te_278_36 : Nat → eE := (e_T 104 (e_T 87 (e_T 80 (e_T 76 (e_T 75 (e_L 75 (1, e_nof, 1, 0)) (e_L 76 (0, ei_load 0 2 77, 0, 0))) (e_T 77 (e_L 77 (0, ei_getf eft elay 12 11 80, 0, 0)) (e_L 80 (0, ei_load 0 2 81, 0, 0)))) (e_T 84 (e_T 81 (e_L 81 (0, ei_getf eft elay 12 10 84, 0, 0)) (e_L 84 (0, ei_load 1 0 85, 0, 0))) (e_T 85 (e_L 85 (0, ei_ast elay false 86, 0, 0)) (e_T 86 (e_L 86 (0, ei_load 0 2 87, 0, 0)) (e_L 87 (0, ei_getf eft elay 12 12 90, 0, 0)))))) (e_T 95 (e_T 91 (e_T 90 (e_L 90 (0, ei_load 0 2 91, 0, 0)) (e_L 91 (0, ei_getf eft elay 12 10 94, 0, 0))) (e_T 94 (e_L 94 (0, ei_load 2 0 95, 0, 0)) (e_L 95 (0, ei_ast elay false 96, 0, 0)))) (e_T 97 (e_T 96 (e_L 96 (0, ei_load 0 2 97, 0, 0)) (e_L 97 (0, ei_getf eft elay 12 13 100, 0, 0))) (e_T 100 (e_L 100 (0, ei_load 0 2 101, 0, 0)) (e_T 101 (e_L 101 (0, ei_getf eft elay 12 10 104, 0, 0)) (e_L 104 (0, ei_load 3 0 105, 0, 0))))))) (e_T 118 (e_T 110 (e_T 106 (e_T 105 (e_L 105 (0, ei_ast elay false 106, 0, 0)) (e_L 106 (0, ei_load 0 2 107, 0, 0))) (e_T 107 (e_L 107 (0, ei_getf eft elay 12 14 110, 0, 0)) (e_L 110 (0, ei_load 0 2 111, 0, 0)))) (e_T 114 (e_T 111 (e_L 111 (0, ei_getf eft elay 12 10 114, 0, 0)) (e_L 114 (0, ei_load 4 0 116, 0, 0))) (e_T 116 (e_L 116 (0, ei_ast elay false 117, 0, 0)) (e_T 117 (e_L 117 (0, ei_load 0 2 118, 0, 0)) (e_L 118 (0, ei_stk ef_dup 119, 0, 0)))))) (e_T 124 (e_T 122 (e_T 119 (e_L 119 (0, ei_getf eft elay 12 10 122, 0, 0)) (e_L 122 (0, ei_push (0, 1) 123, 0, 0))) (e_T 123 (e_L 123 (0, ei_bin eF_add 124, 0, 0)) (e_L 124 (0, ei_putf eft elay 12 10 0 127, 0, 0)))) (e_T 128 (e_T 127 (e_L 127 (0, ei_load 0 2 128, 0, 0)) (e_L 128 (0, ei_getf eft elay 12 10 131, 0, 0))) (e_T 131 (e_L 131 (0, ei_push (0, 1) 132, 0, 0)) (e_T 132 (e_L 132 (0, ei_bin eF_sub 133, 0, 0)) (e_L 133 (1, e_nof, 1, 0))))))))
set_option maxRecDepth 20000 in
set_option maxHeartbeats 4000000 in
theorem te_278_36_ok : ∀ pc, e_EOq eft cls elay eI n_278 pc (te_278_36 pc) :=
  (e_Tok2
  (e_Tok2
  (e_Tok2
  (e_Tok2
  (e_Tok2
  (e_Lok (e_rt (I := eI) (k := 1) ⟨(x_dk dn_278_0_1_ok 11 rfl), rfl⟩))
  (e_Lok (ld_aload_n_0 (x_dk dn_278_0_1_ok 12 rfl))))
  (e_Tok2
  (e_Lok (lk_12_31g ho_278 (x_dk dn_278_0_1_ok 13 rfl)))
  (e_Lok (ld_aload_n_0 (x_dk dn_278_0_1_ok 14 rfl)))))
  (e_Tok2
  (e_Tok2
  (e_Lok (lk_12_269g ho_278 (x_dk dn_278_0_1_ok 15 rfl)))
  (e_Lok (ld_iload_n_1 (x_dk dn_278_0_1_ok 16 rfl))))
  (e_Tok2
  (e_Lok (sm_iastore (x_dk dn_278_0_1_ok 17 rfl)))
  (e_Tok2
  (e_Lok (ld_aload_n_0 (x_dk dn_278_0_1_ok 18 rfl)))
  (e_Lok (lk_12_34g ho_278 (x_dk dn_278_0_1_ok 19 rfl)))))))
  (e_Tok2
  (e_Tok2
  (e_Tok2
  (e_Lok (ld_aload_n_0 (x_dk dn_278_0_1_ok 20 rfl)))
  (e_Lok (lk_12_269g ho_278 (x_dk dn_278_0_1_ok 21 rfl))))
  (e_Tok2
  (e_Lok (ld_iload_n_2 (x_dk dn_278_0_1_ok 22 rfl)))
  (e_Lok (sm_iastore (x_dk dn_278_0_1_ok 23 rfl)))))
  (e_Tok2
  (e_Tok2
  (e_Lok (ld_aload_n_0 (x_dk dn_278_0_1_ok 24 rfl)))
  (e_Lok (lk_12_37g ho_278 (x_dk dn_278_0_2_ok 0 rfl))))
  (e_Tok2
  (e_Lok (ld_aload_n_0 (x_dk dn_278_0_2_ok 1 rfl)))
  (e_Tok2
  (e_Lok (lk_12_269g ho_278 (x_dk dn_278_0_2_ok 2 rfl)))
  (e_Lok (ld_iload_n_3 (x_dk dn_278_0_2_ok 3 rfl))))))))
  (e_Tok2
  (e_Tok2
  (e_Tok2
  (e_Tok2
  (e_Lok (sm_iastore (x_dk dn_278_0_2_ok 4 rfl)))
  (e_Lok (ld_aload_n_0 (x_dk dn_278_0_2_ok 5 rfl))))
  (e_Tok2
  (e_Lok (lk_12_40g ho_278 (x_dk dn_278_0_2_ok 6 rfl)))
  (e_Lok (ld_aload_n_0 (x_dk dn_278_0_2_ok 7 rfl)))))
  (e_Tok2
  (e_Tok2
  (e_Lok (lk_12_269g ho_278 (x_dk dn_278_0_2_ok 8 rfl)))
  (e_Lok (ld_iload_4 (x_dk dn_278_0_2_ok 9 rfl))))
  (e_Tok2
  (e_Lok (sm_iastore (x_dk dn_278_0_2_ok 10 rfl)))
  (e_Tok2
  (e_Lok (ld_aload_n_0 (x_dk dn_278_0_2_ok 11 rfl)))
  (e_Lok (e_st (I := eI) (er_dup (x_dk dn_278_0_2_ok 12 rfl)) (nx_stk bf_dup)))))))
  (e_Tok2
  (e_Tok2
  (e_Tok2
  (e_Lok (lk_12_269g ho_278 (x_dk dn_278_0_2_ok 13 rfl)))
  (e_Lok (ps_iconst_1 (x_dk dn_278_0_2_ok 14 rfl))))
  (e_Tok2
  (e_Lok (sm_iadd (x_dk dn_278_0_2_ok 15 rfl)))
  (e_Lok (lk_12_269p ho_278 (x_dk dn_278_0_2_ok 16 rfl)))))
  (e_Tok2
  (e_Tok2
  (e_Lok (ld_aload_n_0 (x_dk dn_278_0_2_ok 17 rfl)))
  (e_Lok (lk_12_269g ho_278 (x_dk dn_278_0_2_ok 18 rfl))))
  (e_Tok2
  (e_Lok (ps_iconst_1 (x_dk dn_278_0_2_ok 19 rfl)))
  (e_Tok2
  (e_Lok (sm_isub (x_dk dn_278_0_2_ok 20 rfl)))
  (e_Lok (e_rt (I := eI) (k := 1) ⟨(x_dk dn_278_0_2_ok 21 rfl), rfl⟩))))))))
def te_278 : Nat → eE := (e_T 73 te_278_0 te_278_36)
theorem te_278_ok : ∀ pc, e_EOq eft cls elay eI n_278 pc (te_278 pc) := (e_Tok2 (te_278_0_ok) (te_278_36_ok))
theorem ho_279 : (xm_y n_279).cls = "RobotCellHouseModel" := rfl
def dn_279_0_0 : List (Nat × Instr × Nat) := [(0, .aload_n 0, 1), (1, .iload_n 1, 1), (2, .invokevirtual 305, 3), (5, .ifCond .eq 13, 3), (8, .iload_n 2, 1), (9, .i2l, 1), (10, .lconst 0, 1), (11, .lconst 1, 1), (12, .invokestatic 301, 3), (15, .ifCond .ne 5, 3), (18, .iconst (-1), 1), (19, .ireturn, 1), (20, .iload_n 2, 1), (21, .ifCond .ne 9, 3), (24, .ldc_w 332, 3), (27, .goto 6, 3), (30, .sipush 8000, 3), (33, .istore 6, 2), (35, .iload_n 3, 1), (36, .i2l, 1), (37, .iload 6, 2), (39, .ineg, 1), (40, .i2l, 1), (41, .lconst 0, 1), (42, .invokestatic 301, 3)]
set_option maxRecDepth 20000 in
theorem dn_279_0_0_ok : dn_279_0_0.all (fun q => decide (decode (xm_b n_279) q.1 = .ok (q.2.1, q.2.2))) = true := xa_g_ok (by decide +kernel)
def dn_279_0_1 : List (Nat × Instr × Nat) := [(45, .ifCond .eq 29, 3), (48, .iload 4, 2), (50, .i2l, 1), (51, .lconst 0, 1), (52, .iload 6, 2), (54, .i2l, 1), (55, .invokestatic 301, 3), (58, .ifCond .eq 16, 3), (61, .iload 5, 2), (63, .i2l, 1), (64, .lconst 0, 1), (65, .ldc2_w 326, 3), (68, .invokestatic 301, 3), (71, .ifCond .ne 5, 3), (74, .iconst (-1), 1), (75, .ireturn, 1), (76, .iload 5, 2), (78, .iload_n 2, 1), (79, .iconst 1, 1), (80, .if_icmp .ne 8, 3), (83, .iload 4, 2), (85, .goto 4, 3), (88, .iconst 0, 1), (89, .iadd, 1), (90, .istore 7, 2)]
set_option maxRecDepth 20000 in
theorem dn_279_0_1_ok : dn_279_0_1.all (fun q => decide (decode (xm_b n_279) q.1 = .ok (q.2.1, q.2.2))) = true := xa_g_ok (by decide +kernel)
def dn_279_0_2 : List (Nat × Instr × Nat) := [(92, .iconst 0, 1), (93, .istore 8, 2), (95, .iload 8, 2), (97, .aload_n 0, 1), (98, .getfield 43, 3), (101, .iload_n 1, 1), (102, .iaload, 1), (103, .if_icmp .ge 59, 3), (106, .iload 7, 2), (108, .aload_n 0, 1), (109, .getfield 61, 3), (112, .bipush 6, 2), (114, .iload_n 1, 1), (115, .imul, 1), (116, .iload 8, 2), (118, .iadd, 1), (119, .iaload, 1), (120, .aload_n 0, 1), (121, .getfield 46, 3), (124, .bipush 6, 2), (126, .iload_n 1, 1), (127, .imul, 1), (128, .iload 8, 2), (130, .iadd, 1), (131, .iaload, 1)]
set_option maxRecDepth 20000 in
theorem dn_279_0_2_ok : dn_279_0_2.all (fun q => decide (decode (xm_b n_279) q.1 = .ok (q.2.1, q.2.2))) = true := xa_g_ok (by decide +kernel)
def dn_279_0_3 : List (Nat × Instr × Nat) := [(132, .iconst 1, 1), (133, .if_icmp .ne 7, 3), (136, .iconst 0, 1), (137, .goto 15, 3), (140, .aload_n 0, 1), (141, .getfield 52, 3), (144, .bipush 6, 2), (146, .iload_n 1, 1), (147, .imul, 1), (148, .iload 8, 2), (150, .iadd, 1), (151, .iaload, 1), (152, .iadd, 1), (153, .iadd, 1), (154, .istore 7, 2), (156, .iinc 8 1, 3), (159, .goto (-64), 3), (162, .iload_n 2, 1), (163, .iconst 1, 1), (164, .if_icmp .ne 10, 3), (167, .iload 5, 2), (169, .iload_n 3, 1), (170, .iadd, 1), (171, .ifCond .lt 11, 3), (174, .iload 7, 2)]
set_option maxRecDepth 20000 in
theorem dn_279_0_3_ok : dn_279_0_3.all (fun q => decide (decode (xm_b n_279) q.1 = .ok (q.2.1, q.2.2))) = true := xa_g_ok (by decide +kernel)
def dn_279_1_0 : List (Nat × Instr × Nat) := [(176, .sipush 8000, 3), (179, .if_icmp .le 5, 3), (182, .iconst (-1), 1), (183, .ireturn, 1), (184, .aload_n 0, 1), (185, .getfield 265, 3), (188, .ifCond .eq 6, 3), (191, .bipush (-2), 2), (193, .ireturn, 1), (194, .aload_n 0, 1), (195, .getfield 43, 3), (198, .iload_n 1, 1), (199, .iaload, 1), (200, .bipush 6, 2), (202, .if_icmp .ne 6, 3), (205, .bipush (-3), 2), (207, .ireturn, 1), (208, .bipush 6, 2), (210, .iload_n 1, 1), (211, .imul, 1), (212, .aload_n 0, 1), (213, .getfield 43, 3), (216, .iload_n 1, 1), (217, .iaload, 1), (218, .iadd, 1)]
set_option maxRecDepth 20000 in
theorem dn_279_1_0_ok : dn_279_1_0.all (fun q => decide (decode (xm_b n_279) q.1 = .ok (q.2.1, q.2.2))) = true := xa_g_ok (by decide +kernel)
def dn_279_1_1 : List (Nat × Instr × Nat) := [(219, .istore 8, 2), (221, .aload_n 0, 1), (222, .getfield 46, 3), (225, .iload 8, 2), (227, .iconst 1, 1), (228, .iload_n 2, 1), (229, .isub, 1), (230, .iastore, 1), (231, .aload_n 0, 1), (232, .getfield 49, 3), (235, .iload 8, 2), (237, .iload_n 3, 1), (238, .iastore, 1), (239, .aload_n 0, 1), (240, .getfield 52, 3), (243, .iload 8, 2), (245, .iload 4, 2), (247, .iastore, 1), (248, .aload_n 0, 1), (249, .getfield 55, 3), (252, .iload 8, 2), (254, .bipush 100, 2), (256, .iastore, 1), (257, .aload_n 0, 1), (258, .getfield 58, 3)]
set_option maxRecDepth 20000 in
theorem dn_279_1_1_ok : dn_279_1_1.all (fun q => decide (decode (xm_b n_279) q.1 = .ok (q.2.1, q.2.2))) = true := xa_g_ok (by decide +kernel)
def dn_279_1_2 : List (Nat × Instr × Nat) := [(261, .iload 8, 2), (263, .bipush 10, 2), (265, .iastore, 1), (266, .aload_n 0, 1), (267, .getfield 61, 3), (270, .iload 8, 2), (272, .iload 5, 2), (274, .iastore, 1), (275, .aload_n 0, 1), (276, .getfield 64, 3), (279, .iload 8, 2), (281, .iconst 0, 1), (282, .iastore, 1), (283, .aload_n 0, 1), (284, .getfield 43, 3), (287, .iload_n 1, 1), (288, .dup2, 1), (289, .iaload, 1), (290, .iconst 1, 1), (291, .iadd, 1), (292, .iastore, 1), (293, .aload_n 0, 1), (294, .getfield 43, 3), (297, .iload_n 1, 1), (298, .iaload, 1)]
set_option maxRecDepth 20000 in
theorem dn_279_1_2_ok : dn_279_1_2.all (fun q => decide (decode (xm_b n_279) q.1 = .ok (q.2.1, q.2.2))) = true := xa_g_ok (by decide +kernel)
def dn_279_1_3 : List (Nat × Instr × Nat) := [(299, .iconst 1, 1), (300, .isub, 1), (301, .ireturn, 1)]
set_option maxRecDepth 20000 in
theorem dn_279_1_3_ok : dn_279_1_3.all (fun q => decide (decode (xm_b n_279) q.1 = .ok (q.2.1, q.2.2))) = true := xa_g_ok (by decide +kernel)
def te_279_0 : Nat → eE := (e_T 18 (e_T 8 (e_T 1 (e_T 0 (e_L 0 (0, ei_load 0 2 1, 0, 0)) (e_L 1 (0, ei_load 1 0 2, 0, 0))) (e_T 2 (e_L 2 (2, e_nof, 270, 2)) (e_T 5 (e_L 5 (0, ei_if1 0 18 8, 0, 0)) (e_L 8 (0, ei_load 2 0 9, 0, 0))))) (e_T 11 (e_T 9 (e_L 9 (0, ei_un (fun x => (4, x)) 10, 0, 0)) (e_T 10 (e_L 10 (0, ei_push (4, 0) 11, 0, 0)) (e_L 11 (0, ei_push (4, 1) 12, 0, 0)))) (e_T 12 (e_L 12 (2, e_nof, 266, 3)) (e_T 15 (e_L 15 (0, ei_if1 1 20 18, 0, 0)) (e_L 18 (0, ei_push (0, (-1)) 19, 0, 0)))))) (e_T 27 (e_T 20 (e_T 19 (e_L 19 (1, e_nof, 1, 0)) (e_L 20 (0, ei_load 2 0 21, 0, 0))) (e_T 21 (e_L 21 (0, ei_if1 1 30 24, 0, 0)) (e_T 24 (e_L 24 (0, ei_push (0, 100000) 27, 0, 0)) (e_L 27 (0, ei_goto 33, 0, 0))))) (e_T 35 (e_T 30 (e_L 30 (0, ei_push (0, 8000) 33, 0, 0)) (e_T 33 (e_L 33 (0, ei_stor 6 0 35, 0, 0)) (e_L 35 (0, ei_load 3 0 36, 0, 0)))) (e_T 36 (e_L 36 (0, ei_un (fun x => (4, x)) 37, 0, 0)) (e_T 37 (e_L 37 (0, ei_load 6 0 39, 0, 0)) (e_L 39 (0, ei_un (fun x => (0, e32 (-x))) 40, 0, 0)))))))
set_option maxRecDepth 20000 in
set_option maxHeartbeats 4000000 in
theorem te_279_0_ok : ∀ pc, e_EOq eft cls elay eI n_279 pc (te_279_0 pc) :=
  (e_Tok2
  (e_Tok2
  (e_Tok2
  (e_Tok2
  (e_Lok (ld_aload_n_0 (x_dk dn_279_0_0_ok 0 rfl)))
  (e_Lok (ld_iload_n_1 (x_dk dn_279_0_0_ok 1 rfl))))
  (e_Tok2
  (e_Lok (lk_12_305 ho_279 (x_dk dn_279_0_0_ok 2 rfl)))
  (e_Tok2
  (e_Lok (e_st (I := eI) (er_ifeq (off := 13) (tg := 18) (x_dk dn_279_0_0_ok 3 rfl) (by decide)) nx_if1))
  (e_Lok (ld_iload_n_2 (x_dk dn_279_0_0_ok 4 rfl))))))
  (e_Tok2
  (e_Tok2
  (e_Lok (e_st (I := eI) (er_i2l (x_dk dn_279_0_0_ok 5 rfl)) (nx_un (fun _ => rfl))))
  (e_Tok2
  (e_Lok (ps_lconst_0 (x_dk dn_279_0_0_ok 6 rfl)))
  (e_Lok (ps_lconst_1 (x_dk dn_279_0_0_ok 7 rfl)))))
  (e_Tok2
  (e_Lok (lk_12_301 ho_279 (x_dk dn_279_0_0_ok 8 rfl)))
  (e_Tok2
  (e_Lok (e_st (I := eI) (er_ifne (off := 5) (tg := 20) (x_dk dn_279_0_0_ok 9 rfl) (by decide)) nx_if1))
  (e_Lok (ps_iconst_m1 (x_dk dn_279_0_0_ok 10 rfl)))))))
  (e_Tok2
  (e_Tok2
  (e_Tok2
  (e_Lok (e_rt (I := eI) (k := 1) ⟨(x_dk dn_279_0_0_ok 11 rfl), rfl⟩))
  (e_Lok (ld_iload_n_2 (x_dk dn_279_0_0_ok 12 rfl))))
  (e_Tok2
  (e_Lok (e_st (I := eI) (er_ifne (off := 9) (tg := 30) (x_dk dn_279_0_0_ok 13 rfl) (by decide)) nx_if1))
  (e_Tok2
  (e_Lok (e_st (I := eI) (er_ldcw (ix := 332) (z := 100000) (v := 100000) (x_dk dn_279_0_0_ok 14 rfl) (in_t11 (List.mem_of_getElem? (i := 28) rfl) rfl) (by decide)) (nx_push (Or.inl rfl))))
  (e_Lok (e_st (I := eI) (er_goto (off := 6) (tg := 33) (x_dk dn_279_0_0_ok 15 rfl) (by decide)) nx_goto)))))
  (e_Tok2
  (e_Tok2
  (e_Lok (ps_sipush_8000 (x_dk dn_279_0_0_ok 16 rfl)))
  (e_Tok2
  (e_Lok (e_st (I := eI) (er_istore (i := 6) (x_dk dn_279_0_0_ok 17 rfl) (by decide +kernel)) nx_stor))
  (e_Lok (ld_iload_n_3 (x_dk dn_279_0_0_ok 18 rfl)))))
  (e_Tok2
  (e_Lok (e_st (I := eI) (er_i2l (x_dk dn_279_0_0_ok 19 rfl)) (nx_un (fun _ => rfl))))
  (e_Tok2
  (e_Lok (ld_iload_6 (x_dk dn_279_0_0_ok 20 rfl)))
  (e_Lok (e_st (I := eI) (er_ineg (x_dk dn_279_0_0_ok 21 rfl)) (nx_un (fun _ => rfl)))))))))
def te_279_22 : Nat → eE := (e_T 58 (e_T 48 (e_T 41 (e_T 40 (e_L 40 (0, ei_un (fun x => (4, x)) 41, 0, 0)) (e_L 41 (0, ei_push (4, 0) 42, 0, 0))) (e_T 42 (e_L 42 (2, e_nof, 266, 3)) (e_T 45 (e_L 45 (0, ei_if1 0 74 48, 0, 0)) (e_L 48 (0, ei_load 4 0 50, 0, 0))))) (e_T 52 (e_T 50 (e_L 50 (0, ei_un (fun x => (4, x)) 51, 0, 0)) (e_T 51 (e_L 51 (0, ei_push (4, 0) 52, 0, 0)) (e_L 52 (0, ei_load 6 0 54, 0, 0)))) (e_T 54 (e_L 54 (0, ei_un (fun x => (4, x)) 55, 0, 0)) (e_T 55 (e_L 55 (2, e_nof, 266, 3)) (e_L 58 (0, ei_if1 0 74 61, 0, 0)))))) (e_T 68 (e_T 63 (e_T 61 (e_L 61 (0, ei_load 5 0 63, 0, 0)) (e_L 63 (0, ei_un (fun x => (4, x)) 64, 0, 0))) (e_T 64 (e_L 64 (0, ei_push (4, 0) 65, 0, 0)) (e_T 65 (e_L 65 (0, ei_push (4, 8000) 68, 0, 0)) (e_L 68 (2, e_nof, 266, 3))))) (e_T 75 (e_T 71 (e_L 71 (0, ei_if1 1 76 74, 0, 0)) (e_T 74 (e_L 74 (0, ei_push (0, (-1)) 75, 0, 0)) (e_L 75 (1, e_nof, 1, 0)))) (e_T 76 (e_L 76 (0, ei_load 5 0 78, 0, 0)) (e_T 78 (e_L 78 (0, ei_load 2 0 79, 0, 0)) (e_L 79 (0, ei_push (0, 1) 80, 0, 0)))))))
set_option maxRecDepth 20000 in
set_option maxHeartbeats 4000000 in
theorem te_279_22_ok : ∀ pc, e_EOq eft cls elay eI n_279 pc (te_279_22 pc) :=
  (e_Tok2
  (e_Tok2
  (e_Tok2
  (e_Tok2
  (e_Lok (e_st (I := eI) (er_i2l (x_dk dn_279_0_0_ok 22 rfl)) (nx_un (fun _ => rfl))))
  (e_Lok (ps_lconst_0 (x_dk dn_279_0_0_ok 23 rfl))))
  (e_Tok2
  (e_Lok (lk_12_301 ho_279 (x_dk dn_279_0_0_ok 24 rfl)))
  (e_Tok2
  (e_Lok (e_st (I := eI) (er_ifeq (off := 29) (tg := 74) (x_dk dn_279_0_1_ok 0 rfl) (by decide)) nx_if1))
  (e_Lok (ld_iload_4 (x_dk dn_279_0_1_ok 1 rfl))))))
  (e_Tok2
  (e_Tok2
  (e_Lok (e_st (I := eI) (er_i2l (x_dk dn_279_0_1_ok 2 rfl)) (nx_un (fun _ => rfl))))
  (e_Tok2
  (e_Lok (ps_lconst_0 (x_dk dn_279_0_1_ok 3 rfl)))
  (e_Lok (ld_iload_6 (x_dk dn_279_0_1_ok 4 rfl)))))
  (e_Tok2
  (e_Lok (e_st (I := eI) (er_i2l (x_dk dn_279_0_1_ok 5 rfl)) (nx_un (fun _ => rfl))))
  (e_Tok2
  (e_Lok (lk_12_301 ho_279 (x_dk dn_279_0_1_ok 6 rfl)))
  (e_Lok (e_st (I := eI) (er_ifeq (off := 16) (tg := 74) (x_dk dn_279_0_1_ok 7 rfl) (by decide)) nx_if1))))))
  (e_Tok2
  (e_Tok2
  (e_Tok2
  (e_Lok (ld_iload_5 (x_dk dn_279_0_1_ok 8 rfl)))
  (e_Lok (e_st (I := eI) (er_i2l (x_dk dn_279_0_1_ok 9 rfl)) (nx_un (fun _ => rfl)))))
  (e_Tok2
  (e_Lok (ps_lconst_0 (x_dk dn_279_0_1_ok 10 rfl)))
  (e_Tok2
  (e_Lok (e_st (I := eI) (er_ldc2 (ix := 326) (z := 8000) (v := 8000) (x_dk dn_279_0_1_ok 11 rfl) (in_t11 (List.mem_of_getElem? (i := 17) rfl) rfl) (by decide)) (nx_push (Or.inl rfl))))
  (e_Lok (lk_12_301 ho_279 (x_dk dn_279_0_1_ok 12 rfl))))))
  (e_Tok2
  (e_Tok2
  (e_Lok (e_st (I := eI) (er_ifne (off := 5) (tg := 76) (x_dk dn_279_0_1_ok 13 rfl) (by decide)) nx_if1))
  (e_Tok2
  (e_Lok (ps_iconst_m1 (x_dk dn_279_0_1_ok 14 rfl)))
  (e_Lok (e_rt (I := eI) (k := 1) ⟨(x_dk dn_279_0_1_ok 15 rfl), rfl⟩))))
  (e_Tok2
  (e_Lok (ld_iload_5 (x_dk dn_279_0_1_ok 16 rfl)))
  (e_Tok2
  (e_Lok (ld_iload_n_2 (x_dk dn_279_0_1_ok 17 rfl)))
  (e_Lok (ps_iconst_1 (x_dk dn_279_0_1_ok 18 rfl))))))))
def te_279_44 : Nat → eE := (e_T 98 (e_T 89 (e_T 83 (e_T 80 (e_L 80 (0, ei_if2 1 88 83, 0, 0)) (e_L 83 (0, ei_load 4 0 85, 0, 0))) (e_T 85 (e_L 85 (0, ei_goto 89, 0, 0)) (e_T 88 (e_L 88 (0, ei_push (0, 0) 89, 0, 0)) (e_L 89 (0, ei_bin eF_add 90, 0, 0))))) (e_T 93 (e_T 90 (e_L 90 (0, ei_stor 7 0 92, 0, 0)) (e_T 92 (e_L 92 (0, ei_push (0, 0) 93, 0, 0)) (e_L 93 (0, ei_stor 8 0 95, 0, 0)))) (e_T 95 (e_L 95 (0, ei_load 8 0 97, 0, 0)) (e_T 97 (e_L 97 (0, ei_load 0 2 98, 0, 0)) (e_L 98 (0, ei_getf eft elay 12 15 101, 0, 0)))))) (e_T 108 (e_T 102 (e_T 101 (e_L 101 (0, ei_load 1 0 102, 0, 0)) (e_L 102 (0, ei_ald elay false 103, 0, 0))) (e_T 103 (e_L 103 (0, ei_if2 3 162 106, 0, 0)) (e_T 106 (e_L 106 (0, ei_load 7 0 108, 0, 0)) (e_L 108 (0, ei_load 0 2 109, 0, 0))))) (e_T 114 (e_T 109 (e_L 109 (0, ei_getf eft elay 12 21 112, 0, 0)) (e_T 112 (e_L 112 (0, ei_push (0, 6) 114, 0, 0)) (e_L 114 (0, ei_load 1 0 115, 0, 0)))) (e_T 115 (e_L 115 (0, ei_bin eF_mul 116, 0, 0)) (e_T 116 (e_L 116 (0, ei_load 8 0 118, 0, 0)) (e_L 118 (0, ei_bin eF_add 119, 0, 0)))))))
set_option maxRecDepth 20000 in
set_option maxHeartbeats 4000000 in
theorem te_279_44_ok : ∀ pc, e_EOq eft cls elay eI n_279 pc (te_279_44 pc) :=
  (e_Tok2
  (e_Tok2
  (e_Tok2
  (e_Tok2
  (e_Lok (e_st (I := eI) (er_icmpne (off := 8) (tg := 88) (x_dk dn_279_0_1_ok 19 rfl) (by decide)) nx_if2))
  (e_Lok (ld_iload_4 (x_dk dn_279_0_1_ok 20 rfl))))
  (e_Tok2
  (e_Lok (e_st (I := eI) (er_goto (off := 4) (tg := 89) (x_dk dn_279_0_1_ok 21 rfl) (by decide)) nx_goto))
  (e_Tok2
  (e_Lok (ps_iconst_0 (x_dk dn_279_0_1_ok 22 rfl)))
  (e_Lok (sm_iadd (x_dk dn_279_0_1_ok 23 rfl))))))
  (e_Tok2
  (e_Tok2
  (e_Lok (e_st (I := eI) (er_istore (i := 7) (x_dk dn_279_0_1_ok 24 rfl) (by decide +kernel)) nx_stor))
  (e_Tok2
  (e_Lok (ps_iconst_0 (x_dk dn_279_0_2_ok 0 rfl)))
  (e_Lok (e_st (I := eI) (er_istore (i := 8) (x_dk dn_279_0_2_ok 1 rfl) (by decide +kernel)) nx_stor))))
  (e_Tok2
  (e_Lok (ld_iload_8 (x_dk dn_279_0_2_ok 2 rfl)))
  (e_Tok2
  (e_Lok (ld_aload_n_0 (x_dk dn_279_0_2_ok 3 rfl)))
  (e_Lok (lk_12_43g ho_279 (x_dk dn_279_0_2_ok 4 rfl)))))))
  (e_Tok2
  (e_Tok2
  (e_Tok2
  (e_Lok (ld_iload_n_1 (x_dk dn_279_0_2_ok 5 rfl)))
  (e_Lok (sm_iaload (x_dk dn_279_0_2_ok 6 rfl))))
  (e_Tok2
  (e_Lok (e_st (I := eI) (er_icmpge (off := 59) (tg := 162) (x_dk dn_279_0_2_ok 7 rfl) (by decide)) nx_if2))
  (e_Tok2
  (e_Lok (ld_iload_7 (x_dk dn_279_0_2_ok 8 rfl)))
  (e_Lok (ld_aload_n_0 (x_dk dn_279_0_2_ok 9 rfl))))))
  (e_Tok2
  (e_Tok2
  (e_Lok (lk_12_61g ho_279 (x_dk dn_279_0_2_ok 10 rfl)))
  (e_Tok2
  (e_Lok (ps_bipush_6 (x_dk dn_279_0_2_ok 11 rfl)))
  (e_Lok (ld_iload_n_1 (x_dk dn_279_0_2_ok 12 rfl)))))
  (e_Tok2
  (e_Lok (sm_imul (x_dk dn_279_0_2_ok 13 rfl)))
  (e_Tok2
  (e_Lok (ld_iload_8 (x_dk dn_279_0_2_ok 14 rfl)))
  (e_Lok (sm_iadd (x_dk dn_279_0_2_ok 15 rfl))))))))
def te_279_66 : Nat → eE := (e_T 133 (e_T 126 (e_T 120 (e_T 119 (e_L 119 (0, ei_ald elay false 120, 0, 0)) (e_L 120 (0, ei_load 0 2 121, 0, 0))) (e_T 121 (e_L 121 (0, ei_getf eft elay 12 16 124, 0, 0)) (e_T 124 (e_L 124 (0, ei_push (0, 6) 126, 0, 0)) (e_L 126 (0, ei_load 1 0 127, 0, 0))))) (e_T 130 (e_T 127 (e_L 127 (0, ei_bin eF_mul 128, 0, 0)) (e_T 128 (e_L 128 (0, ei_load 8 0 130, 0, 0)) (e_L 130 (0, ei_bin eF_add 131, 0, 0)))) (e_T 131 (e_L 131 (0, ei_ald elay false 132, 0, 0)) (e_T 132 (e_L 132 (0, ei_push (0, 1) 133, 0, 0)) (e_L 133 (0, ei_if2 1 140 136, 0, 0)))))) (e_T 146 (e_T 140 (e_T 136 (e_L 136 (0, ei_push (0, 0) 137, 0, 0)) (e_T 137 (e_L 137 (0, ei_goto 152, 0, 0)) (e_L 140 (0, ei_load 0 2 141, 0, 0)))) (e_T 141 (e_L 141 (0, ei_getf eft elay 12 18 144, 0, 0)) (e_T 144 (e_L 144 (0, ei_push (0, 6) 146, 0, 0)) (e_L 146 (0, ei_load 1 0 147, 0, 0))))) (e_T 150 (e_T 147 (e_L 147 (0, ei_bin eF_mul 148, 0, 0)) (e_T 148 (e_L 148 (0, ei_load 8 0 150, 0, 0)) (e_L 150 (0, ei_bin eF_add 151, 0, 0)))) (e_T 151 (e_L 151 (0, ei_ald elay false 152, 0, 0)) (e_T 152 (e_L 152 (0, ei_bin eF_add 153, 0, 0)) (e_L 153 (0, ei_bin eF_add 154, 0, 0)))))))
set_option maxRecDepth 20000 in
set_option maxHeartbeats 4000000 in
theorem te_279_66_ok : ∀ pc, e_EOq eft cls elay eI n_279 pc (te_279_66 pc) :=
  (e_Tok2
  (e_Tok2
  (e_Tok2
  (e_Tok2
  (e_Lok (sm_iaload (x_dk dn_279_0_2_ok 16 rfl)))
  (e_Lok (ld_aload_n_0 (x_dk dn_279_0_2_ok 17 rfl))))
  (e_Tok2
  (e_Lok (lk_12_46g ho_279 (x_dk dn_279_0_2_ok 18 rfl)))
  (e_Tok2
  (e_Lok (ps_bipush_6 (x_dk dn_279_0_2_ok 19 rfl)))
  (e_Lok (ld_iload_n_1 (x_dk dn_279_0_2_ok 20 rfl))))))
  (e_Tok2
  (e_Tok2
  (e_Lok (sm_imul (x_dk dn_279_0_2_ok 21 rfl)))
  (e_Tok2
  (e_Lok (ld_iload_8 (x_dk dn_279_0_2_ok 22 rfl)))
  (e_Lok (sm_iadd (x_dk dn_279_0_2_ok 23 rfl)))))
  (e_Tok2
  (e_Lok (sm_iaload (x_dk dn_279_0_2_ok 24 rfl)))
  (e_Tok2
  (e_Lok (ps_iconst_1 (x_dk dn_279_0_3_ok 0 rfl)))
  (e_Lok (e_st (I := eI) (er_icmpne (off := 7) (tg := 140) (x_dk dn_279_0_3_ok 1 rfl) (by decide)) nx_if2))))))
  (e_Tok2
  (e_Tok2
  (e_Tok2
  (e_Lok (ps_iconst_0 (x_dk dn_279_0_3_ok 2 rfl)))
  (e_Tok2
  (e_Lok (e_st (I := eI) (er_goto (off := 15) (tg := 152) (x_dk dn_279_0_3_ok 3 rfl) (by decide)) nx_goto))
  (e_Lok (ld_aload_n_0 (x_dk dn_279_0_3_ok 4 rfl)))))
  (e_Tok2
  (e_Lok (lk_12_52g ho_279 (x_dk dn_279_0_3_ok 5 rfl)))
  (e_Tok2
  (e_Lok (ps_bipush_6 (x_dk dn_279_0_3_ok 6 rfl)))
  (e_Lok (ld_iload_n_1 (x_dk dn_279_0_3_ok 7 rfl))))))
  (e_Tok2
  (e_Tok2
  (e_Lok (sm_imul (x_dk dn_279_0_3_ok 8 rfl)))
  (e_Tok2
  (e_Lok (ld_iload_8 (x_dk dn_279_0_3_ok 9 rfl)))
  (e_Lok (sm_iadd (x_dk dn_279_0_3_ok 10 rfl)))))
  (e_Tok2
  (e_Lok (sm_iaload (x_dk dn_279_0_3_ok 11 rfl)))
  (e_Tok2
  (e_Lok (sm_iadd (x_dk dn_279_0_3_ok 12 rfl)))
  (e_Lok (sm_iadd (x_dk dn_279_0_3_ok 13 rfl))))))))
def te_279_89 : Nat → eE := (e_T 174 (e_T 163 (e_T 156 (e_T 154 (e_L 154 (0, ei_stor 7 0 156, 0, 0)) (e_L 156 (0, ei_inc 8 1 159, 0, 0))) (e_T 159 (e_L 159 (0, ei_goto 95, 0, 0)) (e_T 162 (e_L 162 (0, ei_load 2 0 163, 0, 0)) (e_L 163 (0, ei_push (0, 1) 164, 0, 0))))) (e_T 169 (e_T 164 (e_L 164 (0, ei_if2 1 174 167, 0, 0)) (e_T 167 (e_L 167 (0, ei_load 5 0 169, 0, 0)) (e_L 169 (0, ei_load 3 0 170, 0, 0)))) (e_T 170 (e_L 170 (0, ei_bin eF_add 171, 0, 0)) (e_T 171 (e_L 171 (0, ei_if1 2 182 174, 0, 0)) (e_L 174 (0, ei_load 7 0 176, 0, 0)))))) (e_T 184 (e_T 179 (e_T 176 (e_L 176 (0, ei_push (0, 8000) 179, 0, 0)) (e_L 179 (0, ei_if2 5 184 182, 0, 0))) (e_T 182 (e_L 182 (0, ei_push (0, (-1)) 183, 0, 0)) (e_T 183 (e_L 183 (1, e_nof, 1, 0)) (e_L 184 (0, ei_load 0 2 185, 0, 0))))) (e_T 191 (e_T 185 (e_L 185 (0, ei_getf eft elay 12 3 188, 0, 0)) (e_T 188 (e_L 188 (0, ei_if1 0 194 191, 0, 0)) (e_L 191 (0, ei_push (0, (-2)) 193, 0, 0)))) (e_T 193 (e_L 193 (1, e_nof, 1, 0)) (e_T 194 (e_L 194 (0, ei_load 0 2 195, 0, 0)) (e_L 195 (0, ei_getf eft elay 12 15 198, 0, 0)))))))
set_option maxRecDepth 20000 in
set_option maxHeartbeats 4000000 in
theorem te_279_89_ok : ∀ pc, e_EOq eft cls elay eI n_279 pc (te_279_89 pc) :=
  (e_Tok2
  (e_Tok2
  (e_Tok2
  (e_Tok2
  (e_Lok (e_st (I := eI) (er_istore (i := 7) (x_dk dn_279_0_3_ok 14 rfl) (by decide +kernel)) nx_stor))
  (e_Lok (e_st (I := eI) (er_iinc (i := 8) (n := 1) (x_dk dn_279_0_3_ok 15 rfl) (by decide +kernel) (by decide)) nx_inc)))
  (e_Tok2
  (e_Lok (e_st (I := eI) (er_goto (off := (-64)) (tg := 95) (x_dk dn_279_0_3_ok 16 rfl) (by decide)) nx_goto))
  (e_Tok2
  (e_Lok (ld_iload_n_2 (x_dk dn_279_0_3_ok 17 rfl)))
  (e_Lok (ps_iconst_1 (x_dk dn_279_0_3_ok 18 rfl))))))
  (e_Tok2
  (e_Tok2
  (e_Lok (e_st (I := eI) (er_icmpne (off := 10) (tg := 174) (x_dk dn_279_0_3_ok 19 rfl) (by decide)) nx_if2))
  (e_Tok2
  (e_Lok (ld_iload_5 (x_dk dn_279_0_3_ok 20 rfl)))
  (e_Lok (ld_iload_n_3 (x_dk dn_279_0_3_ok 21 rfl)))))
  (e_Tok2
  (e_Lok (sm_iadd (x_dk dn_279_0_3_ok 22 rfl)))
  (e_Tok2
  (e_Lok (e_st (I := eI) (er_iflt (off := 11) (tg := 182) (x_dk dn_279_0_3_ok 23 rfl) (by decide)) nx_if1))
  (e_Lok (ld_iload_7 (x_dk dn_279_0_3_ok 24 rfl)))))))
  (e_Tok2
  (e_Tok2
  (e_Tok2
  (e_Lok (ps_sipush_8000 (x_dk dn_279_1_0_ok 0 rfl)))
  (e_Lok (e_st (I := eI) (er_icmple (off := 5) (tg := 184) (x_dk dn_279_1_0_ok 1 rfl) (by decide)) nx_if2)))
  (e_Tok2
  (e_Lok (ps_iconst_m1 (x_dk dn_279_1_0_ok 2 rfl)))
  (e_Tok2
  (e_Lok (e_rt (I := eI) (k := 1) ⟨(x_dk dn_279_1_0_ok 3 rfl), rfl⟩))
  (e_Lok (ld_aload_n_0 (x_dk dn_279_1_0_ok 4 rfl))))))
  (e_Tok2
  (e_Tok2
  (e_Lok (lk_12_265g ho_279 (x_dk dn_279_1_0_ok 5 rfl)))
  (e_Tok2
  (e_Lok (e_st (I := eI) (er_ifeq (off := 6) (tg := 194) (x_dk dn_279_1_0_ok 6 rfl) (by decide)) nx_if1))
  (e_Lok (ps_bipush_m2 (x_dk dn_279_1_0_ok 7 rfl)))))
  (e_Tok2
  (e_Lok (e_rt (I := eI) (k := 1) ⟨(x_dk dn_279_1_0_ok 8 rfl), rfl⟩))
  (e_Tok2
  (e_Lok (ld_aload_n_0 (x_dk dn_279_1_0_ok 9 rfl)))
  (e_Lok (lk_12_43g ho_279 (x_dk dn_279_1_0_ok 10 rfl))))))))
def te_279_111 : Nat → eE := (e_T 213 (e_T 205 (e_T 199 (e_T 198 (e_L 198 (0, ei_load 1 0 199, 0, 0)) (e_L 199 (0, ei_ald elay false 200, 0, 0))) (e_T 200 (e_L 200 (0, ei_push (0, 6) 202, 0, 0)) (e_T 202 (e_L 202 (0, ei_if2 1 208 205, 0, 0)) (e_L 205 (0, ei_push (0, (-3)) 207, 0, 0))))) (e_T 210 (e_T 207 (e_L 207 (1, e_nof, 1, 0)) (e_T 208 (e_L 208 (0, ei_push (0, 6) 210, 0, 0)) (e_L 210 (0, ei_load 1 0 211, 0, 0)))) (e_T 211 (e_L 211 (0, ei_bin eF_mul 212, 0, 0)) (e_T 212 (e_L 212 (0, ei_load 0 2 213, 0, 0)) (e_L 213 (0, ei_getf eft elay 12 15 216, 0, 0)))))) (e_T 221 (e_T 217 (e_T 216 (e_L 216 (0, ei_load 1 0 217, 0, 0)) (e_L 217 (0, ei_ald elay false 218, 0, 0))) (e_T 218 (e_L 218 (0, ei_bin eF_add 219, 0, 0)) (e_T 219 (e_L 219 (0, ei_stor 8 0 221, 0, 0)) (e_L 221 (0, ei_load 0 2 222, 0, 0))))) (e_T 227 (e_T 222 (e_L 222 (0, ei_getf eft elay 12 16 225, 0, 0)) (e_T 225 (e_L 225 (0, ei_load 8 0 227, 0, 0)) (e_L 227 (0, ei_push (0, 1) 228, 0, 0)))) (e_T 228 (e_L 228 (0, ei_load 2 0 229, 0, 0)) (e_T 229 (e_L 229 (0, ei_bin eF_sub 230, 0, 0)) (e_L 230 (0, ei_ast elay false 231, 0, 0)))))))
set_option maxRecDepth 20000 in
set_option maxHeartbeats 4000000 in
theorem te_279_111_ok : ∀ pc, e_EOq eft cls elay eI n_279 pc (te_279_111 pc) :=
  (e_Tok2
  (e_Tok2
  (e_Tok2
  (e_Tok2
  (e_Lok (ld_iload_n_1 (x_dk dn_279_1_0_ok 11 rfl)))
  (e_Lok (sm_iaload (x_dk dn_279_1_0_ok 12 rfl))))
  (e_Tok2
  (e_Lok (ps_bipush_6 (x_dk dn_279_1_0_ok 13 rfl)))
  (e_Tok2
  (e_Lok (e_st (I := eI) (er_icmpne (off := 6) (tg := 208) (x_dk dn_279_1_0_ok 14 rfl) (by decide)) nx_if2))
  (e_Lok (ps_bipush_m3 (x_dk dn_279_1_0_ok 15 rfl))))))
  (e_Tok2
  (e_Tok2
  (e_Lok (e_rt (I := eI) (k := 1) ⟨(x_dk dn_279_1_0_ok 16 rfl), rfl⟩))
  (e_Tok2
  (e_Lok (ps_bipush_6 (x_dk dn_279_1_0_ok 17 rfl)))
  (e_Lok (ld_iload_n_1 (x_dk dn_279_1_0_ok 18 rfl)))))
  (e_Tok2
  (e_Lok (sm_imul (x_dk dn_279_1_0_ok 19 rfl)))
  (e_Tok2
  (e_Lok (ld_aload_n_0 (x_dk dn_279_1_0_ok 20 rfl)))
  (e_Lok (lk_12_43g ho_279 (x_dk dn_279_1_0_ok 21 rfl)))))))
  (e_Tok2
  (e_Tok2
  (e_Tok2
  (e_Lok (ld_iload_n_1 (x_dk dn_279_1_0_ok 22 rfl)))
  (e_Lok (sm_iaload (x_dk dn_279_1_0_ok 23 rfl))))
  (e_Tok2
  (e_Lok (sm_iadd (x_dk dn_279_1_0_ok 24 rfl)))
  (e_Tok2
  (e_Lok (e_st (I := eI) (er_istore (i := 8) (x_dk dn_279_1_1_ok 0 rfl) (by decide +kernel)) nx_stor))
  (e_Lok (ld_aload_n_0 (x_dk dn_279_1_1_ok 1 rfl))))))
  (e_Tok2
  (e_Tok2
  (e_Lok (lk_12_46g ho_279 (x_dk dn_279_1_1_ok 2 rfl)))
  (e_Tok2
  (e_Lok (ld_iload_8 (x_dk dn_279_1_1_ok 3 rfl)))
  (e_Lok (ps_iconst_1 (x_dk dn_279_1_1_ok 4 rfl)))))
  (e_Tok2
  (e_Lok (ld_iload_n_2 (x_dk dn_279_1_1_ok 5 rfl)))
  (e_Tok2
  (e_Lok (sm_isub (x_dk dn_279_1_1_ok 6 rfl)))
  (e_Lok (sm_iastore (x_dk dn_279_1_1_ok 7 rfl))))))))
def te_279_133 : Nat → eE := (e_T 248 (e_T 238 (e_T 232 (e_T 231 (e_L 231 (0, ei_load 0 2 232, 0, 0)) (e_L 232 (0, ei_getf eft elay 12 17 235, 0, 0))) (e_T 235 (e_L 235 (0, ei_load 8 0 237, 0, 0)) (e_T 237 (e_L 237 (0, ei_load 3 0 238, 0, 0)) (e_L 238 (0, ei_ast elay false 239, 0, 0))))) (e_T 243 (e_T 239 (e_L 239 (0, ei_load 0 2 240, 0, 0)) (e_T 240 (e_L 240 (0, ei_getf eft elay 12 18 243, 0, 0)) (e_L 243 (0, ei_load 8 0 245, 0, 0)))) (e_T 245 (e_L 245 (0, ei_load 4 0 247, 0, 0)) (e_T 247 (e_L 247 (0, ei_ast elay false 248, 0, 0)) (e_L 248 (0, ei_load 0 2 249, 0, 0)))))) (e_T 257 (e_T 252 (e_T 249 (e_L 249 (0, ei_getf eft elay 12 19 252, 0, 0)) (e_L 252 (0, ei_load 8 0 254, 0, 0))) (e_T 254 (e_L 254 (0, ei_push (0, 100) 256, 0, 0)) (e_T 256 (e_L 256 (0, ei_ast elay false 257, 0, 0)) (e_L 257 (0, ei_load 0 2 258, 0, 0))))) (e_T 263 (e_T 258 (e_L 258 (0, ei_getf eft elay 12 20 261, 0, 0)) (e_T 261 (e_L 261 (0, ei_load 8 0 263, 0, 0)) (e_L 263 (0, ei_push (0, 10) 265, 0, 0)))) (e_T 265 (e_L 265 (0, ei_ast elay false 266, 0, 0)) (e_T 266 (e_L 266 (0, ei_load 0 2 267, 0, 0)) (e_L 267 (0, ei_getf eft elay 12 21 270, 0, 0)))))))
set_option maxRecDepth 20000 in
set_option maxHeartbeats 4000000 in
theorem te_279_133_ok : ∀ pc, e_EOq eft cls elay eI n_279 pc (te_279_133 pc) :=
  (e_Tok2
  (e_Tok2
  (e_Tok2
  (e_Tok2
  (e_Lok (ld_aload_n_0 (x_dk dn_279_1_1_ok 8 rfl)))
  (e_Lok (lk_12_49g ho_279 (x_dk dn_279_1_1_ok 9 rfl))))
  (e_Tok2
  (e_Lok (ld_iload_8 (x_dk dn_279_1_1_ok 10 rfl)))
  (e_Tok2
  (e_Lok (ld_iload_n_3 (x_dk dn_279_1_1_ok 11 rfl)))
  (e_Lok (sm_iastore (x_dk dn_279_1_1_ok 12 rfl))))))
  (e_Tok2
  (e_Tok2
  (e_Lok (ld_aload_n_0 (x_dk dn_279_1_1_ok 13 rfl)))
  (e_Tok2
  (e_Lok (lk_12_52g ho_279 (x_dk dn_279_1_1_ok 14 rfl)))
  (e_Lok (ld_iload_8 (x_dk dn_279_1_1_ok 15 rfl)))))
  (e_Tok2
  (e_Lok (ld_iload_4 (x_dk dn_279_1_1_ok 16 rfl)))
  (e_Tok2
  (e_Lok (sm_iastore (x_dk dn_279_1_1_ok 17 rfl)))
  (e_Lok (ld_aload_n_0 (x_dk dn_279_1_1_ok 18 rfl)))))))
  (e_Tok2
  (e_Tok2
  (e_Tok2
  (e_Lok (lk_12_55g ho_279 (x_dk dn_279_1_1_ok 19 rfl)))
  (e_Lok (ld_iload_8 (x_dk dn_279_1_1_ok 20 rfl))))
  (e_Tok2
  (e_Lok (ps_bipush_100 (x_dk dn_279_1_1_ok 21 rfl)))
  (e_Tok2
  (e_Lok (sm_iastore (x_dk dn_279_1_1_ok 22 rfl)))
  (e_Lok (ld_aload_n_0 (x_dk dn_279_1_1_ok 23 rfl))))))
  (e_Tok2
  (e_Tok2
  (e_Lok (lk_12_58g ho_279 (x_dk dn_279_1_1_ok 24 rfl)))
  (e_Tok2
  (e_Lok (ld_iload_8 (x_dk dn_279_1_2_ok 0 rfl)))
  (e_Lok (ps_bipush_10 (x_dk dn_279_1_2_ok 1 rfl)))))
  (e_Tok2
  (e_Lok (sm_iastore (x_dk dn_279_1_2_ok 2 rfl)))
  (e_Tok2
  (e_Lok (ld_aload_n_0 (x_dk dn_279_1_2_ok 3 rfl)))
  (e_Lok (lk_12_61g ho_279 (x_dk dn_279_1_2_ok 4 rfl))))))))
def te_279_155 : Nat → eE := (e_T 287 (e_T 276 (e_T 272 (e_T 270 (e_L 270 (0, ei_load 8 0 272, 0, 0)) (e_L 272 (0, ei_load 5 0 274, 0, 0))) (e_T 274 (e_L 274 (0, ei_ast elay false 275, 0, 0)) (e_T 275 (e_L 275 (0, ei_load 0 2 276, 0, 0)) (e_L 276 (0, ei_getf eft elay 12 22 279, 0, 0))))) (e_T 282 (e_T 279 (e_L 279 (0, ei_load 8 0 281, 0, 0)) (e_T 281 (e_L 281 (0, ei_push (0, 0) 282, 0, 0)) (e_L 282 (0, ei_ast elay false 283, 0, 0)))) (e_T 283 (e_L 283 (0, ei_load 0 2 284, 0, 0)) (e_T 284 (e_L 284 (0, ei_getf eft elay 12 15 287, 0, 0)) (e_L 287 (0, ei_load 1 0 288, 0, 0)))))) (e_T 293 (e_T 290 (e_T 288 (e_L 288 (0, ei_stk ef_dup2 289, 0, 0)) (e_T 289 (e_L 289 (0, ei_ald elay false 290, 0, 0)) (e_L 290 (0, ei_push (0, 1) 291, 0, 0)))) (e_T 291 (e_L 291 (0, ei_bin eF_add 292, 0, 0)) (e_T 292 (e_L 292 (0, ei_ast elay false 293, 0, 0)) (e_L 293 (0, ei_load 0 2 294, 0, 0))))) (e_T 298 (e_T 294 (e_L 294 (0, ei_getf eft elay 12 15 297, 0, 0)) (e_T 297 (e_L 297 (0, ei_load 1 0 298, 0, 0)) (e_L 298 (0, ei_ald elay false 299, 0, 0)))) (e_T 299 (e_L 299 (0, ei_push (0, 1) 300, 0, 0)) (e_T 300 (e_L 300 (0, ei_bin eF_sub 301, 0, 0)) (e_L 301 (1, e_nof, 1, 0)))))))
set_option maxRecDepth 20000 in
set_option maxHeartbeats 4000000 in
theorem te_279_155_ok : ∀ pc, e_EOq eft cls elay eI n_279 pc (te_279_155 pc) :=
  (e_Tok2
  (e_Tok2
  (e_Tok2
  (e_Tok2
  (e_Lok (ld_iload_8 (x_dk dn_279_1_2_ok 5 rfl)))
  (e_Lok (ld_iload_5 (x_dk dn_279_1_2_ok 6 rfl))))
  (e_Tok2
  (e_Lok (sm_iastore (x_dk dn_279_1_2_ok 7 rfl)))
  (e_Tok2
  (e_Lok (ld_aload_n_0 (x_dk dn_279_1_2_ok 8 rfl)))
  (e_Lok (lk_12_64g ho_279 (x_dk dn_279_1_2_ok 9 rfl))))))
  (e_Tok2
  (e_Tok2
  (e_Lok (ld_iload_8 (x_dk dn_279_1_2_ok 10 rfl)))
  (e_Tok2
  (e_Lok (ps_iconst_0 (x_dk dn_279_1_2_ok 11 rfl)))
  (e_Lok (sm_iastore (x_dk dn_279_1_2_ok 12 rfl)))))
  (e_Tok2
  (e_Lok (ld_aload_n_0 (x_dk dn_279_1_2_ok 13 rfl)))
  (e_Tok2
  (e_Lok (lk_12_43g ho_279 (x_dk dn_279_1_2_ok 14 rfl)))
  (e_Lok (ld_iload_n_1 (x_dk dn_279_1_2_ok 15 rfl)))))))
  (e_Tok2
  (e_Tok2
  (e_Tok2
  (e_Lok (e_st (I := eI) (er_dup2 (x_dk dn_279_1_2_ok 16 rfl)) (nx_stk bf_dup2)))
  (e_Tok2
  (e_Lok (sm_iaload (x_dk dn_279_1_2_ok 17 rfl)))
  (e_Lok (ps_iconst_1 (x_dk dn_279_1_2_ok 18 rfl)))))
  (e_Tok2
  (e_Lok (sm_iadd (x_dk dn_279_1_2_ok 19 rfl)))
  (e_Tok2
  (e_Lok (sm_iastore (x_dk dn_279_1_2_ok 20 rfl)))
  (e_Lok (ld_aload_n_0 (x_dk dn_279_1_2_ok 21 rfl))))))
  (e_Tok2
  (e_Tok2
  (e_Lok (lk_12_43g ho_279 (x_dk dn_279_1_2_ok 22 rfl)))
  (e_Tok2
  (e_Lok (ld_iload_n_1 (x_dk dn_279_1_2_ok 23 rfl)))
  (e_Lok (sm_iaload (x_dk dn_279_1_2_ok 24 rfl)))))
  (e_Tok2
  (e_Lok (ps_iconst_1 (x_dk dn_279_1_3_ok 0 rfl)))
  (e_Tok2
  (e_Lok (sm_isub (x_dk dn_279_1_3_ok 1 rfl)))
  (e_Lok (e_rt (I := eI) (k := 1) ⟨(x_dk dn_279_1_3_ok 2 rfl), rfl⟩)))))))
def te_279 : Nat → eE := (e_T 153 (e_T 79 (e_T 39 te_279_0 te_279_22) (e_T 118 te_279_44 te_279_66)) (e_T 230 (e_T 195 te_279_89 te_279_111) (e_T 267 te_279_133 te_279_155)))
theorem te_279_ok : ∀ pc, e_EOq eft cls elay eI n_279 pc (te_279 pc) := (e_Tok2 ((e_Tok2 ((e_Tok2 (te_279_0_ok) (te_279_22_ok))) ((e_Tok2 (te_279_44_ok) (te_279_66_ok))))) ((e_Tok2 ((e_Tok2 (te_279_89_ok) (te_279_111_ok))) ((e_Tok2 (te_279_133_ok) (te_279_155_ok))))))
theorem ho_280 : (xm_y n_280).cls = "RobotCellHouseModel" := rfl
def dn_280_0_0 : List (Nat × Instr × Nat) := [(0, .aload_n 0, 1), (1, .iload_n 1, 1), (2, .iload_n 2, 1), (3, .invokevirtual 333, 3), (6, .ifCond .eq 15, 3), (9, .iload_n 3, 1), (10, .i2l, 1), (11, .lconst 0, 1), (12, .ldc2_w 330, 3), (15, .invokestatic 301, 3), (18, .ifCond .ne 5, 3), (21, .iconst (-1), 1), (22, .ireturn, 1), (23, .aload_n 0, 1), (24, .getfield 265, 3), (27, .ifCond .eq 6, 3), (30, .bipush (-2), 2), (32, .ireturn, 1), (33, .aload_n 0, 1), (34, .getfield 64, 3), (37, .bipush 6, 2), (39, .iload_n 1, 1), (40, .imul, 1), (41, .iload_n 2, 1), (42, .iadd, 1)]
set_option maxRecDepth 20000 in
theorem dn_280_0_0_ok : dn_280_0_0.all (fun q => decide (decode (xm_b n_280) q.1 = .ok (q.2.1, q.2.2))) = true := xa_g_ok (by decide +kernel)
def dn_280_0_1 : List (Nat × Instr × Nat) := [(43, .iaload, 1), (44, .istore 4, 2), (46, .aload_n 0, 1), (47, .getfield 64, 3), (50, .bipush 6, 2), (52, .iload_n 1, 1), (53, .imul, 1), (54, .iload_n 2, 1), (55, .iadd, 1), (56, .iload_n 3, 1), (57, .iastore, 1), (58, .iload 4, 2), (60, .ireturn, 1)]
set_option maxRecDepth 20000 in
theorem dn_280_0_1_ok : dn_280_0_1.all (fun q => decide (decode (xm_b n_280) q.1 = .ok (q.2.1, q.2.2))) = true := xa_g_ok (by decide +kernel)
def te_280_0 : Nat → eE := (e_T 33 (e_T 12 (e_T 3 (e_T 1 (e_T 0 (e_L 0 (0, ei_load 0 2 1, 0, 0)) (e_L 1 (0, ei_load 1 0 2, 0, 0))) (e_T 2 (e_L 2 (0, ei_load 2 0 3, 0, 0)) (e_L 3 (2, e_nof, 271, 3)))) (e_T 9 (e_T 6 (e_L 6 (0, ei_if1 0 21 9, 0, 0)) (e_L 9 (0, ei_load 3 0 10, 0, 0))) (e_T 10 (e_L 10 (0, ei_un (fun x => (4, x)) 11, 0, 0)) (e_T 11 (e_L 11 (0, ei_push (4, 0) 12, 0, 0)) (e_L 12 (0, ei_push (4, 800) 15, 0, 0)))))) (e_T 23 (e_T 18 (e_T 15 (e_L 15 (2, e_nof, 266, 3)) (e_L 18 (0, ei_if1 1 23 21, 0, 0))) (e_T 21 (e_L 21 (0, ei_push (0, (-1)) 22, 0, 0)) (e_T 22 (e_L 22 (1, e_nof, 1, 0)) (e_L 23 (0, ei_load 0 2 24, 0, 0))))) (e_T 27 (e_T 24 (e_L 24 (0, ei_getf eft elay 12 3 27, 0, 0)) (e_L 27 (0, ei_if1 0 33 30, 0, 0))) (e_T 30 (e_L 30 (0, ei_push (0, (-2)) 32, 0, 0)) (e_T 32 (e_L 32 (1, e_nof, 1, 0)) (e_L 33 (0, ei_load 0 2 34, 0, 0))))))) (e_T 46 (e_T 40 (e_T 37 (e_T 34 (e_L 34 (0, ei_getf eft elay 12 22 37, 0, 0)) (e_L 37 (0, ei_push (0, 6) 39, 0, 0))) (e_T 39 (e_L 39 (0, ei_load 1 0 40, 0, 0)) (e_L 40 (0, ei_bin eF_mul 41, 0, 0)))) (e_T 42 (e_T 41 (e_L 41 (0, ei_load 2 0 42, 0, 0)) (e_L 42 (0, ei_bin eF_add 43, 0, 0))) (e_T 43 (e_L 43 (0, ei_ald elay false 44, 0, 0)) (e_T 44 (e_L 44 (0, ei_stor 4 0 46, 0, 0)) (e_L 46 (0, ei_load 0 2 47, 0, 0)))))) (e_T 54 (e_T 50 (e_T 47 (e_L 47 (0, ei_getf eft elay 12 22 50, 0, 0)) (e_L 50 (0, ei_push (0, 6) 52, 0, 0))) (e_T 52 (e_L 52 (0, ei_load 1 0 53, 0, 0)) (e_T 53 (e_L 53 (0, ei_bin eF_mul 54, 0, 0)) (e_L 54 (0, ei_load 2 0 55, 0, 0))))) (e_T 56 (e_T 55 (e_L 55 (0, ei_bin eF_add 56, 0, 0)) (e_L 56 (0, ei_load 3 0 57, 0, 0))) (e_T 57 (e_L 57 (0, ei_ast elay false 58, 0, 0)) (e_T 58 (e_L 58 (0, ei_load 4 0 60, 0, 0)) (e_L 60 (1, e_nof, 1, 0))))))))
set_option maxRecDepth 20000 in
set_option maxHeartbeats 4000000 in
theorem te_280_0_ok : ∀ pc, e_EOq eft cls elay eI n_280 pc (te_280_0 pc) :=
  (e_Tok2
  (e_Tok2
  (e_Tok2
  (e_Tok2
  (e_Tok2
  (e_Lok (ld_aload_n_0 (x_dk dn_280_0_0_ok 0 rfl)))
  (e_Lok (ld_iload_n_1 (x_dk dn_280_0_0_ok 1 rfl))))
  (e_Tok2
  (e_Lok (ld_iload_n_2 (x_dk dn_280_0_0_ok 2 rfl)))
  (e_Lok (lk_12_333 ho_280 (x_dk dn_280_0_0_ok 3 rfl)))))
  (e_Tok2
  (e_Tok2
  (e_Lok (e_st (I := eI) (er_ifeq (off := 15) (tg := 21) (x_dk dn_280_0_0_ok 4 rfl) (by decide)) nx_if1))
  (e_Lok (ld_iload_n_3 (x_dk dn_280_0_0_ok 5 rfl))))
  (e_Tok2
  (e_Lok (e_st (I := eI) (er_i2l (x_dk dn_280_0_0_ok 6 rfl)) (nx_un (fun _ => rfl))))
  (e_Tok2
  (e_Lok (ps_lconst_0 (x_dk dn_280_0_0_ok 7 rfl)))
  (e_Lok (e_st (I := eI) (er_ldc2 (ix := 330) (z := 800) (v := 800) (x_dk dn_280_0_0_ok 8 rfl) (in_t11 (List.mem_of_getElem? (i := 19) rfl) rfl) (by decide)) (nx_push (Or.inl rfl))))))))
  (e_Tok2
  (e_Tok2
  (e_Tok2
  (e_Lok (lk_12_301 ho_280 (x_dk dn_280_0_0_ok 9 rfl)))
  (e_Lok (e_st (I := eI) (er_ifne (off := 5) (tg := 23) (x_dk dn_280_0_0_ok 10 rfl) (by decide)) nx_if1)))
  (e_Tok2
  (e_Lok (ps_iconst_m1 (x_dk dn_280_0_0_ok 11 rfl)))
  (e_Tok2
  (e_Lok (e_rt (I := eI) (k := 1) ⟨(x_dk dn_280_0_0_ok 12 rfl), rfl⟩))
  (e_Lok (ld_aload_n_0 (x_dk dn_280_0_0_ok 13 rfl))))))
  (e_Tok2
  (e_Tok2
  (e_Lok (lk_12_265g ho_280 (x_dk dn_280_0_0_ok 14 rfl)))
  (e_Lok (e_st (I := eI) (er_ifeq (off := 6) (tg := 33) (x_dk dn_280_0_0_ok 15 rfl) (by decide)) nx_if1)))
  (e_Tok2
  (e_Lok (ps_bipush_m2 (x_dk dn_280_0_0_ok 16 rfl)))
  (e_Tok2
  (e_Lok (e_rt (I := eI) (k := 1) ⟨(x_dk dn_280_0_0_ok 17 rfl), rfl⟩))
  (e_Lok (ld_aload_n_0 (x_dk dn_280_0_0_ok 18 rfl))))))))
  (e_Tok2
  (e_Tok2
  (e_Tok2
  (e_Tok2
  (e_Lok (lk_12_64g ho_280 (x_dk dn_280_0_0_ok 19 rfl)))
  (e_Lok (ps_bipush_6 (x_dk dn_280_0_0_ok 20 rfl))))
  (e_Tok2
  (e_Lok (ld_iload_n_1 (x_dk dn_280_0_0_ok 21 rfl)))
  (e_Lok (sm_imul (x_dk dn_280_0_0_ok 22 rfl)))))
  (e_Tok2
  (e_Tok2
  (e_Lok (ld_iload_n_2 (x_dk dn_280_0_0_ok 23 rfl)))
  (e_Lok (sm_iadd (x_dk dn_280_0_0_ok 24 rfl))))
  (e_Tok2
  (e_Lok (sm_iaload (x_dk dn_280_0_1_ok 0 rfl)))
  (e_Tok2
  (e_Lok (e_st (I := eI) (er_istore (i := 4) (x_dk dn_280_0_1_ok 1 rfl) (by decide +kernel)) nx_stor))
  (e_Lok (ld_aload_n_0 (x_dk dn_280_0_1_ok 2 rfl)))))))
  (e_Tok2
  (e_Tok2
  (e_Tok2
  (e_Lok (lk_12_64g ho_280 (x_dk dn_280_0_1_ok 3 rfl)))
  (e_Lok (ps_bipush_6 (x_dk dn_280_0_1_ok 4 rfl))))
  (e_Tok2
  (e_Lok (ld_iload_n_1 (x_dk dn_280_0_1_ok 5 rfl)))
  (e_Tok2
  (e_Lok (sm_imul (x_dk dn_280_0_1_ok 6 rfl)))
  (e_Lok (ld_iload_n_2 (x_dk dn_280_0_1_ok 7 rfl))))))
  (e_Tok2
  (e_Tok2
  (e_Lok (sm_iadd (x_dk dn_280_0_1_ok 8 rfl)))
  (e_Lok (ld_iload_n_3 (x_dk dn_280_0_1_ok 9 rfl))))
  (e_Tok2
  (e_Lok (sm_iastore (x_dk dn_280_0_1_ok 10 rfl)))
  (e_Tok2
  (e_Lok (ld_iload_4 (x_dk dn_280_0_1_ok 11 rfl)))
  (e_Lok (e_rt (I := eI) (k := 1) ⟨(x_dk dn_280_0_1_ok 12 rfl), rfl⟩))))))))
def te_280 : Nat → eE := te_280_0
theorem te_280_ok : ∀ pc, e_EOq eft cls elay eI n_280 pc (te_280 pc) := te_280_0_ok
theorem ho_281 : (xm_y n_281).cls = "RobotCellHouseModel" := rfl
def dn_281_0_0 : List (Nat × Instr × Nat) := [(0, .aload_n 0, 1), (1, .iload_n 1, 1), (2, .iload_n 2, 1), (3, .invokevirtual 333, 3), (6, .ifCond .eq 28, 3), (9, .iload_n 3, 1), (10, .i2l, 1), (11, .lconst 1, 1), (12, .ldc2_w 336, 3), (15, .invokestatic 301, 3), (18, .ifCond .eq 16, 3), (21, .iload 4, 2), (23, .i2l, 1), (24, .lconst 1, 1), (25, .ldc2_w 336, 3), (28, .invokestatic 301, 3), (31, .ifCond .ne 5, 3), (34, .iconst (-1), 1), (35, .ireturn, 1), (36, .aload_n 0, 1), (37, .getfield 265, 3), (40, .ifCond .eq 6, 3), (43, .bipush (-2), 2), (45, .ireturn, 1), (46, .aload_n 0, 1)]
set_option maxRecDepth 20000 in
theorem dn_281_0_0_ok : dn_281_0_0.all (fun q => decide (decode (xm_b n_281) q.1 = .ok (q.2.1, q.2.2))) = true := xa_g_ok (by decide +kernel)
def dn_281_0_1 : List (Nat × Instr × Nat) := [(47, .getfield 55, 3), (50, .bipush 6, 2), (52, .iload_n 1, 1), (53, .imul, 1), (54, .iload_n 2, 1), (55, .iadd, 1), (56, .iload_n 3, 1), (57, .iastore, 1), (58, .aload_n 0, 1), (59, .getfield 58, 3), (62, .bipush 6, 2), (64, .iload_n 1, 1), (65, .imul, 1), (66, .iload_n 2, 1), (67, .iadd, 1), (68, .iload 4, 2), (70, .iastore, 1), (71, .iconst 0, 1), (72, .ireturn, 1)]
set_option maxRecDepth 20000 in
theorem dn_281_0_1_ok : dn_281_0_1.all (fun q => decide (decode (xm_b n_281) q.1 = .ok (q.2.1, q.2.2))) = true := xa_g_ok (by decide +kernel)
def te_281_0 : Nat → eE := (e_T 18 (e_T 6 (e_T 1 (e_T 0 (e_L 0 (0, ei_load 0 2 1, 0, 0)) (e_L 1 (0, ei_load 1 0 2, 0, 0))) (e_T 2 (e_L 2 (0, ei_load 2 0 3, 0, 0)) (e_T 3 (e_L 3 (2, e_nof, 271, 3)) (e_L 6 (0, ei_if1 0 34 9, 0, 0))))) (e_T 11 (e_T 9 (e_L 9 (0, ei_load 3 0 10, 0, 0)) (e_T 10 (e_L 10 (0, ei_un (fun x => (4, x)) 11, 0, 0)) (e_L 11 (0, ei_push (4, 1) 12, 0, 0)))) (e_T 12 (e_L 12 (0, ei_push (4, 2000) 15, 0, 0)) (e_T 15 (e_L 15 (2, e_nof, 266, 3)) (e_L 18 (0, ei_if1 0 34 21, 0, 0)))))) (e_T 28 (e_T 23 (e_T 21 (e_L 21 (0, ei_load 4 0 23, 0, 0)) (e_L 23 (0, ei_un (fun x => (4, x)) 24, 0, 0))) (e_T 24 (e_L 24 (0, ei_push (4, 1) 25, 0, 0)) (e_T 25 (e_L 25 (0, ei_push (4, 2000) 28, 0, 0)) (e_L 28 (2, e_nof, 266, 3))))) (e_T 35 (e_T 31 (e_L 31 (0, ei_if1 1 36 34, 0, 0)) (e_T 34 (e_L 34 (0, ei_push (0, (-1)) 35, 0, 0)) (e_L 35 (1, e_nof, 1, 0)))) (e_T 36 (e_L 36 (0, ei_load 0 2 37, 0, 0)) (e_T 37 (e_L 37 (0, ei_getf eft elay 12 3 40, 0, 0)) (e_L 40 (0, ei_if1 0 46 43, 0, 0)))))))
set_option maxRecDepth 20000 in
set_option maxHeartbeats 4000000 in
theorem te_281_0_ok : ∀ pc, e_EOq eft cls elay eI n_281 pc (te_281_0 pc) :=
  (e_Tok2
  (e_Tok2
  (e_Tok2
  (e_Tok2
  (e_Lok (ld_aload_n_0 (x_dk dn_281_0_0_ok 0 rfl)))
  (e_Lok (ld_iload_n_1 (x_dk dn_281_0_0_ok 1 rfl))))
  (e_Tok2
  (e_Lok (ld_iload_n_2 (x_dk dn_281_0_0_ok 2 rfl)))
  (e_Tok2
  (e_Lok (lk_12_333 ho_281 (x_dk dn_281_0_0_ok 3 rfl)))
  (e_Lok (e_st (I := eI) (er_ifeq (off := 28) (tg := 34) (x_dk dn_281_0_0_ok 4 rfl) (by decide)) nx_if1)))))
  (e_Tok2
  (e_Tok2
  (e_Lok (ld_iload_n_3 (x_dk dn_281_0_0_ok 5 rfl)))
  (e_Tok2
  (e_Lok (e_st (I := eI) (er_i2l (x_dk dn_281_0_0_ok 6 rfl)) (nx_un (fun _ => rfl))))
  (e_Lok (ps_lconst_1 (x_dk dn_281_0_0_ok 7 rfl)))))
  (e_Tok2
  (e_Lok (e_st (I := eI) (er_ldc2 (ix := 336) (z := 2000) (v := 2000) (x_dk dn_281_0_0_ok 8 rfl) (in_t11 (List.mem_of_getElem? (i := 41) rfl) rfl) (by decide)) (nx_push (Or.inl rfl))))
  (e_Tok2
  (e_Lok (lk_12_301 ho_281 (x_dk dn_281_0_0_ok 9 rfl)))
  (e_Lok (e_st (I := eI) (er_ifeq (off := 16) (tg := 34) (x_dk dn_281_0_0_ok 10 rfl) (by decide)) nx_if1))))))
  (e_Tok2
  (e_Tok2
  (e_Tok2
  (e_Lok (ld_iload_4 (x_dk dn_281_0_0_ok 11 rfl)))
  (e_Lok (e_st (I := eI) (er_i2l (x_dk dn_281_0_0_ok 12 rfl)) (nx_un (fun _ => rfl)))))
  (e_Tok2
  (e_Lok (ps_lconst_1 (x_dk dn_281_0_0_ok 13 rfl)))
  (e_Tok2
  (e_Lok (e_st (I := eI) (er_ldc2 (ix := 336) (z := 2000) (v := 2000) (x_dk dn_281_0_0_ok 14 rfl) (in_t11 (List.mem_of_getElem? (i := 41) rfl) rfl) (by decide)) (nx_push (Or.inl rfl))))
  (e_Lok (lk_12_301 ho_281 (x_dk dn_281_0_0_ok 15 rfl))))))
  (e_Tok2
  (e_Tok2
  (e_Lok (e_st (I := eI) (er_ifne (off := 5) (tg := 36) (x_dk dn_281_0_0_ok 16 rfl) (by decide)) nx_if1))
  (e_Tok2
  (e_Lok (ps_iconst_m1 (x_dk dn_281_0_0_ok 17 rfl)))
  (e_Lok (e_rt (I := eI) (k := 1) ⟨(x_dk dn_281_0_0_ok 18 rfl), rfl⟩))))
  (e_Tok2
  (e_Lok (ld_aload_n_0 (x_dk dn_281_0_0_ok 19 rfl)))
  (e_Tok2
  (e_Lok (lk_12_265g ho_281 (x_dk dn_281_0_0_ok 20 rfl)))
  (e_Lok (e_st (I := eI) (er_ifeq (off := 6) (tg := 46) (x_dk dn_281_0_0_ok 21 rfl) (by decide)) nx_if1)))))))
def te_281_22 : Nat → eE := (e_T 57 (e_T 50 (e_T 45 (e_T 43 (e_L 43 (0, ei_push (0, (-2)) 45, 0, 0)) (e_L 45 (1, e_nof, 1, 0))) (e_T 46 (e_L 46 (0, ei_load 0 2 47, 0, 0)) (e_T 47 (e_L 47 (0, ei_getf eft elay 12 19 50, 0, 0)) (e_L 50 (0, ei_push (0, 6) 52, 0, 0))))) (e_T 54 (e_T 52 (e_L 52 (0, ei_load 1 0 53, 0, 0)) (e_T 53 (e_L 53 (0, ei_bin eF_mul 54, 0, 0)) (e_L 54 (0, ei_load 2 0 55, 0, 0)))) (e_T 55 (e_L 55 (0, ei_bin eF_add 56, 0, 0)) (e_T 56 (e_L 56 (0, ei_load 3 0 57, 0, 0)) (e_L 57 (0, ei_ast elay false 58, 0, 0)))))) (e_T 65 (e_T 59 (e_T 58 (e_L 58 (0, ei_load 0 2 59, 0, 0)) (e_L 59 (0, ei_getf eft elay 12 20 62, 0, 0))) (e_T 62 (e_L 62 (0, ei_push (0, 6) 64, 0, 0)) (e_T 64 (e_L 64 (0, ei_load 1 0 65, 0, 0)) (e_L 65 (0, ei_bin eF_mul 66, 0, 0))))) (e_T 68 (e_T 66 (e_L 66 (0, ei_load 2 0 67, 0, 0)) (e_T 67 (e_L 67 (0, ei_bin eF_add 68, 0, 0)) (e_L 68 (0, ei_load 4 0 70, 0, 0)))) (e_T 70 (e_L 70 (0, ei_ast elay false 71, 0, 0)) (e_T 71 (e_L 71 (0, ei_push (0, 0) 72, 0, 0)) (e_L 72 (1, e_nof, 1, 0)))))))
set_option maxRecDepth 20000 in
set_option maxHeartbeats 4000000 in
theorem te_281_22_ok : ∀ pc, e_EOq eft cls elay eI n_281 pc (te_281_22 pc) :=
  (e_Tok2
  (e_Tok2
  (e_Tok2
  (e_Tok2
  (e_Lok (ps_bipush_m2 (x_dk dn_281_0_0_ok 22 rfl)))
  (e_Lok (e_rt (I := eI) (k := 1) ⟨(x_dk dn_281_0_0_ok 23 rfl), rfl⟩)))
  (e_Tok2
  (e_Lok (ld_aload_n_0 (x_dk dn_281_0_0_ok 24 rfl)))
  (e_Tok2
  (e_Lok (lk_12_55g ho_281 (x_dk dn_281_0_1_ok 0 rfl)))
  (e_Lok (ps_bipush_6 (x_dk dn_281_0_1_ok 1 rfl))))))
  (e_Tok2
  (e_Tok2
  (e_Lok (ld_iload_n_1 (x_dk dn_281_0_1_ok 2 rfl)))
  (e_Tok2
  (e_Lok (sm_imul (x_dk dn_281_0_1_ok 3 rfl)))
  (e_Lok (ld_iload_n_2 (x_dk dn_281_0_1_ok 4 rfl)))))
  (e_Tok2
  (e_Lok (sm_iadd (x_dk dn_281_0_1_ok 5 rfl)))
  (e_Tok2
  (e_Lok (ld_iload_n_3 (x_dk dn_281_0_1_ok 6 rfl)))
  (e_Lok (sm_iastore (x_dk dn_281_0_1_ok 7 rfl)))))))
  (e_Tok2
  (e_Tok2
  (e_Tok2
  (e_Lok (ld_aload_n_0 (x_dk dn_281_0_1_ok 8 rfl)))
  (e_Lok (lk_12_58g ho_281 (x_dk dn_281_0_1_ok 9 rfl))))
  (e_Tok2
  (e_Lok (ps_bipush_6 (x_dk dn_281_0_1_ok 10 rfl)))
  (e_Tok2
  (e_Lok (ld_iload_n_1 (x_dk dn_281_0_1_ok 11 rfl)))
  (e_Lok (sm_imul (x_dk dn_281_0_1_ok 12 rfl))))))
  (e_Tok2
  (e_Tok2
  (e_Lok (ld_iload_n_2 (x_dk dn_281_0_1_ok 13 rfl)))
  (e_Tok2
  (e_Lok (sm_iadd (x_dk dn_281_0_1_ok 14 rfl)))
  (e_Lok (ld_iload_4 (x_dk dn_281_0_1_ok 15 rfl)))))
  (e_Tok2
  (e_Lok (sm_iastore (x_dk dn_281_0_1_ok 16 rfl)))
  (e_Tok2
  (e_Lok (ps_iconst_0 (x_dk dn_281_0_1_ok 17 rfl)))
  (e_Lok (e_rt (I := eI) (k := 1) ⟨(x_dk dn_281_0_1_ok 18 rfl), rfl⟩)))))))
def te_281 : Nat → eE := (e_T 40 te_281_0 te_281_22)
theorem te_281_ok : ∀ pc, e_EOq eft cls elay eI n_281 pc (te_281 pc) := (e_Tok2 (te_281_0_ok) (te_281_22_ok))
theorem ho_282 : (xm_y n_282).cls = "RobotCellHouseModel" := rfl
def dn_282_0_0 : List (Nat × Instr × Nat) := [(0, .aload_n 0, 1), (1, .getfield 265, 3), (4, .ifCond .eq 6, 3), (7, .bipush (-2), 2), (9, .ireturn, 1), (10, .aload_n 0, 1), (11, .getfield 273, 3), (14, .bipush 16, 2), (16, .if_icmp .ne 6, 3), (19, .bipush (-3), 2), (21, .ireturn, 1), (22, .aload_n 0, 1), (23, .getfield 67, 3), (26, .aload_n 0, 1), (27, .getfield 273, 3), (30, .iload_n 1, 1), (31, .bastore, 1), (32, .aload_n 0, 1), (33, .getfield 71, 3), (36, .aload_n 0, 1), (37, .getfield 273, 3), (40, .iload_n 2, 1), (41, .iastore, 1), (42, .aload_n 0, 1), (43, .getfield 74, 3)]
set_option maxRecDepth 20000 in
theorem dn_282_0_0_ok : dn_282_0_0.all (fun q => decide (decode (xm_b n_282) q.1 = .ok (q.2.1, q.2.2))) = true := xa_g_ok (by decide +kernel)
def dn_282_0_1 : List (Nat × Instr × Nat) := [(46, .aload_n 0, 1), (47, .getfield 273, 3), (50, .iload_n 3, 1), (51, .iastore, 1), (52, .aload_n 0, 1), (53, .getfield 77, 3), (56, .aload_n 0, 1), (57, .getfield 273, 3), (60, .iload 4, 2), (62, .iastore, 1), (63, .aload_n 0, 1), (64, .getfield 80, 3), (67, .aload_n 0, 1), (68, .getfield 273, 3), (71, .iload 5, 2), (73, .iastore, 1), (74, .aload_n 0, 1), (75, .dup, 1), (76, .getfield 273, 3), (79, .iconst 1, 1), (80, .iadd, 1), (81, .putfield 273, 3), (84, .aload_n 0, 1), (85, .getfield 273, 3), (88, .iconst 1, 1)]
set_option maxRecDepth 20000 in
theorem dn_282_0_1_ok : dn_282_0_1.all (fun q => decide (decode (xm_b n_282) q.1 = .ok (q.2.1, q.2.2))) = true := xa_g_ok (by decide +kernel)
def dn_282_0_2 : List (Nat × Instr × Nat) := [(89, .isub, 1), (90, .ireturn, 1)]
set_option maxRecDepth 20000 in
theorem dn_282_0_2_ok : dn_282_0_2.all (fun q => decide (decode (xm_b n_282) q.1 = .ok (q.2.1, q.2.2))) = true := xa_g_ok (by decide +kernel)
def te_282_0 : Nat → eE := (e_T 23 (e_T 10 (e_T 4 (e_T 0 (e_L 0 (0, ei_load 0 2 1, 0, 0)) (e_T 1 (e_L 1 (0, ei_getf eft elay 12 3 4, 0, 0)) (e_L 4 (0, ei_if1 0 10 7, 0, 0)))) (e_T 7 (e_L 7 (0, ei_push (0, (-2)) 9, 0, 0)) (e_T 9 (e_L 9 (1, e_nof, 1, 0)) (e_L 10 (0, ei_load 0 2 11, 0, 0))))) (e_T 16 (e_T 11 (e_L 11 (0, ei_getf eft elay 12 23 14, 0, 0)) (e_T 14 (e_L 14 (0, ei_push (0, 16) 16, 0, 0)) (e_L 16 (0, ei_if2 1 22 19, 0, 0)))) (e_T 21 (e_T 19 (e_L 19 (0, ei_push (0, (-3)) 21, 0, 0)) (e_L 21 (1, e_nof, 1, 0))) (e_T 22 (e_L 22 (0, ei_load 0 2 23, 0, 0)) (e_L 23 (0, ei_getf eft elay 12 24 26, 0, 0)))))) (e_T 33 (e_T 30 (e_T 26 (e_L 26 (0, ei_load 0 2 27, 0, 0)) (e_T 27 (e_L 27 (0, ei_getf eft elay 12 23 30, 0, 0)) (e_L 30 (0, ei_load 1 0 31, 0, 0)))) (e_T 31 (e_L 31 (0, ei_ast elay true 32, 0, 0)) (e_T 32 (e_L 32 (0, ei_load 0 2 33, 0, 0)) (e_L 33 (0, ei_getf eft elay 12 25 36, 0, 0))))) (e_T 40 (e_T 36 (e_L 36 (0, ei_load 0 2 37, 0, 0)) (e_T 37 (e_L 37 (0, ei_getf eft elay 12 23 40, 0, 0)) (e_L 40 (0, ei_load 2 0 41, 0, 0)))) (e_T 42 (e_T 41 (e_L 41 (0, ei_ast elay false 42, 0, 0)) (e_L 42 (0, ei_load 0 2 43, 0, 0))) (e_T 43 (e_L 43 (0, ei_getf eft elay 12 26 46, 0, 0)) (e_L 46 (0, ei_load 0 2 47, 0, 0)))))))
set_option maxRecDepth 20000 in
set_option maxHeartbeats 4000000 in
theorem te_282_0_ok : ∀ pc, e_EOq eft cls elay eI n_282 pc (te_282_0 pc) :=
  (e_Tok2
  (e_Tok2
  (e_Tok2
  (e_Tok2
  (e_Lok (ld_aload_n_0 (x_dk dn_282_0_0_ok 0 rfl)))
  (e_Tok2
  (e_Lok (lk_12_265g ho_282 (x_dk dn_282_0_0_ok 1 rfl)))
  (e_Lok (e_st (I := eI) (er_ifeq (off := 6) (tg := 10) (x_dk dn_282_0_0_ok 2 rfl) (by decide)) nx_if1))))
  (e_Tok2
  (e_Lok (ps_bipush_m2 (x_dk dn_282_0_0_ok 3 rfl)))
  (e_Tok2
  (e_Lok (e_rt (I := eI) (k := 1) ⟨(x_dk dn_282_0_0_ok 4 rfl), rfl⟩))
  (e_Lok (ld_aload_n_0 (x_dk dn_282_0_0_ok 5 rfl))))))
  (e_Tok2
  (e_Tok2
  (e_Lok (lk_12_273g ho_282 (x_dk dn_282_0_0_ok 6 rfl)))
  (e_Tok2
  (e_Lok (ps_bipush_16 (x_dk dn_282_0_0_ok 7 rfl)))
  (e_Lok (e_st (I := eI) (er_icmpne (off := 6) (tg := 22) (x_dk dn_282_0_0_ok 8 rfl) (by decide)) nx_if2))))
  (e_Tok2
  (e_Tok2
  (e_Lok (ps_bipush_m3 (x_dk dn_282_0_0_ok 9 rfl)))
  (e_Lok (e_rt (I := eI) (k := 1) ⟨(x_dk dn_282_0_0_ok 10 rfl), rfl⟩)))
  (e_Tok2
  (e_Lok (ld_aload_n_0 (x_dk dn_282_0_0_ok 11 rfl)))
  (e_Lok (lk_12_67g ho_282 (x_dk dn_282_0_0_ok 12 rfl)))))))
  (e_Tok2
  (e_Tok2
  (e_Tok2
  (e_Lok (ld_aload_n_0 (x_dk dn_282_0_0_ok 13 rfl)))
  (e_Tok2
  (e_Lok (lk_12_273g ho_282 (x_dk dn_282_0_0_ok 14 rfl)))
  (e_Lok (ld_iload_n_1 (x_dk dn_282_0_0_ok 15 rfl)))))
  (e_Tok2
  (e_Lok (e_st (I := eI) (er_bastore (x_dk dn_282_0_0_ok 16 rfl)) nx_ast))
  (e_Tok2
  (e_Lok (ld_aload_n_0 (x_dk dn_282_0_0_ok 17 rfl)))
  (e_Lok (lk_12_71g ho_282 (x_dk dn_282_0_0_ok 18 rfl))))))
  (e_Tok2
  (e_Tok2
  (e_Lok (ld_aload_n_0 (x_dk dn_282_0_0_ok 19 rfl)))
  (e_Tok2
  (e_Lok (lk_12_273g ho_282 (x_dk dn_282_0_0_ok 20 rfl)))
  (e_Lok (ld_iload_n_2 (x_dk dn_282_0_0_ok 21 rfl)))))
  (e_Tok2
  (e_Tok2
  (e_Lok (sm_iastore (x_dk dn_282_0_0_ok 22 rfl)))
  (e_Lok (ld_aload_n_0 (x_dk dn_282_0_0_ok 23 rfl))))
  (e_Tok2
  (e_Lok (lk_12_74g ho_282 (x_dk dn_282_0_0_ok 24 rfl)))
  (e_Lok (ld_aload_n_0 (x_dk dn_282_0_1_ok 0 rfl))))))))
def te_282_26 : Nat → eE := (e_T 68 (e_T 56 (e_T 51 (e_T 47 (e_L 47 (0, ei_getf eft elay 12 23 50, 0, 0)) (e_T 50 (e_L 50 (0, ei_load 3 0 51, 0, 0)) (e_L 51 (0, ei_ast elay false 52, 0, 0)))) (e_T 52 (e_L 52 (0, ei_load 0 2 53, 0, 0)) (e_T 53 (e_L 53 (0, ei_getf eft elay 12 27 56, 0, 0)) (e_L 56 (0, ei_load 0 2 57, 0, 0))))) (e_T 62 (e_T 57 (e_L 57 (0, ei_getf eft elay 12 23 60, 0, 0)) (e_T 60 (e_L 60 (0, ei_load 4 0 62, 0, 0)) (e_L 62 (0, ei_ast elay false 63, 0, 0)))) (e_T 64 (e_T 63 (e_L 63 (0, ei_load 0 2 64, 0, 0)) (e_L 64 (0, ei_getf eft elay 12 28 67, 0, 0))) (e_T 67 (e_L 67 (0, ei_load 0 2 68, 0, 0)) (e_L 68 (0, ei_getf eft elay 12 23 71, 0, 0)))))) (e_T 79 (e_T 74 (e_T 71 (e_L 71 (0, ei_load 5 0 73, 0, 0)) (e_T 73 (e_L 73 (0, ei_ast elay false 74, 0, 0)) (e_L 74 (0, ei_load 0 2 75, 0, 0)))) (e_T 75 (e_L 75 (0, ei_stk ef_dup 76, 0, 0)) (e_T 76 (e_L 76 (0, ei_getf eft elay 12 23 79, 0, 0)) (e_L 79 (0, ei_push (0, 1) 80, 0, 0))))) (e_T 84 (e_T 80 (e_L 80 (0, ei_bin eF_add 81, 0, 0)) (e_T 81 (e_L 81 (0, ei_putf eft elay 12 23 0 84, 0, 0)) (e_L 84 (0, ei_load 0 2 85, 0, 0)))) (e_T 88 (e_T 85 (e_L 85 (0, ei_getf eft elay 12 23 88, 0, 0)) (e_L 88 (0, ei_push (0, 1) 89, 0, 0))) (e_T 89 (e_L 89 (0, ei_bin eF_sub 90, 0, 0)) (e_L 90 (1, e_nof, 1, 0)))))))
set_option maxRecDepth 20000 in
set_option maxHeartbeats 4000000 in
theorem te_282_26_ok : ∀ pc, e_EOq eft cls elay eI n_282 pc (te_282_26 pc) :=
  (e_Tok2
  (e_Tok2
  (e_Tok2
  (e_Tok2
  (e_Lok (lk_12_273g ho_282 (x_dk dn_282_0_1_ok 1 rfl)))
  (e_Tok2
  (e_Lok (ld_iload_n_3 (x_dk dn_282_0_1_ok 2 rfl)))
  (e_Lok (sm_iastore (x_dk dn_282_0_1_ok 3 rfl)))))
  (e_Tok2
  (e_Lok (ld_aload_n_0 (x_dk dn_282_0_1_ok 4 rfl)))
  (e_Tok2
  (e_Lok (lk_12_77g ho_282 (x_dk dn_282_0_1_ok 5 rfl)))
  (e_Lok (ld_aload_n_0 (x_dk dn_282_0_1_ok 6 rfl))))))
  (e_Tok2
  (e_Tok2
  (e_Lok (lk_12_273g ho_282 (x_dk dn_282_0_1_ok 7 rfl)))
  (e_Tok2
  (e_Lok (ld_iload_4 (x_dk dn_282_0_1_ok 8 rfl)))
  (e_Lok (sm_iastore (x_dk dn_282_0_1_ok 9 rfl)))))
  (e_Tok2
  (e_Tok2
  (e_Lok (ld_aload_n_0 (x_dk dn_282_0_1_ok 10 rfl)))
  (e_Lok (lk_12_80g ho_282 (x_dk dn_282_0_1_ok 11 rfl))))
  (e_Tok2
  (e_Lok (ld_aload_n_0 (x_dk dn_282_0_1_ok 12 rfl)))
  (e_Lok (lk_12_273g ho_282 (x_dk dn_282_0_1_ok 13 rfl)))))))
  (e_Tok2
  (e_Tok2
  (e_Tok2
  (e_Lok (ld_iload_5 (x_dk dn_282_0_1_ok 14 rfl)))
  (e_Tok2
  (e_Lok (sm_iastore (x_dk dn_282_0_1_ok 15 rfl)))
  (e_Lok (ld_aload_n_0 (x_dk dn_282_0_1_ok 16 rfl)))))
  (e_Tok2
  (e_Lok (e_st (I := eI) (er_dup (x_dk dn_282_0_1_ok 17 rfl)) (nx_stk bf_dup)))
  (e_Tok2
  (e_Lok (lk_12_273g ho_282 (x_dk dn_282_0_1_ok 18 rfl)))
  (e_Lok (ps_iconst_1 (x_dk dn_282_0_1_ok 19 rfl))))))
  (e_Tok2
  (e_Tok2
  (e_Lok (sm_iadd (x_dk dn_282_0_1_ok 20 rfl)))
  (e_Tok2
  (e_Lok (lk_12_273p ho_282 (x_dk dn_282_0_1_ok 21 rfl)))
  (e_Lok (ld_aload_n_0 (x_dk dn_282_0_1_ok 22 rfl)))))
  (e_Tok2
  (e_Tok2
  (e_Lok (lk_12_273g ho_282 (x_dk dn_282_0_1_ok 23 rfl)))
  (e_Lok (ps_iconst_1 (x_dk dn_282_0_1_ok 24 rfl))))
  (e_Tok2
  (e_Lok (sm_isub (x_dk dn_282_0_2_ok 0 rfl)))
  (e_Lok (e_rt (I := eI) (k := 1) ⟨(x_dk dn_282_0_2_ok 1 rfl), rfl⟩)))))))
def te_282 : Nat → eE := (e_T 46 te_282_0 te_282_26)
theorem te_282_ok : ∀ pc, e_EOq eft cls elay eI n_282 pc (te_282 pc) := (e_Tok2 (te_282_0_ok) (te_282_26_ok))
end
end
-- part 41at
section
noncomputable section
theorem ho_283 : (xm_y n_283).cls = "RobotCellHouseModel" := rfl
def dn_283_0_0 : List (Nat × Instr × Nat) := [(0, .iload_n 1, 1), (1, .iload_n 2, 1), (2, .invokestatic 313, 3), (5, .ifCond .eq 27, 3), (8, .iload_n 3, 1), (9, .i2l, 1), (10, .lconst 0, 1), (11, .ldc2_w 326, 3), (14, .invokestatic 301, 3), (17, .ifCond .eq 15, 3), (20, .aload_n 0, 1), (21, .iconst 0, 1), (22, .iload_n 1, 1), (23, .iload_n 2, 1), (24, .iload_n 3, 1), (25, .iconst 0, 1), (26, .invokevirtual 338, 3), (29, .goto 4, 3), (32, .iconst (-1), 1), (33, .ireturn, 1)]
set_option maxRecDepth 20000 in
theorem dn_283_0_0_ok : dn_283_0_0.all (fun q => decide (decode (xm_b n_283) q.1 = .ok (q.2.1, q.2.2))) = true := xa_g_ok (by decide +kernel)
def te_283_0 : Nat → eE := (e_T 17 (e_T 8 (e_T 1 (e_T 0 (e_L 0 (0, ei_load 1 0 1, 0, 0)) (e_L 1 (0, ei_load 2 0 2, 0, 0))) (e_T 2 (e_L 2 (2, e_nof, 272, 2)) (e_T 5 (e_L 5 (0, ei_if1 0 32 8, 0, 0)) (e_L 8 (0, ei_load 3 0 9, 0, 0))))) (e_T 10 (e_T 9 (e_L 9 (0, ei_un (fun x => (4, x)) 10, 0, 0)) (e_L 10 (0, ei_push (4, 0) 11, 0, 0))) (e_T 11 (e_L 11 (0, ei_push (4, 8000) 14, 0, 0)) (e_T 14 (e_L 14 (2, e_nof, 266, 3)) (e_L 17 (0, ei_if1 0 32 20, 0, 0)))))) (e_T 24 (e_T 21 (e_T 20 (e_L 20 (0, ei_load 0 2 21, 0, 0)) (e_L 21 (0, ei_push (0, 0) 22, 0, 0))) (e_T 22 (e_L 22 (0, ei_load 1 0 23, 0, 0)) (e_T 23 (e_L 23 (0, ei_load 2 0 24, 0, 0)) (e_L 24 (0, ei_load 3 0 25, 0, 0))))) (e_T 26 (e_T 25 (e_L 25 (0, ei_push (0, 0) 26, 0, 0)) (e_L 26 (2, e_nof, 282, 6))) (e_T 29 (e_L 29 (0, ei_goto 33, 0, 0)) (e_T 32 (e_L 32 (0, ei_push (0, (-1)) 33, 0, 0)) (e_L 33 (1, e_nof, 1, 0)))))))
set_option maxRecDepth 20000 in
set_option maxHeartbeats 4000000 in
theorem te_283_0_ok : ∀ pc, e_EOq eft cls elay eI n_283 pc (te_283_0 pc) :=
  (e_Tok2
  (e_Tok2
  (e_Tok2
  (e_Tok2
  (e_Lok (ld_iload_n_1 (x_dk dn_283_0_0_ok 0 rfl)))
  (e_Lok (ld_iload_n_2 (x_dk dn_283_0_0_ok 1 rfl))))
  (e_Tok2
  (e_Lok (lk_12_313 ho_283 (x_dk dn_283_0_0_ok 2 rfl)))
  (e_Tok2
  (e_Lok (e_st (I := eI) (er_ifeq (off := 27) (tg := 32) (x_dk dn_283_0_0_ok 3 rfl) (by decide)) nx_if1))
  (e_Lok (ld_iload_n_3 (x_dk dn_283_0_0_ok 4 rfl))))))
  (e_Tok2
  (e_Tok2
  (e_Lok (e_st (I := eI) (er_i2l (x_dk dn_283_0_0_ok 5 rfl)) (nx_un (fun _ => rfl))))
  (e_Lok (ps_lconst_0 (x_dk dn_283_0_0_ok 6 rfl))))
  (e_Tok2
  (e_Lok (e_st (I := eI) (er_ldc2 (ix := 326) (z := 8000) (v := 8000) (x_dk dn_283_0_0_ok 7 rfl) (in_t11 (List.mem_of_getElem? (i := 17) rfl) rfl) (by decide)) (nx_push (Or.inl rfl))))
  (e_Tok2
  (e_Lok (lk_12_301 ho_283 (x_dk dn_283_0_0_ok 8 rfl)))
  (e_Lok (e_st (I := eI) (er_ifeq (off := 15) (tg := 32) (x_dk dn_283_0_0_ok 9 rfl) (by decide)) nx_if1))))))
  (e_Tok2
  (e_Tok2
  (e_Tok2
  (e_Lok (ld_aload_n_0 (x_dk dn_283_0_0_ok 10 rfl)))
  (e_Lok (ps_iconst_0 (x_dk dn_283_0_0_ok 11 rfl))))
  (e_Tok2
  (e_Lok (ld_iload_n_1 (x_dk dn_283_0_0_ok 12 rfl)))
  (e_Tok2
  (e_Lok (ld_iload_n_2 (x_dk dn_283_0_0_ok 13 rfl)))
  (e_Lok (ld_iload_n_3 (x_dk dn_283_0_0_ok 14 rfl))))))
  (e_Tok2
  (e_Tok2
  (e_Lok (ps_iconst_0 (x_dk dn_283_0_0_ok 15 rfl)))
  (e_Lok (lk_12_338 ho_283 (x_dk dn_283_0_0_ok 16 rfl))))
  (e_Tok2
  (e_Lok (e_st (I := eI) (er_goto (off := 4) (tg := 33) (x_dk dn_283_0_0_ok 17 rfl) (by decide)) nx_goto))
  (e_Tok2
  (e_Lok (ps_iconst_m1 (x_dk dn_283_0_0_ok 18 rfl)))
  (e_Lok (e_rt (I := eI) (k := 1) ⟨(x_dk dn_283_0_0_ok 19 rfl), rfl⟩)))))))
def te_283 : Nat → eE := te_283_0
theorem te_283_ok : ∀ pc, e_EOq eft cls elay eI n_283 pc (te_283 pc) := te_283_0_ok
theorem ho_284 : (xm_y n_284).cls = "RobotCellHouseModel" := rfl
def dn_284_0_0 : List (Nat × Instr × Nat) := [(0, .iload_n 1, 1), (1, .iload_n 2, 1), (2, .iload_n 3, 1), (3, .iload 4, 2), (5, .invokestatic 342, 3), (8, .ifCond .eq 16, 3), (11, .aload_n 0, 1), (12, .iconst 1, 1), (13, .iload_n 1, 1), (14, .iload_n 2, 1), (15, .iload_n 3, 1), (16, .iload 4, 2), (18, .invokevirtual 338, 3), (21, .goto 4, 3), (24, .iconst (-1), 1), (25, .ireturn, 1)]
set_option maxRecDepth 20000 in
theorem dn_284_0_0_ok : dn_284_0_0.all (fun q => decide (decode (xm_b n_284) q.1 = .ok (q.2.1, q.2.2))) = true := xa_g_ok (by decide +kernel)
def te_284_0 : Nat → eE := (e_T 12 (e_T 3 (e_T 1 (e_T 0 (e_L 0 (0, ei_load 1 0 1, 0, 0)) (e_L 1 (0, ei_load 2 0 2, 0, 0))) (e_T 2 (e_L 2 (0, ei_load 3 0 3, 0, 0)) (e_L 3 (0, ei_load 4 0 5, 0, 0)))) (e_T 8 (e_T 5 (e_L 5 (2, e_nof, 273, 4)) (e_L 8 (0, ei_if1 0 24 11, 0, 0))) (e_T 11 (e_L 11 (0, ei_load 0 2 12, 0, 0)) (e_L 12 (0, ei_push (0, 1) 13, 0, 0))))) (e_T 16 (e_T 14 (e_T 13 (e_L 13 (0, ei_load 1 0 14, 0, 0)) (e_L 14 (0, ei_load 2 0 15, 0, 0))) (e_T 15 (e_L 15 (0, ei_load 3 0 16, 0, 0)) (e_L 16 (0, ei_load 4 0 18, 0, 0)))) (e_T 21 (e_T 18 (e_L 18 (2, e_nof, 282, 6)) (e_L 21 (0, ei_goto 25, 0, 0))) (e_T 24 (e_L 24 (0, ei_push (0, (-1)) 25, 0, 0)) (e_L 25 (1, e_nof, 1, 0))))))
set_option maxRecDepth 20000 in
set_option maxHeartbeats 4000000 in
theorem te_284_0_ok : ∀ pc, e_EOq eft cls elay eI n_284 pc (te_284_0 pc) :=
  (e_Tok2
  (e_Tok2
  (e_Tok2
  (e_Tok2
  (e_Lok (ld_iload_n_1 (x_dk dn_284_0_0_ok 0 rfl)))
  (e_Lok (ld_iload_n_2 (x_dk dn_284_0_0_ok 1 rfl))))
  (e_Tok2
  (e_Lok (ld_iload_n_3 (x_dk dn_284_0_0_ok 2 rfl)))
  (e_Lok (ld_iload_4 (x_dk dn_284_0_0_ok 3 rfl)))))
  (e_Tok2
  (e_Tok2
  (e_Lok (lk_12_342 ho_284 (x_dk dn_284_0_0_ok 4 rfl)))
  (e_Lok (e_st (I := eI) (er_ifeq (off := 16) (tg := 24) (x_dk dn_284_0_0_ok 5 rfl) (by decide)) nx_if1)))
  (e_Tok2
  (e_Lok (ld_aload_n_0 (x_dk dn_284_0_0_ok 6 rfl)))
  (e_Lok (ps_iconst_1 (x_dk dn_284_0_0_ok 7 rfl))))))
  (e_Tok2
  (e_Tok2
  (e_Tok2
  (e_Lok (ld_iload_n_1 (x_dk dn_284_0_0_ok 8 rfl)))
  (e_Lok (ld_iload_n_2 (x_dk dn_284_0_0_ok 9 rfl))))
  (e_Tok2
  (e_Lok (ld_iload_n_3 (x_dk dn_284_0_0_ok 10 rfl)))
  (e_Lok (ld_iload_4 (x_dk dn_284_0_0_ok 11 rfl)))))
  (e_Tok2
  (e_Tok2
  (e_Lok (lk_12_338 ho_284 (x_dk dn_284_0_0_ok 12 rfl)))
  (e_Lok (e_st (I := eI) (er_goto (off := 4) (tg := 25) (x_dk dn_284_0_0_ok 13 rfl) (by decide)) nx_goto)))
  (e_Tok2
  (e_Lok (ps_iconst_m1 (x_dk dn_284_0_0_ok 14 rfl)))
  (e_Lok (e_rt (I := eI) (k := 1) ⟨(x_dk dn_284_0_0_ok 15 rfl), rfl⟩))))))
def te_284 : Nat → eE := te_284_0
theorem te_284_ok : ∀ pc, e_EOq eft cls elay eI n_284 pc (te_284 pc) := te_284_0_ok
theorem ho_285 : (xm_y n_285).cls = "RobotCellHouseModel" := rfl
def dn_285_0_0 : List (Nat × Instr × Nat) := [(0, .aload_n 0, 1), (1, .iload_n 1, 1), (2, .invokevirtual 305, 3), (5, .ifCond .eq 31, 3), (8, .iload_n 2, 1), (9, .i2l, 1), (10, .lconst 0, 1), (11, .ldc2_w 346, 3), (14, .invokestatic 301, 3), (17, .ifCond .eq 19, 3), (20, .iload_n 3, 1), (21, .i2l, 1), (22, .lconst 0, 1), (23, .aload_n 0, 1), (24, .getfield 273, 3), (27, .iconst 1, 1), (28, .isub, 1), (29, .i2l, 1), (30, .invokestatic 301, 3), (33, .ifCond .ne 5, 3), (36, .iconst (-1), 1), (37, .ireturn, 1), (38, .aload_n 0, 1), (39, .getfield 265, 3), (42, .ifCond .eq 6, 3)]
set_option maxRecDepth 20000 in
theorem dn_285_0_0_ok : dn_285_0_0.all (fun q => decide (decode (xm_b n_285) q.1 = .ok (q.2.1, q.2.2))) = true := xa_g_ok (by decide +kernel)
def dn_285_0_1 : List (Nat × Instr × Nat) := [(45, .bipush (-2), 2), (47, .ireturn, 1), (48, .bipush 112, 2), (50, .iload_n 1, 1), (51, .imul, 1), (52, .bipush 16, 2), (54, .iload_n 2, 1), (55, .imul, 1), (56, .iadd, 1), (57, .iload_n 3, 1), (58, .iadd, 1), (59, .istore 4, 2), (61, .aload_n 0, 1), (62, .getfield 83, 3), (65, .iload 4, 2), (67, .baload, 1), (68, .ifCond .eq 7, 3), (71, .iconst 0, 1), (72, .goto 4, 3), (75, .iconst 1, 1), (76, .istore 5, 2), (78, .aload_n 0, 1), (79, .getfield 83, 3), (82, .iload 4, 2), (84, .iconst 1, 1)]
set_option maxRecDepth 20000 in
theorem dn_285_0_1_ok : dn_285_0_1.all (fun q => decide (decode (xm_b n_285) q.1 = .ok (q.2.1, q.2.2))) = true := xa_g_ok (by decide +kernel)
def dn_285_0_2 : List (Nat × Instr × Nat) := [(85, .bastore, 1), (86, .iload 5, 2), (88, .ireturn, 1)]
set_option maxRecDepth 20000 in
theorem dn_285_0_2_ok : dn_285_0_2.all (fun q => decide (decode (xm_b n_285) q.1 = .ok (q.2.1, q.2.2))) = true := xa_g_ok (by decide +kernel)
def te_285_0 : Nat → eE := (e_T 22 (e_T 9 (e_T 2 (e_T 0 (e_L 0 (0, ei_load 0 2 1, 0, 0)) (e_T 1 (e_L 1 (0, ei_load 1 0 2, 0, 0)) (e_L 2 (2, e_nof, 270, 2)))) (e_T 5 (e_L 5 (0, ei_if1 0 36 8, 0, 0)) (e_T 8 (e_L 8 (0, ei_load 2 0 9, 0, 0)) (e_L 9 (0, ei_un (fun x => (4, x)) 10, 0, 0))))) (e_T 14 (e_T 10 (e_L 10 (0, ei_push (4, 0) 11, 0, 0)) (e_T 11 (e_L 11 (0, ei_push (4, 6) 14, 0, 0)) (e_L 14 (2, e_nof, 266, 3)))) (e_T 20 (e_T 17 (e_L 17 (0, ei_if1 0 36 20, 0, 0)) (e_L 20 (0, ei_load 3 0 21, 0, 0))) (e_T 21 (e_L 21 (0, ei_un (fun x => (4, x)) 22, 0, 0)) (e_L 22 (0, ei_push (4, 0) 23, 0, 0)))))) (e_T 30 (e_T 27 (e_T 23 (e_L 23 (0, ei_load 0 2 24, 0, 0)) (e_T 24 (e_L 24 (0, ei_getf eft elay 12 23 27, 0, 0)) (e_L 27 (0, ei_push (0, 1) 28, 0, 0)))) (e_T 28 (e_L 28 (0, ei_bin eF_sub 29, 0, 0)) (e_T 29 (e_L 29 (0, ei_un (fun x => (4, x)) 30, 0, 0)) (e_L 30 (2, e_nof, 266, 3))))) (e_T 37 (e_T 33 (e_L 33 (0, ei_if1 1 38 36, 0, 0)) (e_T 36 (e_L 36 (0, ei_push (0, (-1)) 37, 0, 0)) (e_L 37 (1, e_nof, 1, 0)))) (e_T 39 (e_T 38 (e_L 38 (0, ei_load 0 2 39, 0, 0)) (e_L 39 (0, ei_getf eft elay 12 3 42, 0, 0))) (e_T 42 (e_L 42 (0, ei_if1 0 48 45, 0, 0)) (e_L 45 (0, ei_push (0, (-2)) 47, 0, 0)))))))
set_option maxRecDepth 20000 in
set_option maxHeartbeats 4000000 in
theorem te_285_0_ok : ∀ pc, e_EOq eft cls elay eI n_285 pc (te_285_0 pc) :=
  (e_Tok2
  (e_Tok2
  (e_Tok2
  (e_Tok2
  (e_Lok (ld_aload_n_0 (x_dk dn_285_0_0_ok 0 rfl)))
  (e_Tok2
  (e_Lok (ld_iload_n_1 (x_dk dn_285_0_0_ok 1 rfl)))
  (e_Lok (lk_12_305 ho_285 (x_dk dn_285_0_0_ok 2 rfl)))))
  (e_Tok2
  (e_Lok (e_st (I := eI) (er_ifeq (off := 31) (tg := 36) (x_dk dn_285_0_0_ok 3 rfl) (by decide)) nx_if1))
  (e_Tok2
  (e_Lok (ld_iload_n_2 (x_dk dn_285_0_0_ok 4 rfl)))
  (e_Lok (e_st (I := eI) (er_i2l (x_dk dn_285_0_0_ok 5 rfl)) (nx_un (fun _ => rfl)))))))
  (e_Tok2
  (e_Tok2
  (e_Lok (ps_lconst_0 (x_dk dn_285_0_0_ok 6 rfl)))
  (e_Tok2
  (e_Lok (e_st (I := eI) (er_ldc2 (ix := 346) (z := 6) (v := 6) (x_dk dn_285_0_0_ok 7 rfl) (in_t11 (List.mem_of_getElem? (i := 66) rfl) rfl) (by decide)) (nx_push (Or.inl rfl))))
  (e_Lok (lk_12_301 ho_285 (x_dk dn_285_0_0_ok 8 rfl)))))
  (e_Tok2
  (e_Tok2
  (e_Lok (e_st (I := eI) (er_ifeq (off := 19) (tg := 36) (x_dk dn_285_0_0_ok 9 rfl) (by decide)) nx_if1))
  (e_Lok (ld_iload_n_3 (x_dk dn_285_0_0_ok 10 rfl))))
  (e_Tok2
  (e_Lok (e_st (I := eI) (er_i2l (x_dk dn_285_0_0_ok 11 rfl)) (nx_un (fun _ => rfl))))
  (e_Lok (ps_lconst_0 (x_dk dn_285_0_0_ok 12 rfl)))))))
  (e_Tok2
  (e_Tok2
  (e_Tok2
  (e_Lok (ld_aload_n_0 (x_dk dn_285_0_0_ok 13 rfl)))
  (e_Tok2
  (e_Lok (lk_12_273g ho_285 (x_dk dn_285_0_0_ok 14 rfl)))
  (e_Lok (ps_iconst_1 (x_dk dn_285_0_0_ok 15 rfl)))))
  (e_Tok2
  (e_Lok (sm_isub (x_dk dn_285_0_0_ok 16 rfl)))
  (e_Tok2
  (e_Lok (e_st (I := eI) (er_i2l (x_dk dn_285_0_0_ok 17 rfl)) (nx_un (fun _ => rfl))))
  (e_Lok (lk_12_301 ho_285 (x_dk dn_285_0_0_ok 18 rfl))))))
  (e_Tok2
  (e_Tok2
  (e_Lok (e_st (I := eI) (er_ifne (off := 5) (tg := 38) (x_dk dn_285_0_0_ok 19 rfl) (by decide)) nx_if1))
  (e_Tok2
  (e_Lok (ps_iconst_m1 (x_dk dn_285_0_0_ok 20 rfl)))
  (e_Lok (e_rt (I := eI) (k := 1) ⟨(x_dk dn_285_0_0_ok 21 rfl), rfl⟩))))
  (e_Tok2
  (e_Tok2
  (e_Lok (ld_aload_n_0 (x_dk dn_285_0_0_ok 22 rfl)))
  (e_Lok (lk_12_265g ho_285 (x_dk dn_285_0_0_ok 23 rfl))))
  (e_Tok2
  (e_Lok (e_st (I := eI) (er_ifeq (off := 6) (tg := 48) (x_dk dn_285_0_0_ok 24 rfl) (by decide)) nx_if1))
  (e_Lok (ps_bipush_m2 (x_dk dn_285_0_1_ok 0 rfl))))))))
def te_285_26 : Nat → eE := (e_T 62 (e_T 54 (e_T 50 (e_T 47 (e_L 47 (1, e_nof, 1, 0)) (e_T 48 (e_L 48 (0, ei_push (0, 112) 50, 0, 0)) (e_L 50 (0, ei_load 1 0 51, 0, 0)))) (e_T 51 (e_L 51 (0, ei_bin eF_mul 52, 0, 0)) (e_T 52 (e_L 52 (0, ei_push (0, 16) 54, 0, 0)) (e_L 54 (0, ei_load 2 0 55, 0, 0))))) (e_T 57 (e_T 55 (e_L 55 (0, ei_bin eF_mul 56, 0, 0)) (e_T 56 (e_L 56 (0, ei_bin eF_add 57, 0, 0)) (e_L 57 (0, ei_load 3 0 58, 0, 0)))) (e_T 59 (e_T 58 (e_L 58 (0, ei_bin eF_add 59, 0, 0)) (e_L 59 (0, ei_stor 4 0 61, 0, 0))) (e_T 61 (e_L 61 (0, ei_load 0 2 62, 0, 0)) (e_L 62 (0, ei_getf eft elay 12 29 65, 0, 0)))))) (e_T 76 (e_T 68 (e_T 65 (e_L 65 (0, ei_load 4 0 67, 0, 0)) (e_T 67 (e_L 67 (0, ei_ald elay true 68, 0, 0)) (e_L 68 (0, ei_if1 0 75 71, 0, 0)))) (e_T 72 (e_T 71 (e_L 71 (0, ei_push (0, 0) 72, 0, 0)) (e_L 72 (0, ei_goto 76, 0, 0))) (e_T 75 (e_L 75 (0, ei_push (0, 1) 76, 0, 0)) (e_L 76 (0, ei_stor 5 0 78, 0, 0))))) (e_T 82 (e_T 78 (e_L 78 (0, ei_load 0 2 79, 0, 0)) (e_T 79 (e_L 79 (0, ei_getf eft elay 12 29 82, 0, 0)) (e_L 82 (0, ei_load 4 0 84, 0, 0)))) (e_T 85 (e_T 84 (e_L 84 (0, ei_push (0, 1) 85, 0, 0)) (e_L 85 (0, ei_ast elay true 86, 0, 0))) (e_T 86 (e_L 86 (0, ei_load 5 0 88, 0, 0)) (e_L 88 (1, e_nof, 1, 0)))))))
set_option maxRecDepth 20000 in
set_option maxHeartbeats 4000000 in
theorem te_285_26_ok : ∀ pc, e_EOq eft cls elay eI n_285 pc (te_285_26 pc) :=
  (e_Tok2
  (e_Tok2
  (e_Tok2
  (e_Tok2
  (e_Lok (e_rt (I := eI) (k := 1) ⟨(x_dk dn_285_0_1_ok 1 rfl), rfl⟩))
  (e_Tok2
  (e_Lok (ps_bipush_112 (x_dk dn_285_0_1_ok 2 rfl)))
  (e_Lok (ld_iload_n_1 (x_dk dn_285_0_1_ok 3 rfl)))))
  (e_Tok2
  (e_Lok (sm_imul (x_dk dn_285_0_1_ok 4 rfl)))
  (e_Tok2
  (e_Lok (ps_bipush_16 (x_dk dn_285_0_1_ok 5 rfl)))
  (e_Lok (ld_iload_n_2 (x_dk dn_285_0_1_ok 6 rfl))))))
  (e_Tok2
  (e_Tok2
  (e_Lok (sm_imul (x_dk dn_285_0_1_ok 7 rfl)))
  (e_Tok2
  (e_Lok (sm_iadd (x_dk dn_285_0_1_ok 8 rfl)))
  (e_Lok (ld_iload_n_3 (x_dk dn_285_0_1_ok 9 rfl)))))
  (e_Tok2
  (e_Tok2
  (e_Lok (sm_iadd (x_dk dn_285_0_1_ok 10 rfl)))
  (e_Lok (e_st (I := eI) (er_istore (i := 4) (x_dk dn_285_0_1_ok 11 rfl) (by decide +kernel)) nx_stor)))
  (e_Tok2
  (e_Lok (ld_aload_n_0 (x_dk dn_285_0_1_ok 12 rfl)))
  (e_Lok (lk_12_83g ho_285 (x_dk dn_285_0_1_ok 13 rfl)))))))
  (e_Tok2
  (e_Tok2
  (e_Tok2
  (e_Lok (ld_iload_4 (x_dk dn_285_0_1_ok 14 rfl)))
  (e_Tok2
  (e_Lok (e_st (I := eI) (er_baload (x_dk dn_285_0_1_ok 15 rfl)) nx_ald))
  (e_Lok (e_st (I := eI) (er_ifeq (off := 7) (tg := 75) (x_dk dn_285_0_1_ok 16 rfl) (by decide)) nx_if1))))
  (e_Tok2
  (e_Tok2
  (e_Lok (ps_iconst_0 (x_dk dn_285_0_1_ok 17 rfl)))
  (e_Lok (e_st (I := eI) (er_goto (off := 4) (tg := 76) (x_dk dn_285_0_1_ok 18 rfl) (by decide)) nx_goto)))
  (e_Tok2
  (e_Lok (ps_iconst_1 (x_dk dn_285_0_1_ok 19 rfl)))
  (e_Lok (e_st (I := eI) (er_istore (i := 5) (x_dk dn_285_0_1_ok 20 rfl) (by decide +kernel)) nx_stor)))))
  (e_Tok2
  (e_Tok2
  (e_Lok (ld_aload_n_0 (x_dk dn_285_0_1_ok 21 rfl)))
  (e_Tok2
  (e_Lok (lk_12_83g ho_285 (x_dk dn_285_0_1_ok 22 rfl)))
  (e_Lok (ld_iload_4 (x_dk dn_285_0_1_ok 23 rfl)))))
  (e_Tok2
  (e_Tok2
  (e_Lok (ps_iconst_1 (x_dk dn_285_0_1_ok 24 rfl)))
  (e_Lok (e_st (I := eI) (er_bastore (x_dk dn_285_0_2_ok 0 rfl)) nx_ast)))
  (e_Tok2
  (e_Lok (ld_iload_5 (x_dk dn_285_0_2_ok 1 rfl)))
  (e_Lok (e_rt (I := eI) (k := 1) ⟨(x_dk dn_285_0_2_ok 2 rfl), rfl⟩)))))))
def te_285 : Nat → eE := (e_T 45 te_285_0 te_285_26)
theorem te_285_ok : ∀ pc, e_EOq eft cls elay eI n_285 pc (te_285 pc) := (e_Tok2 (te_285_0_ok) (te_285_26_ok))
theorem ho_286 : (xm_y n_286).cls = "RobotCellHouseModel" := rfl
def dn_286_0_0 : List (Nat × Instr × Nat) := [(0, .iload_n 1, 1), (1, .iload_n 2, 1), (2, .invokestatic 313, 3), (5, .ifCond .eq 41, 3), (8, .iload_n 3, 1), (9, .i2l, 1), (10, .lconst 0, 1), (11, .ldc2_w 348, 3), (14, .invokestatic 301, 3), (17, .ifCond .eq 29, 3), (20, .iload 4, 2), (22, .i2l, 1), (23, .lconst 0, 1), (24, .ldc2_w 311, 3), (27, .invokestatic 301, 3), (30, .ifCond .eq 16, 3), (33, .iload 5, 2), (35, .i2l, 1), (36, .lconst 0, 1), (37, .ldc2_w 336, 3), (40, .invokestatic 301, 3), (43, .ifCond .ne 5, 3), (46, .iconst (-1), 1), (47, .ireturn, 1), (48, .iload_n 3, 1)]
set_option maxRecDepth 20000 in
theorem dn_286_0_0_ok : dn_286_0_0.all (fun q => decide (decode (xm_b n_286) q.1 = .ok (q.2.1, q.2.2))) = true := xa_g_ok (by decide +kernel)
def dn_286_0_1 : List (Nat × Instr × Nat) := [(49, .iconst 2, 1), (50, .if_icmp .ge 8, 3), (53, .iload 4, 2), (55, .goto 6, 3), (58, .iload 4, 2), (60, .ineg, 1), (61, .istore 6, 2), (63, .iload_n 3, 1), (64, .iconst 2, 1), (65, .irem, 1), (66, .ifCond .ne 10, 3), (69, .iload_n 1, 1), (70, .iload 6, 2), (72, .iadd, 1), (73, .goto 4, 3), (76, .iload_n 1, 1), (77, .iload_n 3, 1), (78, .iconst 2, 1), (79, .irem, 1), (80, .ifCond .ne 7, 3), (83, .iload_n 2, 1), (84, .goto 7, 3), (87, .iload_n 2, 1), (88, .iload 6, 2), (90, .iadd, 1)]
set_option maxRecDepth 20000 in
theorem dn_286_0_1_ok : dn_286_0_1.all (fun q => decide (decode (xm_b n_286) q.1 = .ok (q.2.1, q.2.2))) = true := xa_g_ok (by decide +kernel)
def dn_286_0_2 : List (Nat × Instr × Nat) := [(91, .invokestatic 313, 3), (94, .ifCond .ne 5, 3), (97, .iconst (-1), 1), (98, .ireturn, 1), (99, .aload_n 0, 1), (100, .getfield 265, 3), (103, .ifCond .eq 6, 3), (106, .bipush (-2), 2), (108, .ireturn, 1), (109, .aload_n 0, 1), (110, .getfield 276, 3), (113, .iconst 4, 1), (114, .if_icmp .ne 6, 3), (117, .bipush (-3), 2), (119, .ireturn, 1), (120, .aload_n 0, 1), (121, .getfield 86, 3), (124, .aload_n 0, 1), (125, .getfield 276, 3), (128, .iload_n 1, 1), (129, .iastore, 1), (130, .aload_n 0, 1), (131, .getfield 89, 3), (134, .aload_n 0, 1), (135, .getfield 276, 3)]
set_option maxRecDepth 20000 in
theorem dn_286_0_2_ok : dn_286_0_2.all (fun q => decide (decode (xm_b n_286) q.1 = .ok (q.2.1, q.2.2))) = true := xa_g_ok (by decide +kernel)
def dn_286_0_3 : List (Nat × Instr × Nat) := [(138, .iload_n 2, 1), (139, .iastore, 1), (140, .aload_n 0, 1), (141, .getfield 92, 3), (144, .aload_n 0, 1), (145, .getfield 276, 3), (148, .iload_n 3, 1), (149, .iastore, 1), (150, .aload_n 0, 1), (151, .getfield 95, 3), (154, .aload_n 0, 1), (155, .getfield 276, 3), (158, .iload 4, 2), (160, .iastore, 1), (161, .aload_n 0, 1), (162, .getfield 98, 3), (165, .aload_n 0, 1), (166, .getfield 276, 3), (169, .iconst 0, 1), (170, .iastore, 1), (171, .aload_n 0, 1), (172, .getfield 104, 3), (175, .aload_n 0, 1), (176, .getfield 276, 3), (179, .iconst (-1), 1)]
set_option maxRecDepth 20000 in
theorem dn_286_0_3_ok : dn_286_0_3.all (fun q => decide (decode (xm_b n_286) q.1 = .ok (q.2.1, q.2.2))) = true := xa_g_ok (by decide +kernel)
def dn_286_1_0 : List (Nat × Instr × Nat) := [(180, .iastore, 1), (181, .aload_n 0, 1), (182, .getfield 101, 3), (185, .aload_n 0, 1), (186, .getfield 276, 3), (189, .iload 5, 2), (191, .iastore, 1), (192, .aload_n 0, 1), (193, .dup, 1), (194, .getfield 276, 3), (197, .iconst 1, 1), (198, .iadd, 1), (199, .putfield 276, 3), (202, .aload_n 0, 1), (203, .getfield 276, 3), (206, .iconst 1, 1), (207, .isub, 1), (208, .ireturn, 1)]
set_option maxRecDepth 20000 in
theorem dn_286_1_0_ok : dn_286_1_0.all (fun q => decide (decode (xm_b n_286) q.1 = .ok (q.2.1, q.2.2))) = true := xa_g_ok (by decide +kernel)
def te_286_0 : Nat → eE := (e_T 24 (e_T 10 (e_T 2 (e_T 0 (e_L 0 (0, ei_load 1 0 1, 0, 0)) (e_T 1 (e_L 1 (0, ei_load 2 0 2, 0, 0)) (e_L 2 (2, e_nof, 272, 2)))) (e_T 8 (e_T 5 (e_L 5 (0, ei_if1 0 46 8, 0, 0)) (e_L 8 (0, ei_load 3 0 9, 0, 0))) (e_T 9 (e_L 9 (0, ei_un (fun x => (4, x)) 10, 0, 0)) (e_L 10 (0, ei_push (4, 0) 11, 0, 0))))) (e_T 17 (e_T 11 (e_L 11 (0, ei_push (4, 3) 14, 0, 0)) (e_T 14 (e_L 14 (2, e_nof, 266, 3)) (e_L 17 (0, ei_if1 0 46 20, 0, 0)))) (e_T 22 (e_T 20 (e_L 20 (0, ei_load 4 0 22, 0, 0)) (e_L 22 (0, ei_un (fun x => (4, x)) 23, 0, 0))) (e_T 23 (e_L 23 (0, ei_push (4, 0) 24, 0, 0)) (e_L 24 (0, ei_push (4, 16000) 27, 0, 0)))))) (e_T 40 (e_T 33 (e_T 27 (e_L 27 (2, e_nof, 266, 3)) (e_T 30 (e_L 30 (0, ei_if1 0 46 33, 0, 0)) (e_L 33 (0, ei_load 5 0 35, 0, 0)))) (e_T 36 (e_T 35 (e_L 35 (0, ei_un (fun x => (4, x)) 36, 0, 0)) (e_L 36 (0, ei_push (4, 0) 37, 0, 0))) (e_T 37 (e_L 37 (0, ei_push (4, 2000) 40, 0, 0)) (e_L 40 (2, e_nof, 266, 3))))) (e_T 48 (e_T 46 (e_T 43 (e_L 43 (0, ei_if1 1 48 46, 0, 0)) (e_L 46 (0, ei_push (0, (-1)) 47, 0, 0))) (e_T 47 (e_L 47 (1, e_nof, 1, 0)) (e_L 48 (0, ei_load 3 0 49, 0, 0)))) (e_T 50 (e_T 49 (e_L 49 (0, ei_push (0, 2) 50, 0, 0)) (e_L 50 (0, ei_if2 3 58 53, 0, 0))) (e_T 53 (e_L 53 (0, ei_load 4 0 55, 0, 0)) (e_L 55 (0, ei_goto 61, 0, 0)))))))
set_option maxRecDepth 20000 in
set_option maxHeartbeats 4000000 in
theorem te_286_0_ok : ∀ pc, e_EOq eft cls elay eI n_286 pc (te_286_0 pc) :=
  (e_Tok2
  (e_Tok2
  (e_Tok2
  (e_Tok2
  (e_Lok (ld_iload_n_1 (x_dk dn_286_0_0_ok 0 rfl)))
  (e_Tok2
  (e_Lok (ld_iload_n_2 (x_dk dn_286_0_0_ok 1 rfl)))
  (e_Lok (lk_12_313 ho_286 (x_dk dn_286_0_0_ok 2 rfl)))))
  (e_Tok2
  (e_Tok2
  (e_Lok (e_st (I := eI) (er_ifeq (off := 41) (tg := 46) (x_dk dn_286_0_0_ok 3 rfl) (by decide)) nx_if1))
  (e_Lok (ld_iload_n_3 (x_dk dn_286_0_0_ok 4 rfl))))
  (e_Tok2
  (e_Lok (e_st (I := eI) (er_i2l (x_dk dn_286_0_0_ok 5 rfl)) (nx_un (fun _ => rfl))))
  (e_Lok (ps_lconst_0 (x_dk dn_286_0_0_ok 6 rfl))))))
  (e_Tok2
  (e_Tok2
  (e_Lok (e_st (I := eI) (er_ldc2 (ix := 348) (z := 3) (v := 3) (x_dk dn_286_0_0_ok 7 rfl) (in_t11 (List.mem_of_getElem? (i := 71) rfl) rfl) (by decide)) (nx_push (Or.inl rfl))))
  (e_Tok2
  (e_Lok (lk_12_301 ho_286 (x_dk dn_286_0_0_ok 8 rfl)))
  (e_Lok (e_st (I := eI) (er_ifeq (off := 29) (tg := 46) (x_dk dn_286_0_0_ok 9 rfl) (by decide)) nx_if1))))
  (e_Tok2
  (e_Tok2
  (e_Lok (ld_iload_4 (x_dk dn_286_0_0_ok 10 rfl)))
  (e_Lok (e_st (I := eI) (er_i2l (x_dk dn_286_0_0_ok 11 rfl)) (nx_un (fun _ => rfl)))))
  (e_Tok2
  (e_Lok (ps_lconst_0 (x_dk dn_286_0_0_ok 12 rfl)))
  (e_Lok (e_st (I := eI) (er_ldc2 (ix := 311) (z := 16000) (v := 16000) (x_dk dn_286_0_0_ok 13 rfl) (in_t11 (List.mem_of_getElem? (i := 50) rfl) rfl) (by decide)) (nx_push (Or.inl rfl))))))))
  (e_Tok2
  (e_Tok2
  (e_Tok2
  (e_Lok (lk_12_301 ho_286 (x_dk dn_286_0_0_ok 14 rfl)))
  (e_Tok2
  (e_Lok (e_st (I := eI) (er_ifeq (off := 16) (tg := 46) (x_dk dn_286_0_0_ok 15 rfl) (by decide)) nx_if1))
  (e_Lok (ld_iload_5 (x_dk dn_286_0_0_ok 16 rfl)))))
  (e_Tok2
  (e_Tok2
  (e_Lok (e_st (I := eI) (er_i2l (x_dk dn_286_0_0_ok 17 rfl)) (nx_un (fun _ => rfl))))
  (e_Lok (ps_lconst_0 (x_dk dn_286_0_0_ok 18 rfl))))
  (e_Tok2
  (e_Lok (e_st (I := eI) (er_ldc2 (ix := 336) (z := 2000) (v := 2000) (x_dk dn_286_0_0_ok 19 rfl) (in_t11 (List.mem_of_getElem? (i := 41) rfl) rfl) (by decide)) (nx_push (Or.inl rfl))))
  (e_Lok (lk_12_301 ho_286 (x_dk dn_286_0_0_ok 20 rfl))))))
  (e_Tok2
  (e_Tok2
  (e_Tok2
  (e_Lok (e_st (I := eI) (er_ifne (off := 5) (tg := 48) (x_dk dn_286_0_0_ok 21 rfl) (by decide)) nx_if1))
  (e_Lok (ps_iconst_m1 (x_dk dn_286_0_0_ok 22 rfl))))
  (e_Tok2
  (e_Lok (e_rt (I := eI) (k := 1) ⟨(x_dk dn_286_0_0_ok 23 rfl), rfl⟩))
  (e_Lok (ld_iload_n_3 (x_dk dn_286_0_0_ok 24 rfl)))))
  (e_Tok2
  (e_Tok2
  (e_Lok (ps_iconst_2 (x_dk dn_286_0_1_ok 0 rfl)))
  (e_Lok (e_st (I := eI) (er_icmpge (off := 8) (tg := 58) (x_dk dn_286_0_1_ok 1 rfl) (by decide)) nx_if2)))
  (e_Tok2
  (e_Lok (ld_iload_4 (x_dk dn_286_0_1_ok 2 rfl)))
  (e_Lok (e_st (I := eI) (er_goto (off := 6) (tg := 61) (x_dk dn_286_0_1_ok 3 rfl) (by decide)) nx_goto)))))))
def te_286_29 : Nat → eE := (e_T 79 (e_T 66 (e_T 61 (e_T 58 (e_L 58 (0, ei_load 4 0 60, 0, 0)) (e_T 60 (e_L 60 (0, ei_un (fun x => (0, e32 (-x))) 61, 0, 0)) (e_L 61 (0, ei_stor 6 0 63, 0, 0)))) (e_T 64 (e_T 63 (e_L 63 (0, ei_load 3 0 64, 0, 0)) (e_L 64 (0, ei_push (0, 2) 65, 0, 0))) (e_T 65 (e_L 65 (0, ei_bin eF_rem 66, 0, 0)) (e_L 66 (0, ei_if1 1 76 69, 0, 0))))) (e_T 73 (e_T 70 (e_T 69 (e_L 69 (0, ei_load 1 0 70, 0, 0)) (e_L 70 (0, ei_load 6 0 72, 0, 0))) (e_T 72 (e_L 72 (0, ei_bin eF_add 73, 0, 0)) (e_L 73 (0, ei_goto 77, 0, 0)))) (e_T 77 (e_T 76 (e_L 76 (0, ei_load 1 0 77, 0, 0)) (e_L 77 (0, ei_load 3 0 78, 0, 0))) (e_T 78 (e_L 78 (0, ei_push (0, 2) 79, 0, 0)) (e_L 79 (0, ei_bin eF_rem 80, 0, 0)))))) (e_T 91 (e_T 84 (e_T 80 (e_L 80 (0, ei_if1 1 87 83, 0, 0)) (e_T 83 (e_L 83 (0, ei_load 2 0 84, 0, 0)) (e_L 84 (0, ei_goto 91, 0, 0)))) (e_T 88 (e_T 87 (e_L 87 (0, ei_load 2 0 88, 0, 0)) (e_L 88 (0, ei_load 6 0 90, 0, 0))) (e_T 90 (e_L 90 (0, ei_bin eF_add 91, 0, 0)) (e_L 91 (2, e_nof, 272, 2))))) (e_T 99 (e_T 97 (e_T 94 (e_L 94 (0, ei_if1 1 99 97, 0, 0)) (e_L 97 (0, ei_push (0, (-1)) 98, 0, 0))) (e_T 98 (e_L 98 (1, e_nof, 1, 0)) (e_L 99 (0, ei_load 0 2 100, 0, 0)))) (e_T 103 (e_T 100 (e_L 100 (0, ei_getf eft elay 12 3 103, 0, 0)) (e_L 103 (0, ei_if1 0 109 106, 0, 0))) (e_T 106 (e_L 106 (0, ei_push (0, (-2)) 108, 0, 0)) (e_L 108 (1, e_nof, 1, 0)))))))
set_option maxRecDepth 20000 in
set_option maxHeartbeats 4000000 in
theorem te_286_29_ok : ∀ pc, e_EOq eft cls elay eI n_286 pc (te_286_29 pc) :=
  (e_Tok2
  (e_Tok2
  (e_Tok2
  (e_Tok2
  (e_Lok (ld_iload_4 (x_dk dn_286_0_1_ok 4 rfl)))
  (e_Tok2
  (e_Lok (e_st (I := eI) (er_ineg (x_dk dn_286_0_1_ok 5 rfl)) (nx_un (fun _ => rfl))))
  (e_Lok (e_st (I := eI) (er_istore (i := 6) (x_dk dn_286_0_1_ok 6 rfl) (by decide +kernel)) nx_stor))))
  (e_Tok2
  (e_Tok2
  (e_Lok (ld_iload_n_3 (x_dk dn_286_0_1_ok 7 rfl)))
  (e_Lok (ps_iconst_2 (x_dk dn_286_0_1_ok 8 rfl))))
  (e_Tok2
  (e_Lok (e_st (I := eI) (er_irem (x_dk dn_286_0_1_ok 9 rfl)) nx_bin))
  (e_Lok (e_st (I := eI) (er_ifne (off := 10) (tg := 76) (x_dk dn_286_0_1_ok 10 rfl) (by decide)) nx_if1)))))
  (e_Tok2
  (e_Tok2
  (e_Tok2
  (e_Lok (ld_iload_n_1 (x_dk dn_286_0_1_ok 11 rfl)))
  (e_Lok (ld_iload_6 (x_dk dn_286_0_1_ok 12 rfl))))
  (e_Tok2
  (e_Lok (sm_iadd (x_dk dn_286_0_1_ok 13 rfl)))
  (e_Lok (e_st (I := eI) (er_goto (off := 4) (tg := 77) (x_dk dn_286_0_1_ok 14 rfl) (by decide)) nx_goto))))
  (e_Tok2
  (e_Tok2
  (e_Lok (ld_iload_n_1 (x_dk dn_286_0_1_ok 15 rfl)))
  (e_Lok (ld_iload_n_3 (x_dk dn_286_0_1_ok 16 rfl))))
  (e_Tok2
  (e_Lok (ps_iconst_2 (x_dk dn_286_0_1_ok 17 rfl)))
  (e_Lok (e_st (I := eI) (er_irem (x_dk dn_286_0_1_ok 18 rfl)) nx_bin))))))
  (e_Tok2
  (e_Tok2
  (e_Tok2
  (e_Lok (e_st (I := eI) (er_ifne (off := 7) (tg := 87) (x_dk dn_286_0_1_ok 19 rfl) (by decide)) nx_if1))
  (e_Tok2
  (e_Lok (ld_iload_n_2 (x_dk dn_286_0_1_ok 20 rfl)))
  (e_Lok (e_st (I := eI) (er_goto (off := 7) (tg := 91) (x_dk dn_286_0_1_ok 21 rfl) (by decide)) nx_goto))))
  (e_Tok2
  (e_Tok2
  (e_Lok (ld_iload_n_2 (x_dk dn_286_0_1_ok 22 rfl)))
  (e_Lok (ld_iload_6 (x_dk dn_286_0_1_ok 23 rfl))))
  (e_Tok2
  (e_Lok (sm_iadd (x_dk dn_286_0_1_ok 24 rfl)))
  (e_Lok (lk_12_313 ho_286 (x_dk dn_286_0_2_ok 0 rfl))))))
  (e_Tok2
  (e_Tok2
  (e_Tok2
  (e_Lok (e_st (I := eI) (er_ifne (off := 5) (tg := 99) (x_dk dn_286_0_2_ok 1 rfl) (by decide)) nx_if1))
  (e_Lok (ps_iconst_m1 (x_dk dn_286_0_2_ok 2 rfl))))
  (e_Tok2
  (e_Lok (e_rt (I := eI) (k := 1) ⟨(x_dk dn_286_0_2_ok 3 rfl), rfl⟩))
  (e_Lok (ld_aload_n_0 (x_dk dn_286_0_2_ok 4 rfl)))))
  (e_Tok2
  (e_Tok2
  (e_Lok (lk_12_265g ho_286 (x_dk dn_286_0_2_ok 5 rfl)))
  (e_Lok (e_st (I := eI) (er_ifeq (off := 6) (tg := 109) (x_dk dn_286_0_2_ok 6 rfl) (by decide)) nx_if1)))
  (e_Tok2
  (e_Lok (ps_bipush_m2 (x_dk dn_286_0_2_ok 7 rfl)))
  (e_Lok (e_rt (I := eI) (k := 1) ⟨(x_dk dn_286_0_2_ok 8 rfl), rfl⟩)))))))
def te_286_59 : Nat → eE := (e_T 131 (e_T 120 (e_T 113 (e_T 109 (e_L 109 (0, ei_load 0 2 110, 0, 0)) (e_T 110 (e_L 110 (0, ei_getf eft elay 12 30 113, 0, 0)) (e_L 113 (0, ei_push (0, 4) 114, 0, 0)))) (e_T 117 (e_T 114 (e_L 114 (0, ei_if2 1 120 117, 0, 0)) (e_L 117 (0, ei_push (0, (-3)) 119, 0, 0))) (e_T 119 (e_L 119 (1, e_nof, 1, 0)) (e_L 120 (0, ei_load 0 2 121, 0, 0))))) (e_T 125 (e_T 121 (e_L 121 (0, ei_getf eft elay 12 31 124, 0, 0)) (e_T 124 (e_L 124 (0, ei_load 0 2 125, 0, 0)) (e_L 125 (0, ei_getf eft elay 12 30 128, 0, 0)))) (e_T 129 (e_T 128 (e_L 128 (0, ei_load 1 0 129, 0, 0)) (e_L 129 (0, ei_ast elay false 130, 0, 0))) (e_T 130 (e_L 130 (0, ei_load 0 2 131, 0, 0)) (e_L 131 (0, ei_getf eft elay 12 32 134, 0, 0)))))) (e_T 144 (e_T 138 (e_T 134 (e_L 134 (0, ei_load 0 2 135, 0, 0)) (e_T 135 (e_L 135 (0, ei_getf eft elay 12 30 138, 0, 0)) (e_L 138 (0, ei_load 2 0 139, 0, 0)))) (e_T 140 (e_T 139 (e_L 139 (0, ei_ast elay false 140, 0, 0)) (e_L 140 (0, ei_load 0 2 141, 0, 0))) (e_T 141 (e_L 141 (0, ei_getf eft elay 12 33 144, 0, 0)) (e_L 144 (0, ei_load 0 2 145, 0, 0))))) (e_T 150 (e_T 148 (e_T 145 (e_L 145 (0, ei_getf eft elay 12 30 148, 0, 0)) (e_L 148 (0, ei_load 3 0 149, 0, 0))) (e_T 149 (e_L 149 (0, ei_ast elay false 150, 0, 0)) (e_L 150 (0, ei_load 0 2 151, 0, 0)))) (e_T 154 (e_T 151 (e_L 151 (0, ei_getf eft elay 12 34 154, 0, 0)) (e_L 154 (0, ei_load 0 2 155, 0, 0))) (e_T 155 (e_L 155 (0, ei_getf eft elay 12 30 158, 0, 0)) (e_L 158 (0, ei_load 4 0 160, 0, 0)))))))
set_option maxRecDepth 20000 in
set_option maxHeartbeats 4000000 in
theorem te_286_59_ok : ∀ pc, e_EOq eft cls elay eI n_286 pc (te_286_59 pc) :=
  (e_Tok2
  (e_Tok2
  (e_Tok2
  (e_Tok2
  (e_Lok (ld_aload_n_0 (x_dk dn_286_0_2_ok 9 rfl)))
  (e_Tok2
  (e_Lok (lk_12_276g ho_286 (x_dk dn_286_0_2_ok 10 rfl)))
  (e_Lok (ps_iconst_4 (x_dk dn_286_0_2_ok 11 rfl)))))
  (e_Tok2
  (e_Tok2
  (e_Lok (e_st (I := eI) (er_icmpne (off := 6) (tg := 120) (x_dk dn_286_0_2_ok 12 rfl) (by decide)) nx_if2))
  (e_Lok (ps_bipush_m3 (x_dk dn_286_0_2_ok 13 rfl))))
  (e_Tok2
  (e_Lok (e_rt (I := eI) (k := 1) ⟨(x_dk dn_286_0_2_ok 14 rfl), rfl⟩))
  (e_Lok (ld_aload_n_0 (x_dk dn_286_0_2_ok 15 rfl))))))
  (e_Tok2
  (e_Tok2
  (e_Lok (lk_12_86g ho_286 (x_dk dn_286_0_2_ok 16 rfl)))
  (e_Tok2
  (e_Lok (ld_aload_n_0 (x_dk dn_286_0_2_ok 17 rfl)))
  (e_Lok (lk_12_276g ho_286 (x_dk dn_286_0_2_ok 18 rfl)))))
  (e_Tok2
  (e_Tok2
  (e_Lok (ld_iload_n_1 (x_dk dn_286_0_2_ok 19 rfl)))
  (e_Lok (sm_iastore (x_dk dn_286_0_2_ok 20 rfl))))
  (e_Tok2
  (e_Lok (ld_aload_n_0 (x_dk dn_286_0_2_ok 21 rfl)))
  (e_Lok (lk_12_89g ho_286 (x_dk dn_286_0_2_ok 22 rfl)))))))
  (e_Tok2
  (e_Tok2
  (e_Tok2
  (e_Lok (ld_aload_n_0 (x_dk dn_286_0_2_ok 23 rfl)))
  (e_Tok2
  (e_Lok (lk_12_276g ho_286 (x_dk dn_286_0_2_ok 24 rfl)))
  (e_Lok (ld_iload_n_2 (x_dk dn_286_0_3_ok 0 rfl)))))
  (e_Tok2
  (e_Tok2
  (e_Lok (sm_iastore (x_dk dn_286_0_3_ok 1 rfl)))
  (e_Lok (ld_aload_n_0 (x_dk dn_286_0_3_ok 2 rfl))))
  (e_Tok2
  (e_Lok (lk_12_92g ho_286 (x_dk dn_286_0_3_ok 3 rfl)))
  (e_Lok (ld_aload_n_0 (x_dk dn_286_0_3_ok 4 rfl))))))
  (e_Tok2
  (e_Tok2
  (e_Tok2
  (e_Lok (lk_12_276g ho_286 (x_dk dn_286_0_3_ok 5 rfl)))
  (e_Lok (ld_iload_n_3 (x_dk dn_286_0_3_ok 6 rfl))))
  (e_Tok2
  (e_Lok (sm_iastore (x_dk dn_286_0_3_ok 7 rfl)))
  (e_Lok (ld_aload_n_0 (x_dk dn_286_0_3_ok 8 rfl)))))
  (e_Tok2
  (e_Tok2
  (e_Lok (lk_12_95g ho_286 (x_dk dn_286_0_3_ok 9 rfl)))
  (e_Lok (ld_aload_n_0 (x_dk dn_286_0_3_ok 10 rfl))))
  (e_Tok2
  (e_Lok (lk_12_276g ho_286 (x_dk dn_286_0_3_ok 11 rfl)))
  (e_Lok (ld_iload_4 (x_dk dn_286_0_3_ok 12 rfl))))))))
def te_286_88 : Nat → eE := (e_T 182 (e_T 170 (e_T 162 (e_T 160 (e_L 160 (0, ei_ast elay false 161, 0, 0)) (e_T 161 (e_L 161 (0, ei_load 0 2 162, 0, 0)) (e_L 162 (0, ei_getf eft elay 12 35 165, 0, 0)))) (e_T 166 (e_T 165 (e_L 165 (0, ei_load 0 2 166, 0, 0)) (e_L 166 (0, ei_getf eft elay 12 30 169, 0, 0))) (e_T 169 (e_L 169 (0, ei_push (0, 0) 170, 0, 0)) (e_L 170 (0, ei_ast elay false 171, 0, 0))))) (e_T 176 (e_T 172 (e_T 171 (e_L 171 (0, ei_load 0 2 172, 0, 0)) (e_L 172 (0, ei_getf eft elay 12 37 175, 0, 0))) (e_T 175 (e_L 175 (0, ei_load 0 2 176, 0, 0)) (e_L 176 (0, ei_getf eft elay 12 30 179, 0, 0)))) (e_T 180 (e_T 179 (e_L 179 (0, ei_push (0, (-1)) 180, 0, 0)) (e_L 180 (0, ei_ast elay false 181, 0, 0))) (e_T 181 (e_L 181 (0, ei_load 0 2 182, 0, 0)) (e_L 182 (0, ei_getf eft elay 12 36 185, 0, 0)))))) (e_T 194 (e_T 189 (e_T 185 (e_L 185 (0, ei_load 0 2 186, 0, 0)) (e_T 186 (e_L 186 (0, ei_getf eft elay 12 30 189, 0, 0)) (e_L 189 (0, ei_load 5 0 191, 0, 0)))) (e_T 192 (e_T 191 (e_L 191 (0, ei_ast elay false 192, 0, 0)) (e_L 192 (0, ei_load 0 2 193, 0, 0))) (e_T 193 (e_L 193 (0, ei_stk ef_dup 194, 0, 0)) (e_L 194 (0, ei_getf eft elay 12 30 197, 0, 0))))) (e_T 202 (e_T 198 (e_T 197 (e_L 197 (0, ei_push (0, 1) 198, 0, 0)) (e_L 198 (0, ei_bin eF_add 199, 0, 0))) (e_T 199 (e_L 199 (0, ei_putf eft elay 12 30 0 202, 0, 0)) (e_L 202 (0, ei_load 0 2 203, 0, 0)))) (e_T 206 (e_T 203 (e_L 203 (0, ei_getf eft elay 12 30 206, 0, 0)) (e_L 206 (0, ei_push (0, 1) 207, 0, 0))) (e_T 207 (e_L 207 (0, ei_bin eF_sub 208, 0, 0)) (e_L 208 (1, e_nof, 1, 0)))))))
set_option maxRecDepth 20000 in
set_option maxHeartbeats 4000000 in
theorem te_286_88_ok : ∀ pc, e_EOq eft cls elay eI n_286 pc (te_286_88 pc) :=
  (e_Tok2
  (e_Tok2
  (e_Tok2
  (e_Tok2
  (e_Lok (sm_iastore (x_dk dn_286_0_3_ok 13 rfl)))
  (e_Tok2
  (e_Lok (ld_aload_n_0 (x_dk dn_286_0_3_ok 14 rfl)))
  (e_Lok (lk_12_98g ho_286 (x_dk dn_286_0_3_ok 15 rfl)))))
  (e_Tok2
  (e_Tok2
  (e_Lok (ld_aload_n_0 (x_dk dn_286_0_3_ok 16 rfl)))
  (e_Lok (lk_12_276g ho_286 (x_dk dn_286_0_3_ok 17 rfl))))
  (e_Tok2
  (e_Lok (ps_iconst_0 (x_dk dn_286_0_3_ok 18 rfl)))
  (e_Lok (sm_iastore (x_dk dn_286_0_3_ok 19 rfl))))))
  (e_Tok2
  (e_Tok2
  (e_Tok2
  (e_Lok (ld_aload_n_0 (x_dk dn_286_0_3_ok 20 rfl)))
  (e_Lok (lk_12_104g ho_286 (x_dk dn_286_0_3_ok 21 rfl))))
  (e_Tok2
  (e_Lok (ld_aload_n_0 (x_dk dn_286_0_3_ok 22 rfl)))
  (e_Lok (lk_12_276g ho_286 (x_dk dn_286_0_3_ok 23 rfl)))))
  (e_Tok2
  (e_Tok2
  (e_Lok (ps_iconst_m1 (x_dk dn_286_0_3_ok 24 rfl)))
  (e_Lok (sm_iastore (x_dk dn_286_1_0_ok 0 rfl))))
  (e_Tok2
  (e_Lok (ld_aload_n_0 (x_dk dn_286_1_0_ok 1 rfl)))
  (e_Lok (lk_12_101g ho_286 (x_dk dn_286_1_0_ok 2 rfl)))))))
  (e_Tok2
  (e_Tok2
  (e_Tok2
  (e_Lok (ld_aload_n_0 (x_dk dn_286_1_0_ok 3 rfl)))
  (e_Tok2
  (e_Lok (lk_12_276g ho_286 (x_dk dn_286_1_0_ok 4 rfl)))
  (e_Lok (ld_iload_5 (x_dk dn_286_1_0_ok 5 rfl)))))
  (e_Tok2
  (e_Tok2
  (e_Lok (sm_iastore (x_dk dn_286_1_0_ok 6 rfl)))
  (e_Lok (ld_aload_n_0 (x_dk dn_286_1_0_ok 7 rfl))))
  (e_Tok2
  (e_Lok (e_st (I := eI) (er_dup (x_dk dn_286_1_0_ok 8 rfl)) (nx_stk bf_dup)))
  (e_Lok (lk_12_276g ho_286 (x_dk dn_286_1_0_ok 9 rfl))))))
  (e_Tok2
  (e_Tok2
  (e_Tok2
  (e_Lok (ps_iconst_1 (x_dk dn_286_1_0_ok 10 rfl)))
  (e_Lok (sm_iadd (x_dk dn_286_1_0_ok 11 rfl))))
  (e_Tok2
  (e_Lok (lk_12_276p ho_286 (x_dk dn_286_1_0_ok 12 rfl)))
  (e_Lok (ld_aload_n_0 (x_dk dn_286_1_0_ok 13 rfl)))))
  (e_Tok2
  (e_Tok2
  (e_Lok (lk_12_276g ho_286 (x_dk dn_286_1_0_ok 14 rfl)))
  (e_Lok (ps_iconst_1 (x_dk dn_286_1_0_ok 15 rfl))))
  (e_Tok2
  (e_Lok (sm_isub (x_dk dn_286_1_0_ok 16 rfl)))
  (e_Lok (e_rt (I := eI) (k := 1) ⟨(x_dk dn_286_1_0_ok 17 rfl), rfl⟩)))))))
def te_286 : Nat → eE := (e_T 108 (e_T 55 te_286_0 te_286_29) (e_T 158 te_286_59 te_286_88))
theorem te_286_ok : ∀ pc, e_EOq eft cls elay eI n_286 pc (te_286 pc) := (e_Tok2 ((e_Tok2 (te_286_0_ok) (te_286_29_ok))) ((e_Tok2 (te_286_59_ok) (te_286_88_ok))))
theorem ho_287 : (xm_y n_287).cls = "RobotCellHouseModel" := rfl
def dn_287_0_0 : List (Nat × Instr × Nat) := [(0, .iload_n 1, 1), (1, .i2l, 1), (2, .lconst 0, 1), (3, .aload_n 0, 1), (4, .getfield 276, 3), (7, .iconst 1, 1), (8, .isub, 1), (9, .i2l, 1), (10, .invokestatic 301, 3), (13, .ifCond .eq 15, 3), (16, .iload_n 2, 1), (17, .i2l, 1), (18, .lconst 0, 1), (19, .ldc2_w 350, 3), (22, .invokestatic 301, 3), (25, .ifCond .ne 5, 3), (28, .iconst (-1), 1), (29, .ireturn, 1), (30, .aload_n 0, 1), (31, .getfield 265, 3), (34, .ifCond .eq 6, 3), (37, .bipush (-2), 2), (39, .ireturn, 1), (40, .aload_n 0, 1), (41, .getfield 98, 3)]
set_option maxRecDepth 20000 in
theorem dn_287_0_0_ok : dn_287_0_0.all (fun q => decide (decode (xm_b n_287) q.1 = .ok (q.2.1, q.2.2))) = true := xa_g_ok (by decide +kernel)
def dn_287_0_1 : List (Nat × Instr × Nat) := [(44, .iload_n 1, 1), (45, .iaload, 1), (46, .istore_n 3, 1), (47, .aload_n 0, 1), (48, .getfield 98, 3), (51, .iload_n 1, 1), (52, .iload_n 2, 1), (53, .iastore, 1), (54, .iload_n 3, 1), (55, .ireturn, 1)]
set_option maxRecDepth 20000 in
theorem dn_287_0_1_ok : dn_287_0_1.all (fun q => decide (decode (xm_b n_287) q.1 = .ok (q.2.1, q.2.2))) = true := xa_g_ok (by decide +kernel)
def te_287_0 : Nat → eE := (e_T 28 (e_T 9 (e_T 3 (e_T 1 (e_T 0 (e_L 0 (0, ei_load 1 0 1, 0, 0)) (e_L 1 (0, ei_un (fun x => (4, x)) 2, 0, 0))) (e_T 2 (e_L 2 (0, ei_push (4, 0) 3, 0, 0)) (e_L 3 (0, ei_load 0 2 4, 0, 0)))) (e_T 7 (e_T 4 (e_L 4 (0, ei_getf eft elay 12 30 7, 0, 0)) (e_L 7 (0, ei_push (0, 1) 8, 0, 0))) (e_T 8 (e_L 8 (0, ei_bin eF_sub 9, 0, 0)) (e_L 9 (0, ei_un (fun x => (4, x)) 10, 0, 0))))) (e_T 17 (e_T 13 (e_T 10 (e_L 10 (2, e_nof, 266, 3)) (e_L 13 (0, ei_if1 0 28 16, 0, 0))) (e_T 16 (e_L 16 (0, ei_load 2 0 17, 0, 0)) (e_L 17 (0, ei_un (fun x => (4, x)) 18, 0, 0)))) (e_T 19 (e_T 18 (e_L 18 (0, ei_push (4, 0) 19, 0, 0)) (e_L 19 (0, ei_push (4, 100) 22, 0, 0))) (e_T 22 (e_L 22 (2, e_nof, 266, 3)) (e_T 25 (e_L 25 (0, ei_if1 1 30 28, 0, 0)) (e_L 28 (0, ei_push (0, (-1)) 29, 0, 0))))))) (e_T 44 (e_T 34 (e_T 30 (e_T 29 (e_L 29 (1, e_nof, 1, 0)) (e_L 30 (0, ei_load 0 2 31, 0, 0))) (e_T 31 (e_L 31 (0, ei_getf eft elay 12 3 34, 0, 0)) (e_L 34 (0, ei_if1 0 40 37, 0, 0)))) (e_T 39 (e_T 37 (e_L 37 (0, ei_push (0, (-2)) 39, 0, 0)) (e_L 39 (1, e_nof, 1, 0))) (e_T 40 (e_L 40 (0, ei_load 0 2 41, 0, 0)) (e_T 41 (e_L 41 (0, ei_getf eft elay 12 35 44, 0, 0)) (e_L 44 (0, ei_load 1 0 45, 0, 0)))))) (e_T 48 (e_T 46 (e_T 45 (e_L 45 (0, ei_ald elay false 46, 0, 0)) (e_L 46 (0, ei_stor 3 0 47, 0, 0))) (e_T 47 (e_L 47 (0, ei_load 0 2 48, 0, 0)) (e_L 48 (0, ei_getf eft elay 12 35 51, 0, 0)))) (e_T 52 (e_T 51 (e_L 51 (0, ei_load 1 0 52, 0, 0)) (e_L 52 (0, ei_load 2 0 53, 0, 0))) (e_T 53 (e_L 53 (0, ei_ast elay false 54, 0, 0)) (e_T 54 (e_L 54 (0, ei_load 3 0 55, 0, 0)) (e_L 55 (1, e_nof, 1, 0))))))))
set_option maxRecDepth 20000 in
set_option maxHeartbeats 4000000 in
theorem te_287_0_ok : ∀ pc, e_EOq eft cls elay eI n_287 pc (te_287_0 pc) :=
  (e_Tok2
  (e_Tok2
  (e_Tok2
  (e_Tok2
  (e_Tok2
  (e_Lok (ld_iload_n_1 (x_dk dn_287_0_0_ok 0 rfl)))
  (e_Lok (e_st (I := eI) (er_i2l (x_dk dn_287_0_0_ok 1 rfl)) (nx_un (fun _ => rfl)))))
  (e_Tok2
  (e_Lok (ps_lconst_0 (x_dk dn_287_0_0_ok 2 rfl)))
  (e_Lok (ld_aload_n_0 (x_dk dn_287_0_0_ok 3 rfl)))))
  (e_Tok2
  (e_Tok2
  (e_Lok (lk_12_276g ho_287 (x_dk dn_287_0_0_ok 4 rfl)))
  (e_Lok (ps_iconst_1 (x_dk dn_287_0_0_ok 5 rfl))))
  (e_Tok2
  (e_Lok (sm_isub (x_dk dn_287_0_0_ok 6 rfl)))
  (e_Lok (e_st (I := eI) (er_i2l (x_dk dn_287_0_0_ok 7 rfl)) (nx_un (fun _ => rfl)))))))
  (e_Tok2
  (e_Tok2
  (e_Tok2
  (e_Lok (lk_12_301 ho_287 (x_dk dn_287_0_0_ok 8 rfl)))
  (e_Lok (e_st (I := eI) (er_ifeq (off := 15) (tg := 28) (x_dk dn_287_0_0_ok 9 rfl) (by decide)) nx_if1)))
  (e_Tok2
  (e_Lok (ld_iload_n_2 (x_dk dn_287_0_0_ok 10 rfl)))
  (e_Lok (e_st (I := eI) (er_i2l (x_dk dn_287_0_0_ok 11 rfl)) (nx_un (fun _ => rfl))))))
  (e_Tok2
  (e_Tok2
  (e_Lok (ps_lconst_0 (x_dk dn_287_0_0_ok 12 rfl)))
  (e_Lok (e_st (I := eI) (er_ldc2 (ix := 350) (z := 100) (v := 100) (x_dk dn_287_0_0_ok 13 rfl) (in_t11 (List.mem_of_getElem? (i := 76) rfl) rfl) (by decide)) (nx_push (Or.inl rfl)))))
  (e_Tok2
  (e_Lok (lk_12_301 ho_287 (x_dk dn_287_0_0_ok 14 rfl)))
  (e_Tok2
  (e_Lok (e_st (I := eI) (er_ifne (off := 5) (tg := 30) (x_dk dn_287_0_0_ok 15 rfl) (by decide)) nx_if1))
  (e_Lok (ps_iconst_m1 (x_dk dn_287_0_0_ok 16 rfl))))))))
  (e_Tok2
  (e_Tok2
  (e_Tok2
  (e_Tok2
  (e_Lok (e_rt (I := eI) (k := 1) ⟨(x_dk dn_287_0_0_ok 17 rfl), rfl⟩))
  (e_Lok (ld_aload_n_0 (x_dk dn_287_0_0_ok 18 rfl))))
  (e_Tok2
  (e_Lok (lk_12_265g ho_287 (x_dk dn_287_0_0_ok 19 rfl)))
  (e_Lok (e_st (I := eI) (er_ifeq (off := 6) (tg := 40) (x_dk dn_287_0_0_ok 20 rfl) (by decide)) nx_if1))))
  (e_Tok2
  (e_Tok2
  (e_Lok (ps_bipush_m2 (x_dk dn_287_0_0_ok 21 rfl)))
  (e_Lok (e_rt (I := eI) (k := 1) ⟨(x_dk dn_287_0_0_ok 22 rfl), rfl⟩)))
  (e_Tok2
  (e_Lok (ld_aload_n_0 (x_dk dn_287_0_0_ok 23 rfl)))
  (e_Tok2
  (e_Lok (lk_12_98g ho_287 (x_dk dn_287_0_0_ok 24 rfl)))
  (e_Lok (ld_iload_n_1 (x_dk dn_287_0_1_ok 0 rfl)))))))
  (e_Tok2
  (e_Tok2
  (e_Tok2
  (e_Lok (sm_iaload (x_dk dn_287_0_1_ok 1 rfl)))
  (e_Lok (e_st (I := eI) (er_istore_n (i := 3) (x_dk dn_287_0_1_ok 2 rfl) (by decide +kernel)) nx_stor)))
  (e_Tok2
  (e_Lok (ld_aload_n_0 (x_dk dn_287_0_1_ok 3 rfl)))
  (e_Lok (lk_12_98g ho_287 (x_dk dn_287_0_1_ok 4 rfl)))))
  (e_Tok2
  (e_Tok2
  (e_Lok (ld_iload_n_1 (x_dk dn_287_0_1_ok 5 rfl)))
  (e_Lok (ld_iload_n_2 (x_dk dn_287_0_1_ok 6 rfl))))
  (e_Tok2
  (e_Lok (sm_iastore (x_dk dn_287_0_1_ok 7 rfl)))
  (e_Tok2
  (e_Lok (ld_iload_n_3 (x_dk dn_287_0_1_ok 8 rfl)))
  (e_Lok (e_rt (I := eI) (k := 1) ⟨(x_dk dn_287_0_1_ok 9 rfl), rfl⟩))))))))
def te_287 : Nat → eE := te_287_0
theorem te_287_ok : ∀ pc, e_EOq eft cls elay eI n_287 pc (te_287 pc) := te_287_0_ok
theorem ho_288 : (xm_y n_288).cls = "RobotCellHouseModel" := rfl
def dn_288_0_0 : List (Nat × Instr × Nat) := [(0, .iload_n 1, 1), (1, .i2l, 1), (2, .lconst 0, 1), (3, .aload_n 0, 1), (4, .getfield 276, 3), (7, .iconst 1, 1), (8, .isub, 1), (9, .i2l, 1), (10, .invokestatic 301, 3), (13, .ifCond .eq 25, 3), (16, .iload_n 2, 1), (17, .i2l, 1), (18, .lconst 0, 1), (19, .ldc2_w 352, 3), (22, .invokestatic 301, 3), (25, .ifCond .eq 13, 3), (28, .iload_n 3, 1), (29, .ifCond .lt 9, 3), (32, .iload 4, 2), (34, .iload_n 3, 1), (35, .if_icmp .ge 5, 3), (38, .iconst (-1), 1), (39, .ireturn, 1), (40, .aload_n 0, 1), (41, .getfield 265, 3)]
set_option maxRecDepth 20000 in
theorem dn_288_0_0_ok : dn_288_0_0.all (fun q => decide (decode (xm_b n_288) q.1 = .ok (q.2.1, q.2.2))) = true := xa_g_ok (by decide +kernel)
def dn_288_0_1 : List (Nat × Instr × Nat) := [(44, .ifCond .eq 6, 3), (47, .bipush (-2), 2), (49, .ireturn, 1), (50, .aload_n 0, 1), (51, .getfield 104, 3), (54, .iload_n 1, 1), (55, .iload_n 2, 1), (56, .iastore, 1), (57, .aload_n 0, 1), (58, .getfield 107, 3), (61, .iload_n 1, 1), (62, .iload_n 3, 1), (63, .iastore, 1), (64, .aload_n 0, 1), (65, .getfield 110, 3), (68, .iload_n 1, 1), (69, .iload 4, 2), (71, .iastore, 1), (72, .iconst 0, 1), (73, .ireturn, 1)]
set_option maxRecDepth 20000 in
theorem dn_288_0_1_ok : dn_288_0_1.all (fun q => decide (decode (xm_b n_288) q.1 = .ok (q.2.1, q.2.2))) = true := xa_g_ok (by decide +kernel)
def te_288_0 : Nat → eE := (e_T 16 (e_T 4 (e_T 1 (e_T 0 (e_L 0 (0, ei_load 1 0 1, 0, 0)) (e_L 1 (0, ei_un (fun x => (4, x)) 2, 0, 0))) (e_T 2 (e_L 2 (0, ei_push (4, 0) 3, 0, 0)) (e_T 3 (e_L 3 (0, ei_load 0 2 4, 0, 0)) (e_L 4 (0, ei_getf eft elay 12 30 7, 0, 0))))) (e_T 9 (e_T 7 (e_L 7 (0, ei_push (0, 1) 8, 0, 0)) (e_T 8 (e_L 8 (0, ei_bin eF_sub 9, 0, 0)) (e_L 9 (0, ei_un (fun x => (4, x)) 10, 0, 0)))) (e_T 10 (e_L 10 (2, e_nof, 266, 3)) (e_T 13 (e_L 13 (0, ei_if1 0 38 16, 0, 0)) (e_L 16 (0, ei_load 2 0 17, 0, 0)))))) (e_T 25 (e_T 18 (e_T 17 (e_L 17 (0, ei_un (fun x => (4, x)) 18, 0, 0)) (e_L 18 (0, ei_push (4, 0) 19, 0, 0))) (e_T 19 (e_L 19 (0, ei_push (4, 63) 22, 0, 0)) (e_T 22 (e_L 22 (2, e_nof, 266, 3)) (e_L 25 (0, ei_if1 0 38 28, 0, 0))))) (e_T 32 (e_T 28 (e_L 28 (0, ei_load 3 0 29, 0, 0)) (e_T 29 (e_L 29 (0, ei_if1 2 38 32, 0, 0)) (e_L 32 (0, ei_load 4 0 34, 0, 0)))) (e_T 34 (e_L 34 (0, ei_load 3 0 35, 0, 0)) (e_T 35 (e_L 35 (0, ei_if2 3 40 38, 0, 0)) (e_L 38 (0, ei_push (0, (-1)) 39, 0, 0)))))))
set_option maxRecDepth 20000 in
set_option maxHeartbeats 4000000 in
theorem te_288_0_ok : ∀ pc, e_EOq eft cls elay eI n_288 pc (te_288_0 pc) :=
  (e_Tok2
  (e_Tok2
  (e_Tok2
  (e_Tok2
  (e_Lok (ld_iload_n_1 (x_dk dn_288_0_0_ok 0 rfl)))
  (e_Lok (e_st (I := eI) (er_i2l (x_dk dn_288_0_0_ok 1 rfl)) (nx_un (fun _ => rfl)))))
  (e_Tok2
  (e_Lok (ps_lconst_0 (x_dk dn_288_0_0_ok 2 rfl)))
  (e_Tok2
  (e_Lok (ld_aload_n_0 (x_dk dn_288_0_0_ok 3 rfl)))
  (e_Lok (lk_12_276g ho_288 (x_dk dn_288_0_0_ok 4 rfl))))))
  (e_Tok2
  (e_Tok2
  (e_Lok (ps_iconst_1 (x_dk dn_288_0_0_ok 5 rfl)))
  (e_Tok2
  (e_Lok (sm_isub (x_dk dn_288_0_0_ok 6 rfl)))
  (e_Lok (e_st (I := eI) (er_i2l (x_dk dn_288_0_0_ok 7 rfl)) (nx_un (fun _ => rfl))))))
  (e_Tok2
  (e_Lok (lk_12_301 ho_288 (x_dk dn_288_0_0_ok 8 rfl)))
  (e_Tok2
  (e_Lok (e_st (I := eI) (er_ifeq (off := 25) (tg := 38) (x_dk dn_288_0_0_ok 9 rfl) (by decide)) nx_if1))
  (e_Lok (ld_iload_n_2 (x_dk dn_288_0_0_ok 10 rfl)))))))
  (e_Tok2
  (e_Tok2
  (e_Tok2
  (e_Lok (e_st (I := eI) (er_i2l (x_dk dn_288_0_0_ok 11 rfl)) (nx_un (fun _ => rfl))))
  (e_Lok (ps_lconst_0 (x_dk dn_288_0_0_ok 12 rfl))))
  (e_Tok2
  (e_Lok (e_st (I := eI) (er_ldc2 (ix := 352) (z := 63) (v := 63) (x_dk dn_288_0_0_ok 13 rfl) (in_t11 (List.mem_of_getElem? (i := 81) rfl) rfl) (by decide)) (nx_push (Or.inl rfl))))
  (e_Tok2
  (e_Lok (lk_12_301 ho_288 (x_dk dn_288_0_0_ok 14 rfl)))
  (e_Lok (e_st (I := eI) (er_ifeq (off := 13) (tg := 38) (x_dk dn_288_0_0_ok 15 rfl) (by decide)) nx_if1)))))
  (e_Tok2
  (e_Tok2
  (e_Lok (ld_iload_n_3 (x_dk dn_288_0_0_ok 16 rfl)))
  (e_Tok2
  (e_Lok (e_st (I := eI) (er_iflt (off := 9) (tg := 38) (x_dk dn_288_0_0_ok 17 rfl) (by decide)) nx_if1))
  (e_Lok (ld_iload_4 (x_dk dn_288_0_0_ok 18 rfl)))))
  (e_Tok2
  (e_Lok (ld_iload_n_3 (x_dk dn_288_0_0_ok 19 rfl)))
  (e_Tok2
  (e_Lok (e_st (I := eI) (er_icmpge (off := 5) (tg := 40) (x_dk dn_288_0_0_ok 20 rfl) (by decide)) nx_if2))
  (e_Lok (ps_iconst_m1 (x_dk dn_288_0_0_ok 21 rfl))))))))
def te_288_22 : Nat → eE := (e_T 56 (e_T 47 (e_T 40 (e_T 39 (e_L 39 (1, e_nof, 1, 0)) (e_L 40 (0, ei_load 0 2 41, 0, 0))) (e_T 41 (e_L 41 (0, ei_getf eft elay 12 3 44, 0, 0)) (e_T 44 (e_L 44 (0, ei_if1 0 50 47, 0, 0)) (e_L 47 (0, ei_push (0, (-2)) 49, 0, 0))))) (e_T 51 (e_T 49 (e_L 49 (1, e_nof, 1, 0)) (e_T 50 (e_L 50 (0, ei_load 0 2 51, 0, 0)) (e_L 51 (0, ei_getf eft elay 12 37 54, 0, 0)))) (e_T 54 (e_L 54 (0, ei_load 1 0 55, 0, 0)) (e_T 55 (e_L 55 (0, ei_load 2 0 56, 0, 0)) (e_L 56 (0, ei_ast elay false 57, 0, 0)))))) (e_T 64 (e_T 61 (e_T 57 (e_L 57 (0, ei_load 0 2 58, 0, 0)) (e_T 58 (e_L 58 (0, ei_getf eft elay 12 38 61, 0, 0)) (e_L 61 (0, ei_load 1 0 62, 0, 0)))) (e_T 62 (e_L 62 (0, ei_load 3 0 63, 0, 0)) (e_T 63 (e_L 63 (0, ei_ast elay false 64, 0, 0)) (e_L 64 (0, ei_load 0 2 65, 0, 0))))) (e_T 69 (e_T 65 (e_L 65 (0, ei_getf eft elay 12 39 68, 0, 0)) (e_T 68 (e_L 68 (0, ei_load 1 0 69, 0, 0)) (e_L 69 (0, ei_load 4 0 71, 0, 0)))) (e_T 71 (e_L 71 (0, ei_ast elay false 72, 0, 0)) (e_T 72 (e_L 72 (0, ei_push (0, 0) 73, 0, 0)) (e_L 73 (1, e_nof, 1, 0)))))))
set_option maxRecDepth 20000 in
set_option maxHeartbeats 4000000 in
theorem te_288_22_ok : ∀ pc, e_EOq eft cls elay eI n_288 pc (te_288_22 pc) :=
  (e_Tok2
  (e_Tok2
  (e_Tok2
  (e_Tok2
  (e_Lok (e_rt (I := eI) (k := 1) ⟨(x_dk dn_288_0_0_ok 22 rfl), rfl⟩))
  (e_Lok (ld_aload_n_0 (x_dk dn_288_0_0_ok 23 rfl))))
  (e_Tok2
  (e_Lok (lk_12_265g ho_288 (x_dk dn_288_0_0_ok 24 rfl)))
  (e_Tok2
  (e_Lok (e_st (I := eI) (er_ifeq (off := 6) (tg := 50) (x_dk dn_288_0_1_ok 0 rfl) (by decide)) nx_if1))
  (e_Lok (ps_bipush_m2 (x_dk dn_288_0_1_ok 1 rfl))))))
  (e_Tok2
  (e_Tok2
  (e_Lok (e_rt (I := eI) (k := 1) ⟨(x_dk dn_288_0_1_ok 2 rfl), rfl⟩))
  (e_Tok2
  (e_Lok (ld_aload_n_0 (x_dk dn_288_0_1_ok 3 rfl)))
  (e_Lok (lk_12_104g ho_288 (x_dk dn_288_0_1_ok 4 rfl)))))
  (e_Tok2
  (e_Lok (ld_iload_n_1 (x_dk dn_288_0_1_ok 5 rfl)))
  (e_Tok2
  (e_Lok (ld_iload_n_2 (x_dk dn_288_0_1_ok 6 rfl)))
  (e_Lok (sm_iastore (x_dk dn_288_0_1_ok 7 rfl)))))))
  (e_Tok2
  (e_Tok2
  (e_Tok2
  (e_Lok (ld_aload_n_0 (x_dk dn_288_0_1_ok 8 rfl)))
  (e_Tok2
  (e_Lok (lk_12_107g ho_288 (x_dk dn_288_0_1_ok 9 rfl)))
  (e_Lok (ld_iload_n_1 (x_dk dn_288_0_1_ok 10 rfl)))))
  (e_Tok2
  (e_Lok (ld_iload_n_3 (x_dk dn_288_0_1_ok 11 rfl)))
  (e_Tok2
  (e_Lok (sm_iastore (x_dk dn_288_0_1_ok 12 rfl)))
  (e_Lok (ld_aload_n_0 (x_dk dn_288_0_1_ok 13 rfl))))))
  (e_Tok2
  (e_Tok2
  (e_Lok (lk_12_110g ho_288 (x_dk dn_288_0_1_ok 14 rfl)))
  (e_Tok2
  (e_Lok (ld_iload_n_1 (x_dk dn_288_0_1_ok 15 rfl)))
  (e_Lok (ld_iload_4 (x_dk dn_288_0_1_ok 16 rfl)))))
  (e_Tok2
  (e_Lok (sm_iastore (x_dk dn_288_0_1_ok 17 rfl)))
  (e_Tok2
  (e_Lok (ps_iconst_0 (x_dk dn_288_0_1_ok 18 rfl)))
  (e_Lok (e_rt (I := eI) (k := 1) ⟨(x_dk dn_288_0_1_ok 19 rfl), rfl⟩)))))))
def te_288 : Nat → eE := (e_T 38 te_288_0 te_288_22)
theorem te_288_ok : ∀ pc, e_EOq eft cls elay eI n_288 pc (te_288 pc) := (e_Tok2 (te_288_0_ok) (te_288_22_ok))
theorem ho_289 : (xm_y n_289).cls = "RobotCellHouseModel" := rfl
def dn_289_0_0 : List (Nat × Instr × Nat) := [(0, .iload_n 1, 1), (1, .i2l, 1), (2, .lconst 0, 1), (3, .aload_n 0, 1), (4, .getfield 276, 3), (7, .iconst 1, 1), (8, .isub, 1), (9, .i2l, 1), (10, .invokestatic 301, 3), (13, .ifCond .eq 31, 3), (16, .iload_n 2, 1), (17, .i2l, 1), (18, .lconst 0, 1), (19, .aload_n 0, 1), (20, .getfield 95, 3), (23, .iload_n 1, 1), (24, .iaload, 1), (25, .i2l, 1), (26, .invokestatic 301, 3), (29, .ifCond .eq 15, 3), (32, .iload_n 3, 1), (33, .i2l, 1), (34, .lconst 0, 1), (35, .ldc2_w 330, 3), (38, .invokestatic 301, 3)]
set_option maxRecDepth 20000 in
theorem dn_289_0_0_ok : dn_289_0_0.all (fun q => decide (decode (xm_b n_289) q.1 = .ok (q.2.1, q.2.2))) = true := xa_g_ok (by decide +kernel)
def dn_289_0_1 : List (Nat × Instr × Nat) := [(41, .ifCond .ne 5, 3), (44, .iconst (-1), 1), (45, .ireturn, 1), (46, .aload_n 0, 1), (47, .getfield 265, 3), (50, .ifCond .eq 6, 3), (53, .bipush (-2), 2), (55, .ireturn, 1), (56, .aload_n 0, 1), (57, .getfield 279, 3), (60, .bipush 32, 2), (62, .if_icmp .ne 6, 3), (65, .bipush (-3), 2), (67, .ireturn, 1), (68, .aload_n 0, 1), (69, .getfield 113, 3), (72, .aload_n 0, 1), (73, .getfield 279, 3), (76, .iload_n 3, 1), (77, .iastore, 1), (78, .aload_n 0, 1), (79, .aload_n 0, 1), (80, .getfield 279, 3), (83, .iload_n 1, 1), (84, .iload_n 2, 1)]
set_option maxRecDepth 20000 in
theorem dn_289_0_1_ok : dn_289_0_1.all (fun q => decide (decode (xm_b n_289) q.1 = .ok (q.2.1, q.2.2))) = true := xa_g_ok (by decide +kernel)
def dn_289_0_2 : List (Nat × Instr × Nat) := [(85, .invokevirtual 354, 3), (88, .aload_n 0, 1), (89, .dup, 1), (90, .getfield 279, 3), (93, .iconst 1, 1), (94, .iadd, 1), (95, .putfield 279, 3), (98, .aload_n 0, 1), (99, .getfield 279, 3), (102, .iconst 1, 1), (103, .isub, 1), (104, .ireturn, 1)]
set_option maxRecDepth 20000 in
theorem dn_289_0_2_ok : dn_289_0_2.all (fun q => decide (decode (xm_b n_289) q.1 = .ok (q.2.1, q.2.2))) = true := xa_g_ok (by decide +kernel)
def te_289_0 : Nat → eE := (e_T 20 (e_T 8 (e_T 2 (e_T 0 (e_L 0 (0, ei_load 1 0 1, 0, 0)) (e_T 1 (e_L 1 (0, ei_un (fun x => (4, x)) 2, 0, 0)) (e_L 2 (0, ei_push (4, 0) 3, 0, 0)))) (e_T 4 (e_T 3 (e_L 3 (0, ei_load 0 2 4, 0, 0)) (e_L 4 (0, ei_getf eft elay 12 30 7, 0, 0))) (e_T 7 (e_L 7 (0, ei_push (0, 1) 8, 0, 0)) (e_L 8 (0, ei_bin eF_sub 9, 0, 0))))) (e_T 16 (e_T 10 (e_T 9 (e_L 9 (0, ei_un (fun x => (4, x)) 10, 0, 0)) (e_L 10 (2, e_nof, 266, 3))) (e_T 13 (e_L 13 (0, ei_if1 0 44 16, 0, 0)) (e_L 16 (0, ei_load 2 0 17, 0, 0)))) (e_T 18 (e_T 17 (e_L 17 (0, ei_un (fun x => (4, x)) 18, 0, 0)) (e_L 18 (0, ei_push (4, 0) 19, 0, 0))) (e_T 19 (e_L 19 (0, ei_load 0 2 20, 0, 0)) (e_L 20 (0, ei_getf eft elay 12 34 23, 0, 0)))))) (e_T 34 (e_T 26 (e_T 24 (e_T 23 (e_L 23 (0, ei_load 1 0 24, 0, 0)) (e_L 24 (0, ei_ald elay false 25, 0, 0))) (e_T 25 (e_L 25 (0, ei_un (fun x => (4, x)) 26, 0, 0)) (e_L 26 (2, e_nof, 266, 3)))) (e_T 32 (e_T 29 (e_L 29 (0, ei_if1 0 44 32, 0, 0)) (e_L 32 (0, ei_load 3 0 33, 0, 0))) (e_T 33 (e_L 33 (0, ei_un (fun x => (4, x)) 34, 0, 0)) (e_L 34 (0, ei_push (4, 0) 35, 0, 0))))) (e_T 44 (e_T 38 (e_T 35 (e_L 35 (0, ei_push (4, 800) 38, 0, 0)) (e_L 38 (2, e_nof, 266, 3))) (e_T 41 (e_L 41 (0, ei_if1 1 46 44, 0, 0)) (e_L 44 (0, ei_push (0, (-1)) 45, 0, 0)))) (e_T 46 (e_T 45 (e_L 45 (1, e_nof, 1, 0)) (e_L 46 (0, ei_load 0 2 47, 0, 0))) (e_T 47 (e_L 47 (0, ei_getf eft elay 12 3 50, 0, 0)) (e_L 50 (0, ei_if1 0 56 53, 0, 0)))))))
set_option maxRecDepth 20000 in
set_option maxHeartbeats 4000000 in
theorem te_289_0_ok : ∀ pc, e_EOq eft cls elay eI n_289 pc (te_289_0 pc) :=
  (e_Tok2
  (e_Tok2
  (e_Tok2
  (e_Tok2
  (e_Lok (ld_iload_n_1 (x_dk dn_289_0_0_ok 0 rfl)))
  (e_Tok2
  (e_Lok (e_st (I := eI) (er_i2l (x_dk dn_289_0_0_ok 1 rfl)) (nx_un (fun _ => rfl))))
  (e_Lok (ps_lconst_0 (x_dk dn_289_0_0_ok 2 rfl)))))
  (e_Tok2
  (e_Tok2
  (e_Lok (ld_aload_n_0 (x_dk dn_289_0_0_ok 3 rfl)))
  (e_Lok (lk_12_276g ho_289 (x_dk dn_289_0_0_ok 4 rfl))))
  (e_Tok2
  (e_Lok (ps_iconst_1 (x_dk dn_289_0_0_ok 5 rfl)))
  (e_Lok (sm_isub (x_dk dn_289_0_0_ok 6 rfl))))))
  (e_Tok2
  (e_Tok2
  (e_Tok2
  (e_Lok (e_st (I := eI) (er_i2l (x_dk dn_289_0_0_ok 7 rfl)) (nx_un (fun _ => rfl))))
  (e_Lok (lk_12_301 ho_289 (x_dk dn_289_0_0_ok 8 rfl))))
  (e_Tok2
  (e_Lok (e_st (I := eI) (er_ifeq (off := 31) (tg := 44) (x_dk dn_289_0_0_ok 9 rfl) (by decide)) nx_if1))
  (e_Lok (ld_iload_n_2 (x_dk dn_289_0_0_ok 10 rfl)))))
  (e_Tok2
  (e_Tok2
  (e_Lok (e_st (I := eI) (er_i2l (x_dk dn_289_0_0_ok 11 rfl)) (nx_un (fun _ => rfl))))
  (e_Lok (ps_lconst_0 (x_dk dn_289_0_0_ok 12 rfl))))
  (e_Tok2
  (e_Lok (ld_aload_n_0 (x_dk dn_289_0_0_ok 13 rfl)))
  (e_Lok (lk_12_95g ho_289 (x_dk dn_289_0_0_ok 14 rfl)))))))
  (e_Tok2
  (e_Tok2
  (e_Tok2
  (e_Tok2
  (e_Lok (ld_iload_n_1 (x_dk dn_289_0_0_ok 15 rfl)))
  (e_Lok (sm_iaload (x_dk dn_289_0_0_ok 16 rfl))))
  (e_Tok2
  (e_Lok (e_st (I := eI) (er_i2l (x_dk dn_289_0_0_ok 17 rfl)) (nx_un (fun _ => rfl))))
  (e_Lok (lk_12_301 ho_289 (x_dk dn_289_0_0_ok 18 rfl)))))
  (e_Tok2
  (e_Tok2
  (e_Lok (e_st (I := eI) (er_ifeq (off := 15) (tg := 44) (x_dk dn_289_0_0_ok 19 rfl) (by decide)) nx_if1))
  (e_Lok (ld_iload_n_3 (x_dk dn_289_0_0_ok 20 rfl))))
  (e_Tok2
  (e_Lok (e_st (I := eI) (er_i2l (x_dk dn_289_0_0_ok 21 rfl)) (nx_un (fun _ => rfl))))
  (e_Lok (ps_lconst_0 (x_dk dn_289_0_0_ok 22 rfl))))))
  (e_Tok2
  (e_Tok2
  (e_Tok2
  (e_Lok (e_st (I := eI) (er_ldc2 (ix := 330) (z := 800) (v := 800) (x_dk dn_289_0_0_ok 23 rfl) (in_t11 (List.mem_of_getElem? (i := 19) rfl) rfl) (by decide)) (nx_push (Or.inl rfl))))
  (e_Lok (lk_12_301 ho_289 (x_dk dn_289_0_0_ok 24 rfl))))
  (e_Tok2
  (e_Lok (e_st (I := eI) (er_ifne (off := 5) (tg := 46) (x_dk dn_289_0_1_ok 0 rfl) (by decide)) nx_if1))
  (e_Lok (ps_iconst_m1 (x_dk dn_289_0_1_ok 1 rfl)))))
  (e_Tok2
  (e_Tok2
  (e_Lok (e_rt (I := eI) (k := 1) ⟨(x_dk dn_289_0_1_ok 2 rfl), rfl⟩))
  (e_Lok (ld_aload_n_0 (x_dk dn_289_0_1_ok 3 rfl))))
  (e_Tok2
  (e_Lok (lk_12_265g ho_289 (x_dk dn_289_0_1_ok 4 rfl)))
  (e_Lok (e_st (I := eI) (er_ifeq (off := 6) (tg := 56) (x_dk dn_289_0_1_ok 5 rfl) (by decide)) nx_if1)))))))
def te_289_31 : Nat → eE := (e_T 78 (e_T 65 (e_T 56 (e_T 53 (e_L 53 (0, ei_push (0, (-2)) 55, 0, 0)) (e_T 55 (e_L 55 (1, e_nof, 1, 0)) (e_L 56 (0, ei_load 0 2 57, 0, 0)))) (e_T 60 (e_T 57 (e_L 57 (0, ei_getf eft elay 12 40 60, 0, 0)) (e_L 60 (0, ei_push (0, 32) 62, 0, 0))) (e_T 62 (e_L 62 (0, ei_if2 1 68 65, 0, 0)) (e_L 65 (0, ei_push (0, (-3)) 67, 0, 0))))) (e_T 72 (e_T 68 (e_T 67 (e_L 67 (1, e_nof, 1, 0)) (e_L 68 (0, ei_load 0 2 69, 0, 0))) (e_T 69 (e_L 69 (0, ei_getf eft elay 12 41 72, 0, 0)) (e_L 72 (0, ei_load 0 2 73, 0, 0)))) (e_T 76 (e_T 73 (e_L 73 (0, ei_getf eft elay 12 40 76, 0, 0)) (e_L 76 (0, ei_load 3 0 77, 0, 0))) (e_T 77 (e_L 77 (0, ei_ast elay false 78, 0, 0)) (e_L 78 (0, ei_load 0 2 79, 0, 0)))))) (e_T 90 (e_T 84 (e_T 80 (e_T 79 (e_L 79 (0, ei_load 0 2 80, 0, 0)) (e_L 80 (0, ei_getf eft elay 12 40 83, 0, 0))) (e_T 83 (e_L 83 (0, ei_load 1 0 84, 0, 0)) (e_L 84 (0, ei_load 2 0 85, 0, 0)))) (e_T 88 (e_T 85 (e_L 85 (2, e_nof, 393, 4)) (e_L 88 (0, ei_load 0 2 89, 0, 0))) (e_T 89 (e_L 89 (0, ei_stk ef_dup 90, 0, 0)) (e_L 90 (0, ei_getf eft elay 12 40 93, 0, 0))))) (e_T 98 (e_T 94 (e_T 93 (e_L 93 (0, ei_push (0, 1) 94, 0, 0)) (e_L 94 (0, ei_bin eF_add 95, 0, 0))) (e_T 95 (e_L 95 (0, ei_putf eft elay 12 40 0 98, 0, 0)) (e_L 98 (0, ei_load 0 2 99, 0, 0)))) (e_T 102 (e_T 99 (e_L 99 (0, ei_getf eft elay 12 40 102, 0, 0)) (e_L 102 (0, ei_push (0, 1) 103, 0, 0))) (e_T 103 (e_L 103 (0, ei_bin eF_sub 104, 0, 0)) (e_L 104 (1, e_nof, 1, 0)))))))
set_option maxRecDepth 20000 in
set_option maxHeartbeats 4000000 in
theorem te_289_31_ok : ∀ pc, e_EOq eft cls elay eI n_289 pc (te_289_31 pc) :=
  (e_Tok2
  (e_Tok2
  (e_Tok2
  (e_Tok2
  (e_Lok (ps_bipush_m2 (x_dk dn_289_0_1_ok 6 rfl)))
  (e_Tok2
  (e_Lok (e_rt (I := eI) (k := 1) ⟨(x_dk dn_289_0_1_ok 7 rfl), rfl⟩))
  (e_Lok (ld_aload_n_0 (x_dk dn_289_0_1_ok 8 rfl)))))
  (e_Tok2
  (e_Tok2
  (e_Lok (lk_12_279g ho_289 (x_dk dn_289_0_1_ok 9 rfl)))
  (e_Lok (ps_bipush_32 (x_dk dn_289_0_1_ok 10 rfl))))
  (e_Tok2
  (e_Lok (e_st (I := eI) (er_icmpne (off := 6) (tg := 68) (x_dk dn_289_0_1_ok 11 rfl) (by decide)) nx_if2))
  (e_Lok (ps_bipush_m3 (x_dk dn_289_0_1_ok 12 rfl))))))
  (e_Tok2
  (e_Tok2
  (e_Tok2
  (e_Lok (e_rt (I := eI) (k := 1) ⟨(x_dk dn_289_0_1_ok 13 rfl), rfl⟩))
  (e_Lok (ld_aload_n_0 (x_dk dn_289_0_1_ok 14 rfl))))
  (e_Tok2
  (e_Lok (lk_12_113g ho_289 (x_dk dn_289_0_1_ok 15 rfl)))
  (e_Lok (ld_aload_n_0 (x_dk dn_289_0_1_ok 16 rfl)))))
  (e_Tok2
  (e_Tok2
  (e_Lok (lk_12_279g ho_289 (x_dk dn_289_0_1_ok 17 rfl)))
  (e_Lok (ld_iload_n_3 (x_dk dn_289_0_1_ok 18 rfl))))
  (e_Tok2
  (e_Lok (sm_iastore (x_dk dn_289_0_1_ok 19 rfl)))
  (e_Lok (ld_aload_n_0 (x_dk dn_289_0_1_ok 20 rfl)))))))
  (e_Tok2
  (e_Tok2
  (e_Tok2
  (e_Tok2
  (e_Lok (ld_aload_n_0 (x_dk dn_289_0_1_ok 21 rfl)))
  (e_Lok (lk_12_279g ho_289 (x_dk dn_289_0_1_ok 22 rfl))))
  (e_Tok2
  (e_Lok (ld_iload_n_1 (x_dk dn_289_0_1_ok 23 rfl)))
  (e_Lok (ld_iload_n_2 (x_dk dn_289_0_1_ok 24 rfl)))))
  (e_Tok2
  (e_Tok2
  (e_Lok (lk_12_354 ho_289 (x_dk dn_289_0_2_ok 0 rfl)))
  (e_Lok (ld_aload_n_0 (x_dk dn_289_0_2_ok 1 rfl))))
  (e_Tok2
  (e_Lok (e_st (I := eI) (er_dup (x_dk dn_289_0_2_ok 2 rfl)) (nx_stk bf_dup)))
  (e_Lok (lk_12_279g ho_289 (x_dk dn_289_0_2_ok 3 rfl))))))
  (e_Tok2
  (e_Tok2
  (e_Tok2
  (e_Lok (ps_iconst_1 (x_dk dn_289_0_2_ok 4 rfl)))
  (e_Lok (sm_iadd (x_dk dn_289_0_2_ok 5 rfl))))
  (e_Tok2
  (e_Lok (lk_12_279p ho_289 (x_dk dn_289_0_2_ok 6 rfl)))
  (e_Lok (ld_aload_n_0 (x_dk dn_289_0_2_ok 7 rfl)))))
  (e_Tok2
  (e_Tok2
  (e_Lok (lk_12_279g ho_289 (x_dk dn_289_0_2_ok 8 rfl)))
  (e_Lok (ps_iconst_1 (x_dk dn_289_0_2_ok 9 rfl))))
  (e_Tok2
  (e_Lok (sm_isub (x_dk dn_289_0_2_ok 10 rfl)))
  (e_Lok (e_rt (I := eI) (k := 1) ⟨(x_dk dn_289_0_2_ok 11 rfl), rfl⟩)))))))
def te_289 : Nat → eE := (e_T 50 te_289_0 te_289_31)
theorem te_289_ok : ∀ pc, e_EOq eft cls elay eI n_289 pc (te_289 pc) := (e_Tok2 (te_289_0_ok) (te_289_31_ok))
theorem ho_290 : (xm_y n_290).cls = "RobotCellHouseModel" := rfl
def dn_290_0_0 : List (Nat × Instr × Nat) := [(0, .iload_n 1, 1), (1, .iload_n 2, 1), (2, .invokestatic 313, 3), (5, .ifCond .eq 15, 3), (8, .iload_n 3, 1), (9, .i2l, 1), (10, .lconst 0, 1), (11, .ldc2_w 330, 3), (14, .invokestatic 301, 3), (17, .ifCond .ne 5, 3), (20, .iconst (-1), 1), (21, .ireturn, 1), (22, .aload_n 0, 1), (23, .getfield 265, 3), (26, .ifCond .eq 6, 3), (29, .bipush (-2), 2), (31, .ireturn, 1), (32, .aload_n 0, 1), (33, .getfield 279, 3), (36, .bipush 32, 2), (38, .if_icmp .ne 6, 3), (41, .bipush (-3), 2), (43, .ireturn, 1), (44, .aload_n 0, 1), (45, .getfield 113, 3)]
set_option maxRecDepth 20000 in
theorem dn_290_0_0_ok : dn_290_0_0.all (fun q => decide (decode (xm_b n_290) q.1 = .ok (q.2.1, q.2.2))) = true := xa_g_ok (by decide +kernel)
def dn_290_0_1 : List (Nat × Instr × Nat) := [(48, .aload_n 0, 1), (49, .getfield 279, 3), (52, .iload_n 3, 1), (53, .iastore, 1), (54, .aload_n 0, 1), (55, .aload_n 0, 1), (56, .getfield 279, 3), (59, .iload_n 1, 1), (60, .iload_n 2, 1), (61, .invokevirtual 358, 3), (64, .aload_n 0, 1), (65, .dup, 1), (66, .getfield 279, 3), (69, .iconst 1, 1), (70, .iadd, 1), (71, .putfield 279, 3), (74, .aload_n 0, 1), (75, .getfield 279, 3), (78, .iconst 1, 1), (79, .isub, 1), (80, .ireturn, 1)]
set_option maxRecDepth 20000 in
theorem dn_290_0_1_ok : dn_290_0_1.all (fun q => decide (decode (xm_b n_290) q.1 = .ok (q.2.1, q.2.2))) = true := xa_g_ok (by decide +kernel)
def te_290_0 : Nat → eE := (e_T 20 (e_T 8 (e_T 1 (e_T 0 (e_L 0 (0, ei_load 1 0 1, 0, 0)) (e_L 1 (0, ei_load 2 0 2, 0, 0))) (e_T 2 (e_L 2 (2, e_nof, 272, 2)) (e_T 5 (e_L 5 (0, ei_if1 0 20 8, 0, 0)) (e_L 8 (0, ei_load 3 0 9, 0, 0))))) (e_T 11 (e_T 9 (e_L 9 (0, ei_un (fun x => (4, x)) 10, 0, 0)) (e_T 10 (e_L 10 (0, ei_push (4, 0) 11, 0, 0)) (e_L 11 (0, ei_push (4, 800) 14, 0, 0)))) (e_T 14 (e_L 14 (2, e_nof, 266, 3)) (e_T 17 (e_L 17 (0, ei_if1 1 22 20, 0, 0)) (e_L 20 (0, ei_push (0, (-1)) 21, 0, 0)))))) (e_T 31 (e_T 23 (e_T 21 (e_L 21 (1, e_nof, 1, 0)) (e_T 22 (e_L 22 (0, ei_load 0 2 23, 0, 0)) (e_L 23 (0, ei_getf eft elay 12 3 26, 0, 0)))) (e_T 26 (e_L 26 (0, ei_if1 0 32 29, 0, 0)) (e_T 29 (e_L 29 (0, ei_push (0, (-2)) 31, 0, 0)) (e_L 31 (1, e_nof, 1, 0))))) (e_T 36 (e_T 32 (e_L 32 (0, ei_load 0 2 33, 0, 0)) (e_T 33 (e_L 33 (0, ei_getf eft elay 12 40 36, 0, 0)) (e_L 36 (0, ei_push (0, 32) 38, 0, 0)))) (e_T 38 (e_L 38 (0, ei_if2 1 44 41, 0, 0)) (e_T 41 (e_L 41 (0, ei_push (0, (-3)) 43, 0, 0)) (e_L 43 (1, e_nof, 1, 0)))))))
set_option maxRecDepth 20000 in
set_option maxHeartbeats 4000000 in
theorem te_290_0_ok : ∀ pc, e_EOq eft cls elay eI n_290 pc (te_290_0 pc) :=
  (e_Tok2
  (e_Tok2
  (e_Tok2
  (e_Tok2
  (e_Lok (ld_iload_n_1 (x_dk dn_290_0_0_ok 0 rfl)))
  (e_Lok (ld_iload_n_2 (x_dk dn_290_0_0_ok 1 rfl))))
  (e_Tok2
  (e_Lok (lk_12_313 ho_290 (x_dk dn_290_0_0_ok 2 rfl)))
  (e_Tok2
  (e_Lok (e_st (I := eI) (er_ifeq (off := 15) (tg := 20) (x_dk dn_290_0_0_ok 3 rfl) (by decide)) nx_if1))
  (e_Lok (ld_iload_n_3 (x_dk dn_290_0_0_ok 4 rfl))))))
  (e_Tok2
  (e_Tok2
  (e_Lok (e_st (I := eI) (er_i2l (x_dk dn_290_0_0_ok 5 rfl)) (nx_un (fun _ => rfl))))
  (e_Tok2
  (e_Lok (ps_lconst_0 (x_dk dn_290_0_0_ok 6 rfl)))
  (e_Lok (e_st (I := eI) (er_ldc2 (ix := 330) (z := 800) (v := 800) (x_dk dn_290_0_0_ok 7 rfl) (in_t11 (List.mem_of_getElem? (i := 19) rfl) rfl) (by decide)) (nx_push (Or.inl rfl))))))
  (e_Tok2
  (e_Lok (lk_12_301 ho_290 (x_dk dn_290_0_0_ok 8 rfl)))
  (e_Tok2
  (e_Lok (e_st (I := eI) (er_ifne (off := 5) (tg := 22) (x_dk dn_290_0_0_ok 9 rfl) (by decide)) nx_if1))
  (e_Lok (ps_iconst_m1 (x_dk dn_290_0_0_ok 10 rfl)))))))
  (e_Tok2
  (e_Tok2
  (e_Tok2
  (e_Lok (e_rt (I := eI) (k := 1) ⟨(x_dk dn_290_0_0_ok 11 rfl), rfl⟩))
  (e_Tok2
  (e_Lok (ld_aload_n_0 (x_dk dn_290_0_0_ok 12 rfl)))
  (e_Lok (lk_12_265g ho_290 (x_dk dn_290_0_0_ok 13 rfl)))))
  (e_Tok2
  (e_Lok (e_st (I := eI) (er_ifeq (off := 6) (tg := 32) (x_dk dn_290_0_0_ok 14 rfl) (by decide)) nx_if1))
  (e_Tok2
  (e_Lok (ps_bipush_m2 (x_dk dn_290_0_0_ok 15 rfl)))
  (e_Lok (e_rt (I := eI) (k := 1) ⟨(x_dk dn_290_0_0_ok 16 rfl), rfl⟩)))))
  (e_Tok2
  (e_Tok2
  (e_Lok (ld_aload_n_0 (x_dk dn_290_0_0_ok 17 rfl)))
  (e_Tok2
  (e_Lok (lk_12_279g ho_290 (x_dk dn_290_0_0_ok 18 rfl)))
  (e_Lok (ps_bipush_32 (x_dk dn_290_0_0_ok 19 rfl)))))
  (e_Tok2
  (e_Lok (e_st (I := eI) (er_icmpne (off := 6) (tg := 44) (x_dk dn_290_0_0_ok 20 rfl) (by decide)) nx_if2))
  (e_Tok2
  (e_Lok (ps_bipush_m3 (x_dk dn_290_0_0_ok 21 rfl)))
  (e_Lok (e_rt (I := eI) (k := 1) ⟨(x_dk dn_290_0_0_ok 22 rfl), rfl⟩)))))))
def te_290_23 : Nat → eE := (e_T 60 (e_T 52 (e_T 45 (e_T 44 (e_L 44 (0, ei_load 0 2 45, 0, 0)) (e_L 45 (0, ei_getf eft elay 12 41 48, 0, 0))) (e_T 48 (e_L 48 (0, ei_load 0 2 49, 0, 0)) (e_T 49 (e_L 49 (0, ei_getf eft elay 12 40 52, 0, 0)) (e_L 52 (0, ei_load 3 0 53, 0, 0))))) (e_T 55 (e_T 53 (e_L 53 (0, ei_ast elay false 54, 0, 0)) (e_T 54 (e_L 54 (0, ei_load 0 2 55, 0, 0)) (e_L 55 (0, ei_load 0 2 56, 0, 0)))) (e_T 56 (e_L 56 (0, ei_getf eft elay 12 40 59, 0, 0)) (e_T 59 (e_L 59 (0, ei_load 1 0 60, 0, 0)) (e_L 60 (0, ei_load 2 0 61, 0, 0)))))) (e_T 70 (e_T 65 (e_T 61 (e_L 61 (2, e_nof, 394, 4)) (e_T 64 (e_L 64 (0, ei_load 0 2 65, 0, 0)) (e_L 65 (0, ei_stk ef_dup 66, 0, 0)))) (e_T 66 (e_L 66 (0, ei_getf eft elay 12 40 69, 0, 0)) (e_T 69 (e_L 69 (0, ei_push (0, 1) 70, 0, 0)) (e_L 70 (0, ei_bin eF_add 71, 0, 0))))) (e_T 75 (e_T 71 (e_L 71 (0, ei_putf eft elay 12 40 0 74, 0, 0)) (e_T 74 (e_L 74 (0, ei_load 0 2 75, 0, 0)) (e_L 75 (0, ei_getf eft elay 12 40 78, 0, 0)))) (e_T 78 (e_L 78 (0, ei_push (0, 1) 79, 0, 0)) (e_T 79 (e_L 79 (0, ei_bin eF_sub 80, 0, 0)) (e_L 80 (1, e_nof, 1, 0)))))))
set_option maxRecDepth 20000 in
set_option maxHeartbeats 4000000 in
theorem te_290_23_ok : ∀ pc, e_EOq eft cls elay eI n_290 pc (te_290_23 pc) :=
  (e_Tok2
  (e_Tok2
  (e_Tok2
  (e_Tok2
  (e_Lok (ld_aload_n_0 (x_dk dn_290_0_0_ok 23 rfl)))
  (e_Lok (lk_12_113g ho_290 (x_dk dn_290_0_0_ok 24 rfl))))
  (e_Tok2
  (e_Lok (ld_aload_n_0 (x_dk dn_290_0_1_ok 0 rfl)))
  (e_Tok2
  (e_Lok (lk_12_279g ho_290 (x_dk dn_290_0_1_ok 1 rfl)))
  (e_Lok (ld_iload_n_3 (x_dk dn_290_0_1_ok 2 rfl))))))
  (e_Tok2
  (e_Tok2
  (e_Lok (sm_iastore (x_dk dn_290_0_1_ok 3 rfl)))
  (e_Tok2
  (e_Lok (ld_aload_n_0 (x_dk dn_290_0_1_ok 4 rfl)))
  (e_Lok (ld_aload_n_0 (x_dk dn_290_0_1_ok 5 rfl)))))
  (e_Tok2
  (e_Lok (lk_12_279g ho_290 (x_dk dn_290_0_1_ok 6 rfl)))
  (e_Tok2
  (e_Lok (ld_iload_n_1 (x_dk dn_290_0_1_ok 7 rfl)))
  (e_Lok (ld_iload_n_2 (x_dk dn_290_0_1_ok 8 rfl)))))))
  (e_Tok2
  (e_Tok2
  (e_Tok2
  (e_Lok (lk_12_358 ho_290 (x_dk dn_290_0_1_ok 9 rfl)))
  (e_Tok2
  (e_Lok (ld_aload_n_0 (x_dk dn_290_0_1_ok 10 rfl)))
  (e_Lok (e_st (I := eI) (er_dup (x_dk dn_290_0_1_ok 11 rfl)) (nx_stk bf_dup)))))
  (e_Tok2
  (e_Lok (lk_12_279g ho_290 (x_dk dn_290_0_1_ok 12 rfl)))
  (e_Tok2
  (e_Lok (ps_iconst_1 (x_dk dn_290_0_1_ok 13 rfl)))
  (e_Lok (sm_iadd (x_dk dn_290_0_1_ok 14 rfl))))))
  (e_Tok2
  (e_Tok2
  (e_Lok (lk_12_279p ho_290 (x_dk dn_290_0_1_ok 15 rfl)))
  (e_Tok2
  (e_Lok (ld_aload_n_0 (x_dk dn_290_0_1_ok 16 rfl)))
  (e_Lok (lk_12_279g ho_290 (x_dk dn_290_0_1_ok 17 rfl)))))
  (e_Tok2
  (e_Lok (ps_iconst_1 (x_dk dn_290_0_1_ok 18 rfl)))
  (e_Tok2
  (e_Lok (sm_isub (x_dk dn_290_0_1_ok 19 rfl)))
  (e_Lok (e_rt (I := eI) (k := 1) ⟨(x_dk dn_290_0_1_ok 20 rfl), rfl⟩)))))))
def te_290 : Nat → eE := (e_T 43 te_290_0 te_290_23)
theorem te_290_ok : ∀ pc, e_EOq eft cls elay eI n_290 pc (te_290 pc) := (e_Tok2 (te_290_0_ok) (te_290_23_ok))
theorem ho_291 : (xm_y n_291).cls = "RobotCellHouseModel" := rfl
def dn_291_0_0 : List (Nat × Instr × Nat) := [(0, .aload_n 0, 1), (1, .iload_n 1, 1), (2, .invokevirtual 305, 3), (5, .ifCond .eq 15, 3), (8, .iload_n 2, 1), (9, .iload_n 3, 1), (10, .iload 4, 2), (12, .iload 5, 2), (14, .invokestatic 342, 3), (17, .ifCond .ne 5, 3), (20, .iconst (-1), 1), (21, .ireturn, 1), (22, .aload_n 0, 1), (23, .getfield 265, 3), (26, .ifCond .eq 6, 3), (29, .bipush (-2), 2), (31, .ireturn, 1), (32, .aload_n 0, 1), (33, .getfield 282, 3), (36, .bipush 8, 2), (38, .if_icmp .ne 6, 3), (41, .bipush (-3), 2), (43, .ireturn, 1), (44, .aload_n 0, 1), (45, .getfield 116, 3)]
set_option maxRecDepth 20000 in
theorem dn_291_0_0_ok : dn_291_0_0.all (fun q => decide (decode (xm_b n_291) q.1 = .ok (q.2.1, q.2.2))) = true := xa_g_ok (by decide +kernel)
def dn_291_0_1 : List (Nat × Instr × Nat) := [(48, .aload_n 0, 1), (49, .getfield 282, 3), (52, .iload_n 1, 1), (53, .iastore, 1), (54, .aload_n 0, 1), (55, .getfield 119, 3), (58, .aload_n 0, 1), (59, .getfield 282, 3), (62, .iload_n 2, 1), (63, .iastore, 1), (64, .aload_n 0, 1), (65, .getfield 122, 3), (68, .aload_n 0, 1), (69, .getfield 282, 3), (72, .iload_n 3, 1), (73, .iastore, 1), (74, .aload_n 0, 1), (75, .getfield 125, 3), (78, .aload_n 0, 1), (79, .getfield 282, 3), (82, .iload 4, 2), (84, .iastore, 1), (85, .aload_n 0, 1), (86, .getfield 128, 3), (89, .aload_n 0, 1)]
set_option maxRecDepth 20000 in
theorem dn_291_0_1_ok : dn_291_0_1.all (fun q => decide (decode (xm_b n_291) q.1 = .ok (q.2.1, q.2.2))) = true := xa_g_ok (by decide +kernel)
def dn_291_0_2 : List (Nat × Instr × Nat) := [(90, .getfield 282, 3), (93, .iload 5, 2), (95, .iastore, 1), (96, .aload_n 0, 1), (97, .getfield 131, 3), (100, .aload_n 0, 1), (101, .getfield 282, 3), (104, .iconst (-1), 1), (105, .iastore, 1), (106, .aload_n 0, 1), (107, .dup, 1), (108, .getfield 282, 3), (111, .iconst 1, 1), (112, .iadd, 1), (113, .putfield 282, 3), (116, .aload_n 0, 1), (117, .getfield 282, 3), (120, .iconst 1, 1), (121, .isub, 1), (122, .ireturn, 1)]
set_option maxRecDepth 20000 in
theorem dn_291_0_2_ok : dn_291_0_2.all (fun q => decide (decode (xm_b n_291) q.1 = .ok (q.2.1, q.2.2))) = true := xa_g_ok (by decide +kernel)
def te_291_0 : Nat → eE := (e_T 31 (e_T 12 (e_T 5 (e_T 1 (e_T 0 (e_L 0 (0, ei_load 0 2 1, 0, 0)) (e_L 1 (0, ei_load 1 0 2, 0, 0))) (e_T 2 (e_L 2 (2, e_nof, 270, 2)) (e_L 5 (0, ei_if1 0 20 8, 0, 0)))) (e_T 9 (e_T 8 (e_L 8 (0, ei_load 2 0 9, 0, 0)) (e_L 9 (0, ei_load 3 0 10, 0, 0))) (e_T 10 (e_L 10 (0, ei_load 4 0 12, 0, 0)) (e_L 12 (0, ei_load 5 0 14, 0, 0))))) (e_T 21 (e_T 17 (e_T 14 (e_L 14 (2, e_nof, 273, 4)) (e_L 17 (0, ei_if1 1 22 20, 0, 0))) (e_T 20 (e_L 20 (0, ei_push (0, (-1)) 21, 0, 0)) (e_L 21 (1, e_nof, 1, 0)))) (e_T 23 (e_T 22 (e_L 22 (0, ei_load 0 2 23, 0, 0)) (e_L 23 (0, ei_getf eft elay 12 3 26, 0, 0))) (e_T 26 (e_L 26 (0, ei_if1 0 32 29, 0, 0)) (e_T 29 (e_L 29 (0, ei_push (0, (-2)) 31, 0, 0)) (e_L 31 (1, e_nof, 1, 0))))))) (e_T 48 (e_T 38 (e_T 33 (e_T 32 (e_L 32 (0, ei_load 0 2 33, 0, 0)) (e_L 33 (0, ei_getf eft elay 12 42 36, 0, 0))) (e_T 36 (e_L 36 (0, ei_push (0, 8) 38, 0, 0)) (e_L 38 (0, ei_if2 1 44 41, 0, 0)))) (e_T 43 (e_T 41 (e_L 41 (0, ei_push (0, (-3)) 43, 0, 0)) (e_L 43 (1, e_nof, 1, 0))) (e_T 44 (e_L 44 (0, ei_load 0 2 45, 0, 0)) (e_T 45 (e_L 45 (0, ei_getf eft elay 12 43 48, 0, 0)) (e_L 48 (0, ei_load 0 2 49, 0, 0)))))) (e_T 54 (e_T 52 (e_T 49 (e_L 49 (0, ei_getf eft elay 12 42 52, 0, 0)) (e_L 52 (0, ei_load 1 0 53, 0, 0))) (e_T 53 (e_L 53 (0, ei_ast elay false 54, 0, 0)) (e_L 54 (0, ei_load 0 2 55, 0, 0)))) (e_T 58 (e_T 55 (e_L 55 (0, ei_getf eft elay 12 44 58, 0, 0)) (e_L 58 (0, ei_load 0 2 59, 0, 0))) (e_T 59 (e_L 59 (0, ei_getf eft elay 12 42 62, 0, 0)) (e_T 62 (e_L 62 (0, ei_load 2 0 63, 0, 0)) (e_L 63 (0, ei_ast elay false 64, 0, 0))))))))
set_option maxRecDepth 20000 in
set_option maxHeartbeats 4000000 in
theorem te_291_0_ok : ∀ pc, e_EOq eft cls elay eI n_291 pc (te_291_0 pc) :=
  (e_Tok2
  (e_Tok2
  (e_Tok2
  (e_Tok2
  (e_Tok2
  (e_Lok (ld_aload_n_0 (x_dk dn_291_0_0_ok 0 rfl)))
  (e_Lok (ld_iload_n_1 (x_dk dn_291_0_0_ok 1 rfl))))
  (e_Tok2
  (e_Lok (lk_12_305 ho_291 (x_dk dn_291_0_0_ok 2 rfl)))
  (e_Lok (e_st (I := eI) (er_ifeq (off := 15) (tg := 20) (x_dk dn_291_0_0_ok 3 rfl) (by decide)) nx_if1))))
  (e_Tok2
  (e_Tok2
  (e_Lok (ld_iload_n_2 (x_dk dn_291_0_0_ok 4 rfl)))
  (e_Lok (ld_iload_n_3 (x_dk dn_291_0_0_ok 5 rfl))))
  (e_Tok2
  (e_Lok (ld_iload_4 (x_dk dn_291_0_0_ok 6 rfl)))
  (e_Lok (ld_iload_5 (x_dk dn_291_0_0_ok 7 rfl))))))
  (e_Tok2
  (e_Tok2
  (e_Tok2
  (e_Lok (lk_12_342 ho_291 (x_dk dn_291_0_0_ok 8 rfl)))
  (e_Lok (e_st (I := eI) (er_ifne (off := 5) (tg := 22) (x_dk dn_291_0_0_ok 9 rfl) (by decide)) nx_if1)))
  (e_Tok2
  (e_Lok (ps_iconst_m1 (x_dk dn_291_0_0_ok 10 rfl)))
  (e_Lok (e_rt (I := eI) (k := 1) ⟨(x_dk dn_291_0_0_ok 11 rfl), rfl⟩))))
  (e_Tok2
  (e_Tok2
  (e_Lok (ld_aload_n_0 (x_dk dn_291_0_0_ok 12 rfl)))
  (e_Lok (lk_12_265g ho_291 (x_dk dn_291_0_0_ok 13 rfl))))
  (e_Tok2
  (e_Lok (e_st (I := eI) (er_ifeq (off := 6) (tg := 32) (x_dk dn_291_0_0_ok 14 rfl) (by decide)) nx_if1))
  (e_Tok2
  (e_Lok (ps_bipush_m2 (x_dk dn_291_0_0_ok 15 rfl)))
  (e_Lok (e_rt (I := eI) (k := 1) ⟨(x_dk dn_291_0_0_ok 16 rfl), rfl⟩)))))))
  (e_Tok2
  (e_Tok2
  (e_Tok2
  (e_Tok2
  (e_Lok (ld_aload_n_0 (x_dk dn_291_0_0_ok 17 rfl)))
  (e_Lok (lk_12_282g ho_291 (x_dk dn_291_0_0_ok 18 rfl))))
  (e_Tok2
  (e_Lok (ps_bipush_8 (x_dk dn_291_0_0_ok 19 rfl)))
  (e_Lok (e_st (I := eI) (er_icmpne (off := 6) (tg := 44) (x_dk dn_291_0_0_ok 20 rfl) (by decide)) nx_if2))))
  (e_Tok2
  (e_Tok2
  (e_Lok (ps_bipush_m3 (x_dk dn_291_0_0_ok 21 rfl)))
  (e_Lok (e_rt (I := eI) (k := 1) ⟨(x_dk dn_291_0_0_ok 22 rfl), rfl⟩)))
  (e_Tok2
  (e_Lok (ld_aload_n_0 (x_dk dn_291_0_0_ok 23 rfl)))
  (e_Tok2
  (e_Lok (lk_12_116g ho_291 (x_dk dn_291_0_0_ok 24 rfl)))
  (e_Lok (ld_aload_n_0 (x_dk dn_291_0_1_ok 0 rfl)))))))
  (e_Tok2
  (e_Tok2
  (e_Tok2
  (e_Lok (lk_12_282g ho_291 (x_dk dn_291_0_1_ok 1 rfl)))
  (e_Lok (ld_iload_n_1 (x_dk dn_291_0_1_ok 2 rfl))))
  (e_Tok2
  (e_Lok (sm_iastore (x_dk dn_291_0_1_ok 3 rfl)))
  (e_Lok (ld_aload_n_0 (x_dk dn_291_0_1_ok 4 rfl)))))
  (e_Tok2
  (e_Tok2
  (e_Lok (lk_12_119g ho_291 (x_dk dn_291_0_1_ok 5 rfl)))
  (e_Lok (ld_aload_n_0 (x_dk dn_291_0_1_ok 6 rfl))))
  (e_Tok2
  (e_Lok (lk_12_282g ho_291 (x_dk dn_291_0_1_ok 7 rfl)))
  (e_Tok2
  (e_Lok (ld_iload_n_2 (x_dk dn_291_0_1_ok 8 rfl)))
  (e_Lok (sm_iastore (x_dk dn_291_0_1_ok 9 rfl)))))))))
def te_291_35 : Nat → eE := (e_T 93 (e_T 75 (e_T 69 (e_T 65 (e_T 64 (e_L 64 (0, ei_load 0 2 65, 0, 0)) (e_L 65 (0, ei_getf eft elay 12 45 68, 0, 0))) (e_T 68 (e_L 68 (0, ei_load 0 2 69, 0, 0)) (e_L 69 (0, ei_getf eft elay 12 42 72, 0, 0)))) (e_T 73 (e_T 72 (e_L 72 (0, ei_load 3 0 73, 0, 0)) (e_L 73 (0, ei_ast elay false 74, 0, 0))) (e_T 74 (e_L 74 (0, ei_load 0 2 75, 0, 0)) (e_L 75 (0, ei_getf eft elay 12 46 78, 0, 0))))) (e_T 84 (e_T 79 (e_T 78 (e_L 78 (0, ei_load 0 2 79, 0, 0)) (e_L 79 (0, ei_getf eft elay 12 42 82, 0, 0))) (e_T 82 (e_L 82 (0, ei_load 4 0 84, 0, 0)) (e_L 84 (0, ei_ast elay false 85, 0, 0)))) (e_T 86 (e_T 85 (e_L 85 (0, ei_load 0 2 86, 0, 0)) (e_L 86 (0, ei_getf eft elay 12 47 89, 0, 0))) (e_T 89 (e_L 89 (0, ei_load 0 2 90, 0, 0)) (e_T 90 (e_L 90 (0, ei_getf eft elay 12 42 93, 0, 0)) (e_L 93 (0, ei_load 5 0 95, 0, 0))))))) (e_T 107 (e_T 100 (e_T 96 (e_T 95 (e_L 95 (0, ei_ast elay false 96, 0, 0)) (e_L 96 (0, ei_load 0 2 97, 0, 0))) (e_T 97 (e_L 97 (0, ei_getf eft elay 12 48 100, 0, 0)) (e_L 100 (0, ei_load 0 2 101, 0, 0)))) (e_T 104 (e_T 101 (e_L 101 (0, ei_getf eft elay 12 42 104, 0, 0)) (e_L 104 (0, ei_push (0, (-1)) 105, 0, 0))) (e_T 105 (e_L 105 (0, ei_ast elay false 106, 0, 0)) (e_T 106 (e_L 106 (0, ei_load 0 2 107, 0, 0)) (e_L 107 (0, ei_stk ef_dup 108, 0, 0)))))) (e_T 113 (e_T 111 (e_T 108 (e_L 108 (0, ei_getf eft elay 12 42 111, 0, 0)) (e_L 111 (0, ei_push (0, 1) 112, 0, 0))) (e_T 112 (e_L 112 (0, ei_bin eF_add 113, 0, 0)) (e_L 113 (0, ei_putf eft elay 12 42 0 116, 0, 0)))) (e_T 117 (e_T 116 (e_L 116 (0, ei_load 0 2 117, 0, 0)) (e_L 117 (0, ei_getf eft elay 12 42 120, 0, 0))) (e_T 120 (e_L 120 (0, ei_push (0, 1) 121, 0, 0)) (e_T 121 (e_L 121 (0, ei_bin eF_sub 122, 0, 0)) (e_L 122 (1, e_nof, 1, 0))))))))
set_option maxRecDepth 20000 in
set_option maxHeartbeats 4000000 in
theorem te_291_35_ok : ∀ pc, e_EOq eft cls elay eI n_291 pc (te_291_35 pc) :=
  (e_Tok2
  (e_Tok2
  (e_Tok2
  (e_Tok2
  (e_Tok2
  (e_Lok (ld_aload_n_0 (x_dk dn_291_0_1_ok 10 rfl)))
  (e_Lok (lk_12_122g ho_291 (x_dk dn_291_0_1_ok 11 rfl))))
  (e_Tok2
  (e_Lok (ld_aload_n_0 (x_dk dn_291_0_1_ok 12 rfl)))
  (e_Lok (lk_12_282g ho_291 (x_dk dn_291_0_1_ok 13 rfl)))))
  (e_Tok2
  (e_Tok2
  (e_Lok (ld_iload_n_3 (x_dk dn_291_0_1_ok 14 rfl)))
  (e_Lok (sm_iastore (x_dk dn_291_0_1_ok 15 rfl))))
  (e_Tok2
  (e_Lok (ld_aload_n_0 (x_dk dn_291_0_1_ok 16 rfl)))
  (e_Lok (lk_12_125g ho_291 (x_dk dn_291_0_1_ok 17 rfl))))))
  (e_Tok2
  (e_Tok2
  (e_Tok2
  (e_Lok (ld_aload_n_0 (x_dk dn_291_0_1_ok 18 rfl)))
  (e_Lok (lk_12_282g ho_291 (x_dk dn_291_0_1_ok 19 rfl))))
  (e_Tok2
  (e_Lok (ld_iload_4 (x_dk dn_291_0_1_ok 20 rfl)))
  (e_Lok (sm_iastore (x_dk dn_291_0_1_ok 21 rfl)))))
  (e_Tok2
  (e_Tok2
  (e_Lok (ld_aload_n_0 (x_dk dn_291_0_1_ok 22 rfl)))
  (e_Lok (lk_12_128g ho_291 (x_dk dn_291_0_1_ok 23 rfl))))
  (e_Tok2
  (e_Lok (ld_aload_n_0 (x_dk dn_291_0_1_ok 24 rfl)))
  (e_Tok2
  (e_Lok (lk_12_282g ho_291 (x_dk dn_291_0_2_ok 0 rfl)))
  (e_Lok (ld_iload_5 (x_dk dn_291_0_2_ok 1 rfl))))))))
  (e_Tok2
  (e_Tok2
  (e_Tok2
  (e_Tok2
  (e_Lok (sm_iastore (x_dk dn_291_0_2_ok 2 rfl)))
  (e_Lok (ld_aload_n_0 (x_dk dn_291_0_2_ok 3 rfl))))
  (e_Tok2
  (e_Lok (lk_12_131g ho_291 (x_dk dn_291_0_2_ok 4 rfl)))
  (e_Lok (ld_aload_n_0 (x_dk dn_291_0_2_ok 5 rfl)))))
  (e_Tok2
  (e_Tok2
  (e_Lok (lk_12_282g ho_291 (x_dk dn_291_0_2_ok 6 rfl)))
  (e_Lok (ps_iconst_m1 (x_dk dn_291_0_2_ok 7 rfl))))
  (e_Tok2
  (e_Lok (sm_iastore (x_dk dn_291_0_2_ok 8 rfl)))
  (e_Tok2
  (e_Lok (ld_aload_n_0 (x_dk dn_291_0_2_ok 9 rfl)))
  (e_Lok (e_st (I := eI) (er_dup (x_dk dn_291_0_2_ok 10 rfl)) (nx_stk bf_dup)))))))
  (e_Tok2
  (e_Tok2
  (e_Tok2
  (e_Lok (lk_12_282g ho_291 (x_dk dn_291_0_2_ok 11 rfl)))
  (e_Lok (ps_iconst_1 (x_dk dn_291_0_2_ok 12 rfl))))
  (e_Tok2
  (e_Lok (sm_iadd (x_dk dn_291_0_2_ok 13 rfl)))
  (e_Lok (lk_12_282p ho_291 (x_dk dn_291_0_2_ok 14 rfl)))))
  (e_Tok2
  (e_Tok2
  (e_Lok (ld_aload_n_0 (x_dk dn_291_0_2_ok 15 rfl)))
  (e_Lok (lk_12_282g ho_291 (x_dk dn_291_0_2_ok 16 rfl))))
  (e_Tok2
  (e_Lok (ps_iconst_1 (x_dk dn_291_0_2_ok 17 rfl)))
  (e_Tok2
  (e_Lok (sm_isub (x_dk dn_291_0_2_ok 18 rfl)))
  (e_Lok (e_rt (I := eI) (k := 1) ⟨(x_dk dn_291_0_2_ok 19 rfl), rfl⟩))))))))
def te_291 : Nat → eE := (e_T 63 te_291_0 te_291_35)
theorem te_291_ok : ∀ pc, e_EOq eft cls elay eI n_291 pc (te_291 pc) := (e_Tok2 (te_291_0_ok) (te_291_35_ok))
theorem ho_292 : (xm_y n_292).cls = "RobotCellHouseModel" := rfl
def dn_292_0_0 : List (Nat × Instr × Nat) := [(0, .iload_n 1, 1), (1, .i2l, 1), (2, .lconst 0, 1), (3, .aload_n 0, 1), (4, .getfield 282, 3), (7, .iconst 1, 1), (8, .isub, 1), (9, .i2l, 1), (10, .invokestatic 301, 3), (13, .ifCond .eq 17, 3), (16, .iload_n 2, 1), (17, .i2l, 1), (18, .ldc2_w 361, 3), (21, .ldc2_w 363, 3), (24, .invokestatic 301, 3), (27, .ifCond .ne 5, 3), (30, .iconst (-1), 1), (31, .ireturn, 1), (32, .aload_n 0, 1), (33, .getfield 265, 3), (36, .ifCond .eq 6, 3), (39, .bipush (-2), 2), (41, .ireturn, 1), (42, .aload_n 0, 1), (43, .getfield 131, 3)]
set_option maxRecDepth 20000 in
theorem dn_292_0_0_ok : dn_292_0_0.all (fun q => decide (decode (xm_b n_292) q.1 = .ok (q.2.1, q.2.2))) = true := xa_g_ok (by decide +kernel)
def dn_292_0_1 : List (Nat × Instr × Nat) := [(46, .iload_n 1, 1), (47, .iaload, 1), (48, .istore_n 3, 1), (49, .aload_n 0, 1), (50, .getfield 131, 3), (53, .iload_n 1, 1), (54, .iload_n 2, 1), (55, .iastore, 1), (56, .iload_n 3, 1), (57, .ireturn, 1)]
set_option maxRecDepth 20000 in
theorem dn_292_0_1_ok : dn_292_0_1.all (fun q => decide (decode (xm_b n_292) q.1 = .ok (q.2.1, q.2.2))) = true := xa_g_ok (by decide +kernel)
def te_292_0 : Nat → eE := (e_T 30 (e_T 9 (e_T 3 (e_T 1 (e_T 0 (e_L 0 (0, ei_load 1 0 1, 0, 0)) (e_L 1 (0, ei_un (fun x => (4, x)) 2, 0, 0))) (e_T 2 (e_L 2 (0, ei_push (4, 0) 3, 0, 0)) (e_L 3 (0, ei_load 0 2 4, 0, 0)))) (e_T 7 (e_T 4 (e_L 4 (0, ei_getf eft elay 12 42 7, 0, 0)) (e_L 7 (0, ei_push (0, 1) 8, 0, 0))) (e_T 8 (e_L 8 (0, ei_bin eF_sub 9, 0, 0)) (e_L 9 (0, ei_un (fun x => (4, x)) 10, 0, 0))))) (e_T 17 (e_T 13 (e_T 10 (e_L 10 (2, e_nof, 266, 3)) (e_L 13 (0, ei_if1 0 30 16, 0, 0))) (e_T 16 (e_L 16 (0, ei_load 2 0 17, 0, 0)) (e_L 17 (0, ei_un (fun x => (4, x)) 18, 0, 0)))) (e_T 21 (e_T 18 (e_L 18 (0, ei_push (4, (-1)) 21, 0, 0)) (e_L 21 (0, ei_push (4, 32000) 24, 0, 0))) (e_T 24 (e_L 24 (2, e_nof, 266, 3)) (e_T 27 (e_L 27 (0, ei_if1 1 32 30, 0, 0)) (e_L 30 (0, ei_push (0, (-1)) 31, 0, 0))))))) (e_T 46 (e_T 36 (e_T 32 (e_T 31 (e_L 31 (1, e_nof, 1, 0)) (e_L 32 (0, ei_load 0 2 33, 0, 0))) (e_T 33 (e_L 33 (0, ei_getf eft elay 12 3 36, 0, 0)) (e_L 36 (0, ei_if1 0 42 39, 0, 0)))) (e_T 41 (e_T 39 (e_L 39 (0, ei_push (0, (-2)) 41, 0, 0)) (e_L 41 (1, e_nof, 1, 0))) (e_T 42 (e_L 42 (0, ei_load 0 2 43, 0, 0)) (e_T 43 (e_L 43 (0, ei_getf eft elay 12 48 46, 0, 0)) (e_L 46 (0, ei_load 1 0 47, 0, 0)))))) (e_T 50 (e_T 48 (e_T 47 (e_L 47 (0, ei_ald elay false 48, 0, 0)) (e_L 48 (0, ei_stor 3 0 49, 0, 0))) (e_T 49 (e_L 49 (0, ei_load 0 2 50, 0, 0)) (e_L 50 (0, ei_getf eft elay 12 48 53, 0, 0)))) (e_T 54 (e_T 53 (e_L 53 (0, ei_load 1 0 54, 0, 0)) (e_L 54 (0, ei_load 2 0 55, 0, 0))) (e_T 55 (e_L 55 (0, ei_ast elay false 56, 0, 0)) (e_T 56 (e_L 56 (0, ei_load 3 0 57, 0, 0)) (e_L 57 (1, e_nof, 1, 0))))))))
set_option maxRecDepth 20000 in
set_option maxHeartbeats 4000000 in
theorem te_292_0_ok : ∀ pc, e_EOq eft cls elay eI n_292 pc (te_292_0 pc) :=
  (e_Tok2
  (e_Tok2
  (e_Tok2
  (e_Tok2
  (e_Tok2
  (e_Lok (ld_iload_n_1 (x_dk dn_292_0_0_ok 0 rfl)))
  (e_Lok (e_st (I := eI) (er_i2l (x_dk dn_292_0_0_ok 1 rfl)) (nx_un (fun _ => rfl)))))
  (e_Tok2
  (e_Lok (ps_lconst_0 (x_dk dn_292_0_0_ok 2 rfl)))
  (e_Lok (ld_aload_n_0 (x_dk dn_292_0_0_ok 3 rfl)))))
  (e_Tok2
  (e_Tok2
  (e_Lok (lk_12_282g ho_292 (x_dk dn_292_0_0_ok 4 rfl)))
  (e_Lok (ps_iconst_1 (x_dk dn_292_0_0_ok 5 rfl))))
  (e_Tok2
  (e_Lok (sm_isub (x_dk dn_292_0_0_ok 6 rfl)))
  (e_Lok (e_st (I := eI) (er_i2l (x_dk dn_292_0_0_ok 7 rfl)) (nx_un (fun _ => rfl)))))))
  (e_Tok2
  (e_Tok2
  (e_Tok2
  (e_Lok (lk_12_301 ho_292 (x_dk dn_292_0_0_ok 8 rfl)))
  (e_Lok (e_st (I := eI) (er_ifeq (off := 17) (tg := 30) (x_dk dn_292_0_0_ok 9 rfl) (by decide)) nx_if1)))
  (e_Tok2
  (e_Lok (ld_iload_n_2 (x_dk dn_292_0_0_ok 10 rfl)))
  (e_Lok (e_st (I := eI) (er_i2l (x_dk dn_292_0_0_ok 11 rfl)) (nx_un (fun _ => rfl))))))
  (e_Tok2
  (e_Tok2
  (e_Lok (e_st (I := eI) (er_ldc2 (ix := 361) (z := (-1)) (v := (-1)) (x_dk dn_292_0_0_ok 12 rfl) (in_t11 (List.mem_of_getElem? (i := 109) rfl) rfl) (by decide)) (nx_push (Or.inl rfl))))
  (e_Lok (e_st (I := eI) (er_ldc2 (ix := 363) (z := 32000) (v := 32000) (x_dk dn_292_0_0_ok 13 rfl) (in_t11 (List.mem_of_getElem? (i := 110) rfl) rfl) (by decide)) (nx_push (Or.inl rfl)))))
  (e_Tok2
  (e_Lok (lk_12_301 ho_292 (x_dk dn_292_0_0_ok 14 rfl)))
  (e_Tok2
  (e_Lok (e_st (I := eI) (er_ifne (off := 5) (tg := 32) (x_dk dn_292_0_0_ok 15 rfl) (by decide)) nx_if1))
  (e_Lok (ps_iconst_m1 (x_dk dn_292_0_0_ok 16 rfl))))))))
  (e_Tok2
  (e_Tok2
  (e_Tok2
  (e_Tok2
  (e_Lok (e_rt (I := eI) (k := 1) ⟨(x_dk dn_292_0_0_ok 17 rfl), rfl⟩))
  (e_Lok (ld_aload_n_0 (x_dk dn_292_0_0_ok 18 rfl))))
  (e_Tok2
  (e_Lok (lk_12_265g ho_292 (x_dk dn_292_0_0_ok 19 rfl)))
  (e_Lok (e_st (I := eI) (er_ifeq (off := 6) (tg := 42) (x_dk dn_292_0_0_ok 20 rfl) (by decide)) nx_if1))))
  (e_Tok2
  (e_Tok2
  (e_Lok (ps_bipush_m2 (x_dk dn_292_0_0_ok 21 rfl)))
  (e_Lok (e_rt (I := eI) (k := 1) ⟨(x_dk dn_292_0_0_ok 22 rfl), rfl⟩)))
  (e_Tok2
  (e_Lok (ld_aload_n_0 (x_dk dn_292_0_0_ok 23 rfl)))
  (e_Tok2
  (e_Lok (lk_12_131g ho_292 (x_dk dn_292_0_0_ok 24 rfl)))
  (e_Lok (ld_iload_n_1 (x_dk dn_292_0_1_ok 0 rfl)))))))
  (e_Tok2
  (e_Tok2
  (e_Tok2
  (e_Lok (sm_iaload (x_dk dn_292_0_1_ok 1 rfl)))
  (e_Lok (e_st (I := eI) (er_istore_n (i := 3) (x_dk dn_292_0_1_ok 2 rfl) (by decide +kernel)) nx_stor)))
  (e_Tok2
  (e_Lok (ld_aload_n_0 (x_dk dn_292_0_1_ok 3 rfl)))
  (e_Lok (lk_12_131g ho_292 (x_dk dn_292_0_1_ok 4 rfl)))))
  (e_Tok2
  (e_Tok2
  (e_Lok (ld_iload_n_1 (x_dk dn_292_0_1_ok 5 rfl)))
  (e_Lok (ld_iload_n_2 (x_dk dn_292_0_1_ok 6 rfl))))
  (e_Tok2
  (e_Lok (sm_iastore (x_dk dn_292_0_1_ok 7 rfl)))
  (e_Tok2
  (e_Lok (ld_iload_n_3 (x_dk dn_292_0_1_ok 8 rfl)))
  (e_Lok (e_rt (I := eI) (k := 1) ⟨(x_dk dn_292_0_1_ok 9 rfl), rfl⟩))))))))
def te_292 : Nat → eE := te_292_0
theorem te_292_ok : ∀ pc, e_EOq eft cls elay eI n_292 pc (te_292 pc) := te_292_0_ok
theorem ho_293 : (xm_y n_293).cls = "RobotCellHouseModel" := rfl
def dn_293_0_0 : List (Nat × Instr × Nat) := [(0, .iload_n 1, 1), (1, .i2l, 1), (2, .lconst 0, 1), (3, .ldc2_w 365, 3), (6, .invokestatic 301, 3), (9, .ifCond .ne 5, 3), (12, .iconst (-1), 1), (13, .ireturn, 1), (14, .aload_n 0, 1), (15, .getfield 265, 3), (18, .ifCond .eq 6, 3), (21, .bipush (-2), 2), (23, .ireturn, 1), (24, .aload_n 0, 1), (25, .getfield 285, 3), (28, .bipush 8, 2), (30, .if_icmp .ne 6, 3), (33, .bipush (-3), 2), (35, .ireturn, 1), (36, .aload_n 0, 1), (37, .getfield 134, 3), (40, .aload_n 0, 1), (41, .getfield 285, 3), (44, .iload_n 1, 1), (45, .iastore, 1)]
set_option maxRecDepth 20000 in
theorem dn_293_0_0_ok : dn_293_0_0.all (fun q => decide (decode (xm_b n_293) q.1 = .ok (q.2.1, q.2.2))) = true := xa_g_ok (by decide +kernel)
def dn_293_0_1 : List (Nat × Instr × Nat) := [(46, .aload_n 0, 1), (47, .dup, 1), (48, .getfield 285, 3), (51, .iconst 1, 1), (52, .iadd, 1), (53, .putfield 285, 3), (56, .aload_n 0, 1), (57, .getfield 285, 3), (60, .iconst 1, 1), (61, .isub, 1), (62, .ireturn, 1)]
set_option maxRecDepth 20000 in
theorem dn_293_0_1_ok : dn_293_0_1.all (fun q => decide (decode (xm_b n_293) q.1 = .ok (q.2.1, q.2.2))) = true := xa_g_ok (by decide +kernel)
def te_293_0 : Nat → eE := (e_T 33 (e_T 14 (e_T 3 (e_T 1 (e_T 0 (e_L 0 (0, ei_load 1 0 1, 0, 0)) (e_L 1 (0, ei_un (fun x => (4, x)) 2, 0, 0))) (e_T 2 (e_L 2 (0, ei_push (4, 0) 3, 0, 0)) (e_L 3 (0, ei_push (4, 1000) 6, 0, 0)))) (e_T 9 (e_T 6 (e_L 6 (2, e_nof, 266, 3)) (e_L 9 (0, ei_if1 1 14 12, 0, 0))) (e_T 12 (e_L 12 (0, ei_push (0, (-1)) 13, 0, 0)) (e_T 13 (e_L 13 (1, e_nof, 1, 0)) (e_L 14 (0, ei_load 0 2 15, 0, 0)))))) (e_T 23 (e_T 18 (e_T 15 (e_L 15 (0, ei_getf eft elay 12 3 18, 0, 0)) (e_L 18 (0, ei_if1 0 24 21, 0, 0))) (e_T 21 (e_L 21 (0, ei_push (0, (-2)) 23, 0, 0)) (e_L 23 (1, e_nof, 1, 0)))) (e_T 25 (e_T 24 (e_L 24 (0, ei_load 0 2 25, 0, 0)) (e_L 25 (0, ei_getf eft elay 12 49 28, 0, 0))) (e_T 28 (e_L 28 (0, ei_push (0, 8) 30, 0, 0)) (e_T 30 (e_L 30 (0, ei_if2 1 36 33, 0, 0)) (e_L 33 (0, ei_push (0, (-3)) 35, 0, 0))))))) (e_T 47 (e_T 40 (e_T 36 (e_T 35 (e_L 35 (1, e_nof, 1, 0)) (e_L 36 (0, ei_load 0 2 37, 0, 0))) (e_T 37 (e_L 37 (0, ei_getf eft elay 12 50 40, 0, 0)) (e_L 40 (0, ei_load 0 2 41, 0, 0)))) (e_T 44 (e_T 41 (e_L 41 (0, ei_getf eft elay 12 49 44, 0, 0)) (e_L 44 (0, ei_load 1 0 45, 0, 0))) (e_T 45 (e_L 45 (0, ei_ast elay false 46, 0, 0)) (e_T 46 (e_L 46 (0, ei_load 0 2 47, 0, 0)) (e_L 47 (0, ei_stk ef_dup 48, 0, 0)))))) (e_T 53 (e_T 51 (e_T 48 (e_L 48 (0, ei_getf eft elay 12 49 51, 0, 0)) (e_L 51 (0, ei_push (0, 1) 52, 0, 0))) (e_T 52 (e_L 52 (0, ei_bin eF_add 53, 0, 0)) (e_L 53 (0, ei_putf eft elay 12 49 0 56, 0, 0)))) (e_T 57 (e_T 56 (e_L 56 (0, ei_load 0 2 57, 0, 0)) (e_L 57 (0, ei_getf eft elay 12 49 60, 0, 0))) (e_T 60 (e_L 60 (0, ei_push (0, 1) 61, 0, 0)) (e_T 61 (e_L 61 (0, ei_bin eF_sub 62, 0, 0)) (e_L 62 (1, e_nof, 1, 0))))))))
set_option maxRecDepth 20000 in
set_option maxHeartbeats 4000000 in
theorem te_293_0_ok : ∀ pc, e_EOq eft cls elay eI n_293 pc (te_293_0 pc) :=
  (e_Tok2
  (e_Tok2
  (e_Tok2
  (e_Tok2
  (e_Tok2
  (e_Lok (ld_iload_n_1 (x_dk dn_293_0_0_ok 0 rfl)))
  (e_Lok (e_st (I := eI) (er_i2l (x_dk dn_293_0_0_ok 1 rfl)) (nx_un (fun _ => rfl)))))
  (e_Tok2
  (e_Lok (ps_lconst_0 (x_dk dn_293_0_0_ok 2 rfl)))
  (e_Lok (e_st (I := eI) (er_ldc2 (ix := 365) (z := 1000) (v := 1000) (x_dk dn_293_0_0_ok 3 rfl) (in_t11 (List.mem_of_getElem? (i := 115) rfl) rfl) (by decide)) (nx_push (Or.inl rfl))))))
  (e_Tok2
  (e_Tok2
  (e_Lok (lk_12_301 ho_293 (x_dk dn_293_0_0_ok 4 rfl)))
  (e_Lok (e_st (I := eI) (er_ifne (off := 5) (tg := 14) (x_dk dn_293_0_0_ok 5 rfl) (by decide)) nx_if1)))
  (e_Tok2
  (e_Lok (ps_iconst_m1 (x_dk dn_293_0_0_ok 6 rfl)))
  (e_Tok2
  (e_Lok (e_rt (I := eI) (k := 1) ⟨(x_dk dn_293_0_0_ok 7 rfl), rfl⟩))
  (e_Lok (ld_aload_n_0 (x_dk dn_293_0_0_ok 8 rfl)))))))
  (e_Tok2
  (e_Tok2
  (e_Tok2
  (e_Lok (lk_12_265g ho_293 (x_dk dn_293_0_0_ok 9 rfl)))
  (e_Lok (e_st (I := eI) (er_ifeq (off := 6) (tg := 24) (x_dk dn_293_0_0_ok 10 rfl) (by decide)) nx_if1)))
  (e_Tok2
  (e_Lok (ps_bipush_m2 (x_dk dn_293_0_0_ok 11 rfl)))
  (e_Lok (e_rt (I := eI) (k := 1) ⟨(x_dk dn_293_0_0_ok 12 rfl), rfl⟩))))
  (e_Tok2
  (e_Tok2
  (e_Lok (ld_aload_n_0 (x_dk dn_293_0_0_ok 13 rfl)))
  (e_Lok (lk_12_285g ho_293 (x_dk dn_293_0_0_ok 14 rfl))))
  (e_Tok2
  (e_Lok (ps_bipush_8 (x_dk dn_293_0_0_ok 15 rfl)))
  (e_Tok2
  (e_Lok (e_st (I := eI) (er_icmpne (off := 6) (tg := 36) (x_dk dn_293_0_0_ok 16 rfl) (by decide)) nx_if2))
  (e_Lok (ps_bipush_m3 (x_dk dn_293_0_0_ok 17 rfl))))))))
  (e_Tok2
  (e_Tok2
  (e_Tok2
  (e_Tok2
  (e_Lok (e_rt (I := eI) (k := 1) ⟨(x_dk dn_293_0_0_ok 18 rfl), rfl⟩))
  (e_Lok (ld_aload_n_0 (x_dk dn_293_0_0_ok 19 rfl))))
  (e_Tok2
  (e_Lok (lk_12_134g ho_293 (x_dk dn_293_0_0_ok 20 rfl)))
  (e_Lok (ld_aload_n_0 (x_dk dn_293_0_0_ok 21 rfl)))))
  (e_Tok2
  (e_Tok2
  (e_Lok (lk_12_285g ho_293 (x_dk dn_293_0_0_ok 22 rfl)))
  (e_Lok (ld_iload_n_1 (x_dk dn_293_0_0_ok 23 rfl))))
  (e_Tok2
  (e_Lok (sm_iastore (x_dk dn_293_0_0_ok 24 rfl)))
  (e_Tok2
  (e_Lok (ld_aload_n_0 (x_dk dn_293_0_1_ok 0 rfl)))
  (e_Lok (e_st (I := eI) (er_dup (x_dk dn_293_0_1_ok 1 rfl)) (nx_stk bf_dup)))))))
  (e_Tok2
  (e_Tok2
  (e_Tok2
  (e_Lok (lk_12_285g ho_293 (x_dk dn_293_0_1_ok 2 rfl)))
  (e_Lok (ps_iconst_1 (x_dk dn_293_0_1_ok 3 rfl))))
  (e_Tok2
  (e_Lok (sm_iadd (x_dk dn_293_0_1_ok 4 rfl)))
  (e_Lok (lk_12_285p ho_293 (x_dk dn_293_0_1_ok 5 rfl)))))
  (e_Tok2
  (e_Tok2
  (e_Lok (ld_aload_n_0 (x_dk dn_293_0_1_ok 6 rfl)))
  (e_Lok (lk_12_285g ho_293 (x_dk dn_293_0_1_ok 7 rfl))))
  (e_Tok2
  (e_Lok (ps_iconst_1 (x_dk dn_293_0_1_ok 8 rfl)))
  (e_Tok2
  (e_Lok (sm_isub (x_dk dn_293_0_1_ok 9 rfl)))
  (e_Lok (e_rt (I := eI) (k := 1) ⟨(x_dk dn_293_0_1_ok 10 rfl), rfl⟩))))))))
def te_293 : Nat → eE := te_293_0
theorem te_293_ok : ∀ pc, e_EOq eft cls elay eI n_293 pc (te_293 pc) := te_293_0_ok
end
end
-- part 41au
section
noncomputable section
theorem ho_294 : (xm_y n_294).cls = "RobotCellHouseModel" := rfl
def dn_294_0_0 : List (Nat × Instr × Nat) := [(0, .iload_n 1, 1), (1, .i2l, 1), (2, .lconst 0, 1), (3, .ldc2_w 367, 3), (6, .invokestatic 301, 3), (9, .ifCond .ne 5, 3), (12, .iconst (-1), 1), (13, .ireturn, 1), (14, .aload_n 0, 1), (15, .getfield 265, 3), (18, .ifCond .eq 6, 3), (21, .bipush (-2), 2), (23, .ireturn, 1), (24, .aload_n 0, 1), (25, .getfield 137, 3), (28, .iload_n 1, 1), (29, .iload_n 2, 1), (30, .bastore, 1), (31, .iconst 0, 1), (32, .ireturn, 1)]
set_option maxRecDepth 20000 in
theorem dn_294_0_0_ok : dn_294_0_0.all (fun q => decide (decode (xm_b n_294) q.1 = .ok (q.2.1, q.2.2))) = true := xa_g_ok (by decide +kernel)
def te_294_0 : Nat → eE := (e_T 15 (e_T 6 (e_T 1 (e_T 0 (e_L 0 (0, ei_load 1 0 1, 0, 0)) (e_L 1 (0, ei_un (fun x => (4, x)) 2, 0, 0))) (e_T 2 (e_L 2 (0, ei_push (4, 0) 3, 0, 0)) (e_T 3 (e_L 3 (0, ei_push (4, 7) 6, 0, 0)) (e_L 6 (2, e_nof, 266, 3))))) (e_T 12 (e_T 9 (e_L 9 (0, ei_if1 1 14 12, 0, 0)) (e_L 12 (0, ei_push (0, (-1)) 13, 0, 0))) (e_T 13 (e_L 13 (1, e_nof, 1, 0)) (e_T 14 (e_L 14 (0, ei_load 0 2 15, 0, 0)) (e_L 15 (0, ei_getf eft elay 12 3 18, 0, 0)))))) (e_T 25 (e_T 21 (e_T 18 (e_L 18 (0, ei_if1 0 24 21, 0, 0)) (e_L 21 (0, ei_push (0, (-2)) 23, 0, 0))) (e_T 23 (e_L 23 (1, e_nof, 1, 0)) (e_T 24 (e_L 24 (0, ei_load 0 2 25, 0, 0)) (e_L 25 (0, ei_getf eft elay 12 51 28, 0, 0))))) (e_T 29 (e_T 28 (e_L 28 (0, ei_load 1 0 29, 0, 0)) (e_L 29 (0, ei_load 2 0 30, 0, 0))) (e_T 30 (e_L 30 (0, ei_ast elay true 31, 0, 0)) (e_T 31 (e_L 31 (0, ei_push (0, 0) 32, 0, 0)) (e_L 32 (1, e_nof, 1, 0)))))))
set_option maxRecDepth 20000 in
set_option maxHeartbeats 4000000 in
theorem te_294_0_ok : ∀ pc, e_EOq eft cls elay eI n_294 pc (te_294_0 pc) :=
  (e_Tok2
  (e_Tok2
  (e_Tok2
  (e_Tok2
  (e_Lok (ld_iload_n_1 (x_dk dn_294_0_0_ok 0 rfl)))
  (e_Lok (e_st (I := eI) (er_i2l (x_dk dn_294_0_0_ok 1 rfl)) (nx_un (fun _ => rfl)))))
  (e_Tok2
  (e_Lok (ps_lconst_0 (x_dk dn_294_0_0_ok 2 rfl)))
  (e_Tok2
  (e_Lok (e_st (I := eI) (er_ldc2 (ix := 367) (z := 7) (v := 7) (x_dk dn_294_0_0_ok 3 rfl) (in_t11 (List.mem_of_getElem? (i := 120) rfl) rfl) (by decide)) (nx_push (Or.inl rfl))))
  (e_Lok (lk_12_301 ho_294 (x_dk dn_294_0_0_ok 4 rfl))))))
  (e_Tok2
  (e_Tok2
  (e_Lok (e_st (I := eI) (er_ifne (off := 5) (tg := 14) (x_dk dn_294_0_0_ok 5 rfl) (by decide)) nx_if1))
  (e_Lok (ps_iconst_m1 (x_dk dn_294_0_0_ok 6 rfl))))
  (e_Tok2
  (e_Lok (e_rt (I := eI) (k := 1) ⟨(x_dk dn_294_0_0_ok 7 rfl), rfl⟩))
  (e_Tok2
  (e_Lok (ld_aload_n_0 (x_dk dn_294_0_0_ok 8 rfl)))
  (e_Lok (lk_12_265g ho_294 (x_dk dn_294_0_0_ok 9 rfl)))))))
  (e_Tok2
  (e_Tok2
  (e_Tok2
  (e_Lok (e_st (I := eI) (er_ifeq (off := 6) (tg := 24) (x_dk dn_294_0_0_ok 10 rfl) (by decide)) nx_if1))
  (e_Lok (ps_bipush_m2 (x_dk dn_294_0_0_ok 11 rfl))))
  (e_Tok2
  (e_Lok (e_rt (I := eI) (k := 1) ⟨(x_dk dn_294_0_0_ok 12 rfl), rfl⟩))
  (e_Tok2
  (e_Lok (ld_aload_n_0 (x_dk dn_294_0_0_ok 13 rfl)))
  (e_Lok (lk_12_137g ho_294 (x_dk dn_294_0_0_ok 14 rfl))))))
  (e_Tok2
  (e_Tok2
  (e_Lok (ld_iload_n_1 (x_dk dn_294_0_0_ok 15 rfl)))
  (e_Lok (ld_iload_n_2 (x_dk dn_294_0_0_ok 16 rfl))))
  (e_Tok2
  (e_Lok (e_st (I := eI) (er_bastore (x_dk dn_294_0_0_ok 17 rfl)) nx_ast))
  (e_Tok2
  (e_Lok (ps_iconst_0 (x_dk dn_294_0_0_ok 18 rfl)))
  (e_Lok (e_rt (I := eI) (k := 1) ⟨(x_dk dn_294_0_0_ok 19 rfl), rfl⟩)))))))
def te_294 : Nat → eE := te_294_0
theorem te_294_ok : ∀ pc, e_EOq eft cls elay eI n_294 pc (te_294 pc) := te_294_0_ok
theorem ho_295 : (xm_y n_295).cls = "RobotCellHouseModel" := rfl
def dn_295_0_0 : List (Nat × Instr × Nat) := [(0, .iload_n 1, 1), (1, .i2l, 1), (2, .lconst 0, 1), (3, .ldc2_w 352, 3), (6, .invokestatic 301, 3), (9, .ifCond .eq 15, 3), (12, .iload_n 2, 1), (13, .i2l, 1), (14, .lconst 0, 1), (15, .ldc2_w 352, 3), (18, .invokestatic 301, 3), (21, .ifCond .ne 5, 3), (24, .iconst (-1), 1), (25, .ireturn, 1), (26, .iconst 0, 1), (27, .istore 4, 2), (29, .iload_n 1, 1), (30, .istore 5, 2), (32, .iload 5, 2), (34, .ifCond .lt 33, 3), (37, .iload 4, 2), (39, .ifCond .ne 28, 3), (42, .iload 5, 2), (44, .iload_n 2, 1), (45, .if_icmp .ne 7, 3)]
set_option maxRecDepth 20000 in
theorem dn_295_0_0_ok : dn_295_0_0.all (fun q => decide (decode (xm_b n_295) q.1 = .ok (q.2.1, q.2.2))) = true := xa_g_ok (by decide +kernel)
def dn_295_0_1 : List (Nat × Instr × Nat) := [(48, .iconst 1, 1), (49, .goto 4, 3), (52, .iconst 0, 1), (53, .istore 4, 2), (55, .aload_n 0, 1), (56, .getfield 140, 3), (59, .iload 5, 2), (61, .iaload, 1), (62, .istore 5, 2), (64, .goto (-32), 3), (67, .aload_n 0, 1), (68, .getfield 265, 3), (71, .ifCond .ne 17, 3), (74, .aload_n 0, 1), (75, .getfield 140, 3), (78, .iload_n 2, 1), (79, .iaload, 1), (80, .ifCond .ge 8, 3), (83, .iload 4, 2), (85, .ifCond .eq 6, 3), (88, .bipush (-2), 2), (90, .ireturn, 1), (91, .aload_n 0, 1), (92, .getfield 140, 3), (95, .iload_n 2, 1)]
set_option maxRecDepth 20000 in
theorem dn_295_0_1_ok : dn_295_0_1.all (fun q => decide (decode (xm_b n_295) q.1 = .ok (q.2.1, q.2.2))) = true := xa_g_ok (by decide +kernel)
def dn_295_0_2 : List (Nat × Instr × Nat) := [(96, .iload_n 1, 1), (97, .iastore, 1), (98, .aload_n 0, 1), (99, .getfield 143, 3), (102, .iload_n 2, 1), (103, .iload_n 3, 1), (104, .bastore, 1), (105, .iconst 0, 1), (106, .ireturn, 1)]
set_option maxRecDepth 20000 in
theorem dn_295_0_2_ok : dn_295_0_2.all (fun q => decide (decode (xm_b n_295) q.1 = .ok (q.2.1, q.2.2))) = true := xa_g_ok (by decide +kernel)
def te_295_0 : Nat → eE := (e_T 25 (e_T 12 (e_T 2 (e_T 0 (e_L 0 (0, ei_load 1 0 1, 0, 0)) (e_T 1 (e_L 1 (0, ei_un (fun x => (4, x)) 2, 0, 0)) (e_L 2 (0, ei_push (4, 0) 3, 0, 0)))) (e_T 6 (e_T 3 (e_L 3 (0, ei_push (4, 63) 6, 0, 0)) (e_L 6 (2, e_nof, 266, 3))) (e_T 9 (e_L 9 (0, ei_if1 0 24 12, 0, 0)) (e_L 12 (0, ei_load 2 0 13, 0, 0))))) (e_T 15 (e_T 13 (e_L 13 (0, ei_un (fun x => (4, x)) 14, 0, 0)) (e_T 14 (e_L 14 (0, ei_push (4, 0) 15, 0, 0)) (e_L 15 (0, ei_push (4, 63) 18, 0, 0)))) (e_T 21 (e_T 18 (e_L 18 (2, e_nof, 266, 3)) (e_L 21 (0, ei_if1 1 26 24, 0, 0))) (e_T 24 (e_L 24 (0, ei_push (0, (-1)) 25, 0, 0)) (e_L 25 (1, e_nof, 1, 0)))))) (e_T 37 (e_T 29 (e_T 26 (e_L 26 (0, ei_push (0, 0) 27, 0, 0)) (e_T 27 (e_L 27 (0, ei_stor 4 0 29, 0, 0)) (e_L 29 (0, ei_load 1 0 30, 0, 0)))) (e_T 32 (e_T 30 (e_L 30 (0, ei_stor 5 0 32, 0, 0)) (e_L 32 (0, ei_load 5 0 34, 0, 0))) (e_T 34 (e_L 34 (0, ei_if1 2 67 37, 0, 0)) (e_L 37 (0, ei_load 4 0 39, 0, 0))))) (e_T 45 (e_T 42 (e_T 39 (e_L 39 (0, ei_if1 1 67 42, 0, 0)) (e_L 42 (0, ei_load 5 0 44, 0, 0))) (e_T 44 (e_L 44 (0, ei_load 2 0 45, 0, 0)) (e_L 45 (0, ei_if2 1 52 48, 0, 0)))) (e_T 49 (e_T 48 (e_L 48 (0, ei_push (0, 1) 49, 0, 0)) (e_L 49 (0, ei_goto 53, 0, 0))) (e_T 52 (e_L 52 (0, ei_push (0, 0) 53, 0, 0)) (e_L 53 (0, ei_stor 4 0 55, 0, 0)))))))
set_option maxRecDepth 20000 in
set_option maxHeartbeats 4000000 in
theorem te_295_0_ok : ∀ pc, e_EOq eft cls elay eI n_295 pc (te_295_0 pc) :=
  (e_Tok2
  (e_Tok2
  (e_Tok2
  (e_Tok2
  (e_Lok (ld_iload_n_1 (x_dk dn_295_0_0_ok 0 rfl)))
  (e_Tok2
  (e_Lok (e_st (I := eI) (er_i2l (x_dk dn_295_0_0_ok 1 rfl)) (nx_un (fun _ => rfl))))
  (e_Lok (ps_lconst_0 (x_dk dn_295_0_0_ok 2 rfl)))))
  (e_Tok2
  (e_Tok2
  (e_Lok (e_st (I := eI) (er_ldc2 (ix := 352) (z := 63) (v := 63) (x_dk dn_295_0_0_ok 3 rfl) (in_t11 (List.mem_of_getElem? (i := 81) rfl) rfl) (by decide)) (nx_push (Or.inl rfl))))
  (e_Lok (lk_12_301 ho_295 (x_dk dn_295_0_0_ok 4 rfl))))
  (e_Tok2
  (e_Lok (e_st (I := eI) (er_ifeq (off := 15) (tg := 24) (x_dk dn_295_0_0_ok 5 rfl) (by decide)) nx_if1))
  (e_Lok (ld_iload_n_2 (x_dk dn_295_0_0_ok 6 rfl))))))
  (e_Tok2
  (e_Tok2
  (e_Lok (e_st (I := eI) (er_i2l (x_dk dn_295_0_0_ok 7 rfl)) (nx_un (fun _ => rfl))))
  (e_Tok2
  (e_Lok (ps_lconst_0 (x_dk dn_295_0_0_ok 8 rfl)))
  (e_Lok (e_st (I := eI) (er_ldc2 (ix := 352) (z := 63) (v := 63) (x_dk dn_295_0_0_ok 9 rfl) (in_t11 (List.mem_of_getElem? (i := 81) rfl) rfl) (by decide)) (nx_push (Or.inl rfl))))))
  (e_Tok2
  (e_Tok2
  (e_Lok (lk_12_301 ho_295 (x_dk dn_295_0_0_ok 10 rfl)))
  (e_Lok (e_st (I := eI) (er_ifne (off := 5) (tg := 26) (x_dk dn_295_0_0_ok 11 rfl) (by decide)) nx_if1)))
  (e_Tok2
  (e_Lok (ps_iconst_m1 (x_dk dn_295_0_0_ok 12 rfl)))
  (e_Lok (e_rt (I := eI) (k := 1) ⟨(x_dk dn_295_0_0_ok 13 rfl), rfl⟩))))))
  (e_Tok2
  (e_Tok2
  (e_Tok2
  (e_Lok (ps_iconst_0 (x_dk dn_295_0_0_ok 14 rfl)))
  (e_Tok2
  (e_Lok (e_st (I := eI) (er_istore (i := 4) (x_dk dn_295_0_0_ok 15 rfl) (by decide +kernel)) nx_stor))
  (e_Lok (ld_iload_n_1 (x_dk dn_295_0_0_ok 16 rfl)))))
  (e_Tok2
  (e_Tok2
  (e_Lok (e_st (I := eI) (er_istore (i := 5) (x_dk dn_295_0_0_ok 17 rfl) (by decide +kernel)) nx_stor))
  (e_Lok (ld_iload_5 (x_dk dn_295_0_0_ok 18 rfl))))
  (e_Tok2
  (e_Lok (e_st (I := eI) (er_iflt (off := 33) (tg := 67) (x_dk dn_295_0_0_ok 19 rfl) (by decide)) nx_if1))
  (e_Lok (ld_iload_4 (x_dk dn_295_0_0_ok 20 rfl))))))
  (e_Tok2
  (e_Tok2
  (e_Tok2
  (e_Lok (e_st (I := eI) (er_ifne (off := 28) (tg := 67) (x_dk dn_295_0_0_ok 21 rfl) (by decide)) nx_if1))
  (e_Lok (ld_iload_5 (x_dk dn_295_0_0_ok 22 rfl))))
  (e_Tok2
  (e_Lok (ld_iload_n_2 (x_dk dn_295_0_0_ok 23 rfl)))
  (e_Lok (e_st (I := eI) (er_icmpne (off := 7) (tg := 52) (x_dk dn_295_0_0_ok 24 rfl) (by decide)) nx_if2))))
  (e_Tok2
  (e_Tok2
  (e_Lok (ps_iconst_1 (x_dk dn_295_0_1_ok 0 rfl)))
  (e_Lok (e_st (I := eI) (er_goto (off := 4) (tg := 53) (x_dk dn_295_0_1_ok 1 rfl) (by decide)) nx_goto)))
  (e_Tok2
  (e_Lok (ps_iconst_0 (x_dk dn_295_0_1_ok 2 rfl)))
  (e_Lok (e_st (I := eI) (er_istore (i := 4) (x_dk dn_295_0_1_ok 3 rfl) (by decide +kernel)) nx_stor)))))))
def te_295_29 : Nat → eE := (e_T 83 (e_T 67 (e_T 59 (e_T 55 (e_L 55 (0, ei_load 0 2 56, 0, 0)) (e_T 56 (e_L 56 (0, ei_getf eft elay 12 52 59, 0, 0)) (e_L 59 (0, ei_load 5 0 61, 0, 0)))) (e_T 62 (e_T 61 (e_L 61 (0, ei_ald elay false 62, 0, 0)) (e_L 62 (0, ei_stor 5 0 64, 0, 0))) (e_T 64 (e_L 64 (0, ei_goto 32, 0, 0)) (e_L 67 (0, ei_load 0 2 68, 0, 0))))) (e_T 75 (e_T 71 (e_T 68 (e_L 68 (0, ei_getf eft elay 12 3 71, 0, 0)) (e_L 71 (0, ei_if1 1 88 74, 0, 0))) (e_T 74 (e_L 74 (0, ei_load 0 2 75, 0, 0)) (e_L 75 (0, ei_getf eft elay 12 52 78, 0, 0)))) (e_T 79 (e_T 78 (e_L 78 (0, ei_load 2 0 79, 0, 0)) (e_L 79 (0, ei_ald elay false 80, 0, 0))) (e_T 80 (e_L 80 (0, ei_if1 3 88 83, 0, 0)) (e_L 83 (0, ei_load 4 0 85, 0, 0)))))) (e_T 96 (e_T 90 (e_T 85 (e_L 85 (0, ei_if1 0 91 88, 0, 0)) (e_T 88 (e_L 88 (0, ei_push (0, (-2)) 90, 0, 0)) (e_L 90 (1, e_nof, 1, 0)))) (e_T 92 (e_T 91 (e_L 91 (0, ei_load 0 2 92, 0, 0)) (e_L 92 (0, ei_getf eft elay 12 52 95, 0, 0))) (e_T 95 (e_L 95 (0, ei_load 2 0 96, 0, 0)) (e_L 96 (0, ei_load 1 0 97, 0, 0))))) (e_T 102 (e_T 98 (e_T 97 (e_L 97 (0, ei_ast elay false 98, 0, 0)) (e_L 98 (0, ei_load 0 2 99, 0, 0))) (e_T 99 (e_L 99 (0, ei_getf eft elay 12 53 102, 0, 0)) (e_L 102 (0, ei_load 2 0 103, 0, 0)))) (e_T 104 (e_T 103 (e_L 103 (0, ei_load 3 0 104, 0, 0)) (e_L 104 (0, ei_ast elay true 105, 0, 0))) (e_T 105 (e_L 105 (0, ei_push (0, 0) 106, 0, 0)) (e_L 106 (1, e_nof, 1, 0)))))))
set_option maxRecDepth 20000 in
set_option maxHeartbeats 4000000 in
theorem te_295_29_ok : ∀ pc, e_EOq eft cls elay eI n_295 pc (te_295_29 pc) :=
  (e_Tok2
  (e_Tok2
  (e_Tok2
  (e_Tok2
  (e_Lok (ld_aload_n_0 (x_dk dn_295_0_1_ok 4 rfl)))
  (e_Tok2
  (e_Lok (lk_12_140g ho_295 (x_dk dn_295_0_1_ok 5 rfl)))
  (e_Lok (ld_iload_5 (x_dk dn_295_0_1_ok 6 rfl)))))
  (e_Tok2
  (e_Tok2
  (e_Lok (sm_iaload (x_dk dn_295_0_1_ok 7 rfl)))
  (e_Lok (e_st (I := eI) (er_istore (i := 5) (x_dk dn_295_0_1_ok 8 rfl) (by decide +kernel)) nx_stor)))
  (e_Tok2
  (e_Lok (e_st (I := eI) (er_goto (off := (-32)) (tg := 32) (x_dk dn_295_0_1_ok 9 rfl) (by decide)) nx_goto))
  (e_Lok (ld_aload_n_0 (x_dk dn_295_0_1_ok 10 rfl))))))
  (e_Tok2
  (e_Tok2
  (e_Tok2
  (e_Lok (lk_12_265g ho_295 (x_dk dn_295_0_1_ok 11 rfl)))
  (e_Lok (e_st (I := eI) (er_ifne (off := 17) (tg := 88) (x_dk dn_295_0_1_ok 12 rfl) (by decide)) nx_if1)))
  (e_Tok2
  (e_Lok (ld_aload_n_0 (x_dk dn_295_0_1_ok 13 rfl)))
  (e_Lok (lk_12_140g ho_295 (x_dk dn_295_0_1_ok 14 rfl)))))
  (e_Tok2
  (e_Tok2
  (e_Lok (ld_iload_n_2 (x_dk dn_295_0_1_ok 15 rfl)))
  (e_Lok (sm_iaload (x_dk dn_295_0_1_ok 16 rfl))))
  (e_Tok2
  (e_Lok (e_st (I := eI) (er_ifge (off := 8) (tg := 88) (x_dk dn_295_0_1_ok 17 rfl) (by decide)) nx_if1))
  (e_Lok (ld_iload_4 (x_dk dn_295_0_1_ok 18 rfl)))))))
  (e_Tok2
  (e_Tok2
  (e_Tok2
  (e_Lok (e_st (I := eI) (er_ifeq (off := 6) (tg := 91) (x_dk dn_295_0_1_ok 19 rfl) (by decide)) nx_if1))
  (e_Tok2
  (e_Lok (ps_bipush_m2 (x_dk dn_295_0_1_ok 20 rfl)))
  (e_Lok (e_rt (I := eI) (k := 1) ⟨(x_dk dn_295_0_1_ok 21 rfl), rfl⟩))))
  (e_Tok2
  (e_Tok2
  (e_Lok (ld_aload_n_0 (x_dk dn_295_0_1_ok 22 rfl)))
  (e_Lok (lk_12_140g ho_295 (x_dk dn_295_0_1_ok 23 rfl))))
  (e_Tok2
  (e_Lok (ld_iload_n_2 (x_dk dn_295_0_1_ok 24 rfl)))
  (e_Lok (ld_iload_n_1 (x_dk dn_295_0_2_ok 0 rfl))))))
  (e_Tok2
  (e_Tok2
  (e_Tok2
  (e_Lok (sm_iastore (x_dk dn_295_0_2_ok 1 rfl)))
  (e_Lok (ld_aload_n_0 (x_dk dn_295_0_2_ok 2 rfl))))
  (e_Tok2
  (e_Lok (lk_12_143g ho_295 (x_dk dn_295_0_2_ok 3 rfl)))
  (e_Lok (ld_iload_n_2 (x_dk dn_295_0_2_ok 4 rfl)))))
  (e_Tok2
  (e_Tok2
  (e_Lok (ld_iload_n_3 (x_dk dn_295_0_2_ok 5 rfl)))
  (e_Lok (e_st (I := eI) (er_bastore (x_dk dn_295_0_2_ok 6 rfl)) nx_ast)))
  (e_Tok2
  (e_Lok (ps_iconst_0 (x_dk dn_295_0_2_ok 7 rfl)))
  (e_Lok (e_rt (I := eI) (k := 1) ⟨(x_dk dn_295_0_2_ok 8 rfl), rfl⟩)))))))
def te_295 : Nat → eE := (e_T 53 te_295_0 te_295_29)
theorem te_295_ok : ∀ pc, e_EOq eft cls elay eI n_295 pc (te_295 pc) := (e_Tok2 (te_295_0_ok) (te_295_29_ok))
theorem ho_296 : (xm_y n_296).cls = "RobotCellHouseModel" := rfl
def dn_296_0_0 : List (Nat × Instr × Nat) := [(0, .aload_n 0, 1), (1, .getfield 265, 3), (4, .ifCond .eq 6, 3), (7, .bipush (-2), 2), (9, .ireturn, 1), (10, .aload_n 0, 1), (11, .iconst 1, 1), (12, .putfield 265, 3), (15, .aload_n 0, 1), (16, .iconst 0, 1), (17, .putfield 288, 3), (20, .aload_n 0, 1), (21, .invokevirtual 369, 3), (24, .iconst 0, 1), (25, .istore_n 1, 1), (26, .iload_n 1, 1), (27, .ldc 7, 2), (29, .if_icmp .ge 21, 3), (32, .aload_n 0, 1), (33, .getfield 14, 3), (36, .iload_n 1, 1), (37, .aload_n 0, 1), (38, .getfield 8, 3), (41, .iload_n 1, 1), (42, .iaload, 1)]
set_option maxRecDepth 20000 in
theorem dn_296_0_0_ok : dn_296_0_0.all (fun q => decide (decode (xm_b n_296) q.1 = .ok (q.2.1, q.2.2))) = true := xa_g_ok (by decide +kernel)
def dn_296_0_1 : List (Nat × Instr × Nat) := [(43, .iastore, 1), (44, .iinc 1 1, 3), (47, .goto (-21), 3), (50, .aload_n 0, 1), (51, .getfield 269, 3), (54, .ireturn, 1)]
set_option maxRecDepth 20000 in
theorem dn_296_0_1_ok : dn_296_0_1.all (fun q => decide (decode (xm_b n_296) q.1 = .ok (q.2.1, q.2.2))) = true := xa_g_ok (by decide +kernel)
def te_296_0 : Nat → eE := (e_T 25 (e_T 11 (e_T 4 (e_T 0 (e_L 0 (0, ei_load 0 2 1, 0, 0)) (e_T 1 (e_L 1 (0, ei_getf eft elay 12 3 4, 0, 0)) (e_L 4 (0, ei_if1 0 10 7, 0, 0)))) (e_T 9 (e_T 7 (e_L 7 (0, ei_push (0, (-2)) 9, 0, 0)) (e_L 9 (1, e_nof, 1, 0))) (e_T 10 (e_L 10 (0, ei_load 0 2 11, 0, 0)) (e_L 11 (0, ei_push (0, 1) 12, 0, 0))))) (e_T 17 (e_T 15 (e_T 12 (e_L 12 (0, ei_putf eft elay 12 3 1 15, 0, 0)) (e_L 15 (0, ei_load 0 2 16, 0, 0))) (e_T 16 (e_L 16 (0, ei_push (0, 0) 17, 0, 0)) (e_L 17 (0, ei_putf eft elay 12 5 0 20, 0, 0)))) (e_T 21 (e_T 20 (e_L 20 (0, ei_load 0 2 21, 0, 0)) (e_L 21 (2, e_nof, 303, 1))) (e_T 24 (e_L 24 (0, ei_push (0, 0) 25, 0, 0)) (e_L 25 (0, ei_stor 1 0 26, 0, 0)))))) (e_T 38 (e_T 32 (e_T 27 (e_T 26 (e_L 26 (0, ei_load 1 0 27, 0, 0)) (e_L 27 (0, ei_push (0, 33060) 29, 0, 0))) (e_T 29 (e_L 29 (0, ei_if2 3 50 32, 0, 0)) (e_L 32 (0, ei_load 0 2 33, 0, 0)))) (e_T 36 (e_T 33 (e_L 33 (0, ei_getf eft elay 12 1 36, 0, 0)) (e_L 36 (0, ei_load 1 0 37, 0, 0))) (e_T 37 (e_L 37 (0, ei_load 0 2 38, 0, 0)) (e_L 38 (0, ei_getf eft elay 12 0 41, 0, 0))))) (e_T 44 (e_T 42 (e_T 41 (e_L 41 (0, ei_load 1 0 42, 0, 0)) (e_L 42 (0, ei_ald elay false 43, 0, 0))) (e_T 43 (e_L 43 (0, ei_ast elay false 44, 0, 0)) (e_L 44 (0, ei_inc 1 1 47, 0, 0)))) (e_T 50 (e_T 47 (e_L 47 (0, ei_goto 26, 0, 0)) (e_L 50 (0, ei_load 0 2 51, 0, 0))) (e_T 51 (e_L 51 (0, ei_getf eft elay 12 10 54, 0, 0)) (e_L 54 (1, e_nof, 1, 0)))))))
set_option maxRecDepth 20000 in
set_option maxHeartbeats 4000000 in
theorem te_296_0_ok : ∀ pc, e_EOq eft cls elay eI n_296 pc (te_296_0 pc) :=
  (e_Tok2
  (e_Tok2
  (e_Tok2
  (e_Tok2
  (e_Lok (ld_aload_n_0 (x_dk dn_296_0_0_ok 0 rfl)))
  (e_Tok2
  (e_Lok (lk_12_265g ho_296 (x_dk dn_296_0_0_ok 1 rfl)))
  (e_Lok (e_st (I := eI) (er_ifeq (off := 6) (tg := 10) (x_dk dn_296_0_0_ok 2 rfl) (by decide)) nx_if1))))
  (e_Tok2
  (e_Tok2
  (e_Lok (ps_bipush_m2 (x_dk dn_296_0_0_ok 3 rfl)))
  (e_Lok (e_rt (I := eI) (k := 1) ⟨(x_dk dn_296_0_0_ok 4 rfl), rfl⟩)))
  (e_Tok2
  (e_Lok (ld_aload_n_0 (x_dk dn_296_0_0_ok 5 rfl)))
  (e_Lok (ps_iconst_1 (x_dk dn_296_0_0_ok 6 rfl))))))
  (e_Tok2
  (e_Tok2
  (e_Tok2
  (e_Lok (lk_12_265p ho_296 (x_dk dn_296_0_0_ok 7 rfl)))
  (e_Lok (ld_aload_n_0 (x_dk dn_296_0_0_ok 8 rfl))))
  (e_Tok2
  (e_Lok (ps_iconst_0 (x_dk dn_296_0_0_ok 9 rfl)))
  (e_Lok (lk_12_288p ho_296 (x_dk dn_296_0_0_ok 10 rfl)))))
  (e_Tok2
  (e_Tok2
  (e_Lok (ld_aload_n_0 (x_dk dn_296_0_0_ok 11 rfl)))
  (e_Lok (lk_12_369 ho_296 (x_dk dn_296_0_0_ok 12 rfl))))
  (e_Tok2
  (e_Lok (ps_iconst_0 (x_dk dn_296_0_0_ok 13 rfl)))
  (e_Lok (e_st (I := eI) (er_istore_n (i := 1) (x_dk dn_296_0_0_ok 14 rfl) (by decide +kernel)) nx_stor))))))
  (e_Tok2
  (e_Tok2
  (e_Tok2
  (e_Tok2
  (e_Lok (ld_iload_n_1 (x_dk dn_296_0_0_ok 15 rfl)))
  (e_Lok (e_st (I := eI) (er_ldc (ix := 7) (z := 33060) (v := 33060) (x_dk dn_296_0_0_ok 16 rfl) (in_t9 (List.mem_of_getElem? (i := 86) rfl) rfl) (by decide)) (nx_push (Or.inl rfl)))))
  (e_Tok2
  (e_Lok (e_st (I := eI) (er_icmpge (off := 21) (tg := 50) (x_dk dn_296_0_0_ok 17 rfl) (by decide)) nx_if2))
  (e_Lok (ld_aload_n_0 (x_dk dn_296_0_0_ok 18 rfl)))))
  (e_Tok2
  (e_Tok2
  (e_Lok (lk_12_14g ho_296 (x_dk dn_296_0_0_ok 19 rfl)))
  (e_Lok (ld_iload_n_1 (x_dk dn_296_0_0_ok 20 rfl))))
  (e_Tok2
  (e_Lok (ld_aload_n_0 (x_dk dn_296_0_0_ok 21 rfl)))
  (e_Lok (lk_12_8g ho_296 (x_dk dn_296_0_0_ok 22 rfl))))))
  (e_Tok2
  (e_Tok2
  (e_Tok2
  (e_Lok (ld_iload_n_1 (x_dk dn_296_0_0_ok 23 rfl)))
  (e_Lok (sm_iaload (x_dk dn_296_0_0_ok 24 rfl))))
  (e_Tok2
  (e_Lok (sm_iastore (x_dk dn_296_0_1_ok 0 rfl)))
  (e_Lok (e_st (I := eI) (er_iinc (i := 1) (n := 1) (x_dk dn_296_0_1_ok 1 rfl) (by decide +kernel) (by decide)) nx_inc))))
  (e_Tok2
  (e_Tok2
  (e_Lok (e_st (I := eI) (er_goto (off := (-21)) (tg := 26) (x_dk dn_296_0_1_ok 2 rfl) (by decide)) nx_goto))
  (e_Lok (ld_aload_n_0 (x_dk dn_296_0_1_ok 3 rfl))))
  (e_Tok2
  (e_Lok (lk_12_269g ho_296 (x_dk dn_296_0_1_ok 4 rfl)))
  (e_Lok (e_rt (I := eI) (k := 1) ⟨(x_dk dn_296_0_1_ok 5 rfl), rfl⟩)))))))
def te_296 : Nat → eE := te_296_0
theorem te_296_ok : ∀ pc, e_EOq eft cls elay eI n_296 pc (te_296 pc) := te_296_0_ok
theorem ho_297 : (xm_y n_297).cls = "RobotCellHouseModel" := rfl
def dn_297_0_0 : List (Nat × Instr × Nat) := [(0, .lload_n 0, 1), (1, .bipush 30, 2), (3, .lshr, 1), (4, .lstore 4, 2), (6, .lload_n 0, 1), (7, .ldc2_w 372, 3), (10, .land, 1), (11, .lstore 6, 2), (13, .lload_n 2, 1), (14, .bipush 30, 2), (16, .lshr, 1), (17, .lstore 8, 2), (19, .lload_n 2, 1), (20, .ldc2_w 372, 3), (23, .land, 1), (24, .lstore 10, 2), (26, .lload 4, 2), (28, .lload 8, 2), (30, .lmul, 1), (31, .lload 4, 2), (33, .lload 10, 2), (35, .lmul, 1), (36, .lload 6, 2), (38, .lload 8, 2), (40, .lmul, 1)]
set_option maxRecDepth 20000 in
theorem dn_297_0_0_ok : dn_297_0_0.all (fun q => decide (decode (xm_b n_297) q.1 = .ok (q.2.1, q.2.2))) = true := xa_g_ok (by decide +kernel)
def dn_297_0_1 : List (Nat × Instr × Nat) := [(41, .ladd, 1), (42, .lload 6, 2), (44, .lload 10, 2), (46, .lmul, 1), (47, .bipush 30, 2), (49, .lshr, 1), (50, .ladd, 1), (51, .bipush 30, 2), (53, .lshr, 1), (54, .ladd, 1), (55, .lreturn, 1)]
set_option maxRecDepth 20000 in
theorem dn_297_0_1_ok : dn_297_0_1.all (fun q => decide (decode (xm_b n_297) q.1 = .ok (q.2.1, q.2.2))) = true := xa_g_ok (by decide +kernel)
def te_297_0 : Nat → eE := (e_T 28 (e_T 13 (e_T 4 (e_T 1 (e_T 0 (e_L 0 (0, ei_load 0 1 1, 0, 0)) (e_L 1 (0, ei_push (0, 30) 3, 0, 0))) (e_T 3 (e_L 3 (0, ei_shL (eSh (fun x y => x >>> (y.toInt64 &&& 63))) 4, 0, 0)) (e_L 4 (0, ei_stor 4 1 6, 0, 0)))) (e_T 7 (e_T 6 (e_L 6 (0, ei_load 0 1 7, 0, 0)) (e_L 7 (0, ei_push (4, 1073741823) 10, 0, 0))) (e_T 10 (e_L 10 (0, ei_binL eG_and 11, 0, 0)) (e_T 11 (e_L 11 (0, ei_stor 6 1 13, 0, 0)) (e_L 13 (0, ei_load 2 1 14, 0, 0)))))) (e_T 19 (e_T 16 (e_T 14 (e_L 14 (0, ei_push (0, 30) 16, 0, 0)) (e_L 16 (0, ei_shL (eSh (fun x y => x >>> (y.toInt64 &&& 63))) 17, 0, 0))) (e_T 17 (e_L 17 (0, ei_stor 8 1 19, 0, 0)) (e_L 19 (0, ei_load 2 1 20, 0, 0)))) (e_T 23 (e_T 20 (e_L 20 (0, ei_push (4, 1073741823) 23, 0, 0)) (e_L 23 (0, ei_binL eG_and 24, 0, 0))) (e_T 24 (e_L 24 (0, ei_stor 10 1 26, 0, 0)) (e_T 26 (e_L 26 (0, ei_load 4 1 28, 0, 0)) (e_L 28 (0, ei_load 8 1 30, 0, 0))))))) (e_T 42 (e_T 35 (e_T 31 (e_T 30 (e_L 30 (0, ei_binL eG_mul 31, 0, 0)) (e_L 31 (0, ei_load 4 1 33, 0, 0))) (e_T 33 (e_L 33 (0, ei_load 10 1 35, 0, 0)) (e_L 35 (0, ei_binL eG_mul 36, 0, 0)))) (e_T 38 (e_T 36 (e_L 36 (0, ei_load 6 1 38, 0, 0)) (e_L 38 (0, ei_load 8 1 40, 0, 0))) (e_T 40 (e_L 40 (0, ei_binL eG_mul 41, 0, 0)) (e_T 41 (e_L 41 (0, ei_binL eG_add 42, 0, 0)) (e_L 42 (0, ei_load 6 1 44, 0, 0)))))) (e_T 49 (e_T 46 (e_T 44 (e_L 44 (0, ei_load 10 1 46, 0, 0)) (e_L 46 (0, ei_binL eG_mul 47, 0, 0))) (e_T 47 (e_L 47 (0, ei_push (0, 30) 49, 0, 0)) (e_L 49 (0, ei_shL (eSh (fun x y => x >>> (y.toInt64 &&& 63))) 50, 0, 0)))) (e_T 51 (e_T 50 (e_L 50 (0, ei_binL eG_add 51, 0, 0)) (e_L 51 (0, ei_push (0, 30) 53, 0, 0))) (e_T 53 (e_L 53 (0, ei_shL (eSh (fun x y => x >>> (y.toInt64 &&& 63))) 54, 0, 0)) (e_T 54 (e_L 54 (0, ei_binL eG_add 55, 0, 0)) (e_L 55 (1, e_nof, 2, 0))))))))
set_option maxRecDepth 20000 in
set_option maxHeartbeats 4000000 in
theorem te_297_0_ok : ∀ pc, e_EOq eft cls elay eI n_297 pc (te_297_0 pc) :=
  (e_Tok2
  (e_Tok2
  (e_Tok2
  (e_Tok2
  (e_Tok2
  (e_Lok (ld_lload_n_0 (x_dk dn_297_0_0_ok 0 rfl)))
  (e_Lok (ps_bipush_30 (x_dk dn_297_0_0_ok 1 rfl))))
  (e_Tok2
  (e_Lok (e_st (I := eI) (er_lshr (x_dk dn_297_0_0_ok 2 rfl)) nx_shL))
  (e_Lok (e_st (I := eI) (er_lstore (i := 4) (x_dk dn_297_0_0_ok 3 rfl) (by decide +kernel)) nx_stor))))
  (e_Tok2
  (e_Tok2
  (e_Lok (ld_lload_n_0 (x_dk dn_297_0_0_ok 4 rfl)))
  (e_Lok (e_st (I := eI) (er_ldc2 (ix := 372) (z := 1073741823) (v := 1073741823) (x_dk dn_297_0_0_ok 5 rfl) (in_t9 (List.mem_of_getElem? (i := 102) rfl) rfl) (by decide)) (nx_push (Or.inl rfl)))))
  (e_Tok2
  (e_Lok (e_st (I := eI) (er_land (x_dk dn_297_0_0_ok 6 rfl)) (nx_binL bG_land)))
  (e_Tok2
  (e_Lok (e_st (I := eI) (er_lstore (i := 6) (x_dk dn_297_0_0_ok 7 rfl) (by decide +kernel)) nx_stor))
  (e_Lok (ld_lload_n_2 (x_dk dn_297_0_0_ok 8 rfl)))))))
  (e_Tok2
  (e_Tok2
  (e_Tok2
  (e_Lok (ps_bipush_30 (x_dk dn_297_0_0_ok 9 rfl)))
  (e_Lok (e_st (I := eI) (er_lshr (x_dk dn_297_0_0_ok 10 rfl)) nx_shL)))
  (e_Tok2
  (e_Lok (e_st (I := eI) (er_lstore (i := 8) (x_dk dn_297_0_0_ok 11 rfl) (by decide +kernel)) nx_stor))
  (e_Lok (ld_lload_n_2 (x_dk dn_297_0_0_ok 12 rfl)))))
  (e_Tok2
  (e_Tok2
  (e_Lok (e_st (I := eI) (er_ldc2 (ix := 372) (z := 1073741823) (v := 1073741823) (x_dk dn_297_0_0_ok 13 rfl) (in_t9 (List.mem_of_getElem? (i := 102) rfl) rfl) (by decide)) (nx_push (Or.inl rfl))))
  (e_Lok (e_st (I := eI) (er_land (x_dk dn_297_0_0_ok 14 rfl)) (nx_binL bG_land))))
  (e_Tok2
  (e_Lok (e_st (I := eI) (er_lstore (i := 10) (x_dk dn_297_0_0_ok 15 rfl) (by decide +kernel)) nx_stor))
  (e_Tok2
  (e_Lok (ld_lload_4 (x_dk dn_297_0_0_ok 16 rfl)))
  (e_Lok (ld_lload_8 (x_dk dn_297_0_0_ok 17 rfl))))))))
  (e_Tok2
  (e_Tok2
  (e_Tok2
  (e_Tok2
  (e_Lok (e_st (I := eI) (er_lmul (x_dk dn_297_0_0_ok 18 rfl)) (nx_binL bG_lmul)))
  (e_Lok (ld_lload_4 (x_dk dn_297_0_0_ok 19 rfl))))
  (e_Tok2
  (e_Lok (ld_lload_10 (x_dk dn_297_0_0_ok 20 rfl)))
  (e_Lok (e_st (I := eI) (er_lmul (x_dk dn_297_0_0_ok 21 rfl)) (nx_binL bG_lmul)))))
  (e_Tok2
  (e_Tok2
  (e_Lok (ld_lload_6 (x_dk dn_297_0_0_ok 22 rfl)))
  (e_Lok (ld_lload_8 (x_dk dn_297_0_0_ok 23 rfl))))
  (e_Tok2
  (e_Lok (e_st (I := eI) (er_lmul (x_dk dn_297_0_0_ok 24 rfl)) (nx_binL bG_lmul)))
  (e_Tok2
  (e_Lok (e_st (I := eI) (er_ladd (x_dk dn_297_0_1_ok 0 rfl)) (nx_binL bG_ladd)))
  (e_Lok (ld_lload_6 (x_dk dn_297_0_1_ok 1 rfl)))))))
  (e_Tok2
  (e_Tok2
  (e_Tok2
  (e_Lok (ld_lload_10 (x_dk dn_297_0_1_ok 2 rfl)))
  (e_Lok (e_st (I := eI) (er_lmul (x_dk dn_297_0_1_ok 3 rfl)) (nx_binL bG_lmul))))
  (e_Tok2
  (e_Lok (ps_bipush_30 (x_dk dn_297_0_1_ok 4 rfl)))
  (e_Lok (e_st (I := eI) (er_lshr (x_dk dn_297_0_1_ok 5 rfl)) nx_shL))))
  (e_Tok2
  (e_Tok2
  (e_Lok (e_st (I := eI) (er_ladd (x_dk dn_297_0_1_ok 6 rfl)) (nx_binL bG_ladd)))
  (e_Lok (ps_bipush_30 (x_dk dn_297_0_1_ok 7 rfl))))
  (e_Tok2
  (e_Lok (e_st (I := eI) (er_lshr (x_dk dn_297_0_1_ok 8 rfl)) nx_shL))
  (e_Tok2
  (e_Lok (e_st (I := eI) (er_ladd (x_dk dn_297_0_1_ok 9 rfl)) (nx_binL bG_ladd)))
  (e_Lok (e_rt (I := eI) (k := 2) ⟨(x_dk dn_297_0_1_ok 10 rfl), rfl⟩))))))))
def te_297 : Nat → eE := te_297_0
theorem te_297_ok : ∀ pc, e_EOq eft cls elay eI n_297 pc (te_297 pc) := te_297_0_ok
theorem ho_298 : (xm_y n_298).cls = "RobotCellHouseModel" := rfl
def dn_298_0_0 : List (Nat × Instr × Nat) := [(0, .lload_n 0, 1), (1, .lload_n 0, 1), (2, .invokestatic 374, 3), (5, .lstore_n 3, 1), (6, .iload_n 2, 1), (7, .iconst 1, 1), (8, .if_icmp .ne 7, 3), (11, .lload_n 0, 1), (12, .goto 6, 3), (15, .ldc2_w 378, 3), (18, .lstore 5, 2), (20, .lconst 0, 1), (21, .lstore 7, 2), (23, .iload_n 2, 1), (24, .istore 9, 2), (26, .iconst 1, 1), (27, .istore 10, 2), (29, .lload 5, 2), (31, .lconst 0, 1), (32, .lcmp, 1), (33, .ifCond .le 58, 3), (36, .lload 7, 2), (38, .iload 10, 2), (40, .ifCond .eq 8, 3), (43, .lload 5, 2)]
set_option maxRecDepth 20000 in
theorem dn_298_0_0_ok : dn_298_0_0.all (fun q => decide (decode (xm_b n_298) q.1 = .ok (q.2.1, q.2.2))) = true := xa_g_ok (by decide +kernel)
def dn_298_0_1 : List (Nat × Instr × Nat) := [(45, .goto 6, 3), (48, .lload 5, 2), (50, .lneg, 1), (51, .ladd, 1), (52, .lstore 7, 2), (54, .lload 5, 2), (56, .lload_n 3, 1), (57, .invokestatic 374, 3), (60, .iload 9, 2), (62, .iconst 1, 1), (63, .iadd, 1), (64, .iload 9, 2), (66, .iconst 2, 1), (67, .iadd, 1), (68, .imul, 1), (69, .i2l, 1), (70, .ldiv, 1), (71, .lstore 5, 2), (73, .iinc 9 2, 3), (76, .iload 10, 2), (78, .ifCond .ne 7, 3), (81, .iconst 1, 1), (82, .goto 4, 3), (85, .iconst 0, 1), (86, .istore 10, 2)]
set_option maxRecDepth 20000 in
theorem dn_298_0_1_ok : dn_298_0_1.all (fun q => decide (decode (xm_b n_298) q.1 = .ok (q.2.1, q.2.2))) = true := xa_g_ok (by decide +kernel)
def dn_298_0_2 : List (Nat × Instr × Nat) := [(88, .goto (-59), 3), (91, .lload 7, 2), (93, .lreturn, 1)]
set_option maxRecDepth 20000 in
theorem dn_298_0_2_ok : dn_298_0_2.all (fun q => decide (decode (xm_b n_298) q.1 = .ok (q.2.1, q.2.2))) = true := xa_g_ok (by decide +kernel)
def te_298_0 : Nat → eE := (e_T 21 (e_T 7 (e_T 2 (e_T 0 (e_L 0 (0, ei_load 0 1 1, 0, 0)) (e_T 1 (e_L 1 (0, ei_load 0 1 2, 0, 0)) (e_L 2 (2, e_nof, 297, 2)))) (e_T 5 (e_L 5 (0, ei_stor 3 1 6, 0, 0)) (e_T 6 (e_L 6 (0, ei_load 2 0 7, 0, 0)) (e_L 7 (0, ei_push (0, 1) 8, 0, 0))))) (e_T 12 (e_T 8 (e_L 8 (0, ei_if2 1 15 11, 0, 0)) (e_T 11 (e_L 11 (0, ei_load 0 1 12, 0, 0)) (e_L 12 (0, ei_goto 18, 0, 0)))) (e_T 18 (e_T 15 (e_L 15 (0, ei_push (4, 1152921504606846976) 18, 0, 0)) (e_L 18 (0, ei_stor 5 1 20, 0, 0))) (e_T 20 (e_L 20 (0, ei_push (4, 0) 21, 0, 0)) (e_L 21 (0, ei_stor 7 1 23, 0, 0)))))) (e_T 31 (e_T 26 (e_T 23 (e_L 23 (0, ei_load 2 0 24, 0, 0)) (e_T 24 (e_L 24 (0, ei_stor 9 0 26, 0, 0)) (e_L 26 (0, ei_push (0, 1) 27, 0, 0)))) (e_T 27 (e_L 27 (0, ei_stor 10 0 29, 0, 0)) (e_T 29 (e_L 29 (0, ei_load 5 1 31, 0, 0)) (e_L 31 (0, ei_push (4, 0) 32, 0, 0))))) (e_T 36 (e_T 32 (e_L 32 (0, ei_binL eG_cmp 33, 0, 0)) (e_T 33 (e_L 33 (0, ei_if1 5 91 36, 0, 0)) (e_L 36 (0, ei_load 7 1 38, 0, 0)))) (e_T 40 (e_T 38 (e_L 38 (0, ei_load 10 0 40, 0, 0)) (e_L 40 (0, ei_if1 0 48 43, 0, 0))) (e_T 43 (e_L 43 (0, ei_load 5 1 45, 0, 0)) (e_L 45 (0, ei_goto 51, 0, 0)))))))
set_option maxRecDepth 20000 in
set_option maxHeartbeats 4000000 in
theorem te_298_0_ok : ∀ pc, e_EOq eft cls elay eI n_298 pc (te_298_0 pc) :=
  (e_Tok2
  (e_Tok2
  (e_Tok2
  (e_Tok2
  (e_Lok (ld_lload_n_0 (x_dk dn_298_0_0_ok 0 rfl)))
  (e_Tok2
  (e_Lok (ld_lload_n_0 (x_dk dn_298_0_0_ok 1 rfl)))
  (e_Lok (lk_12_374 ho_298 (x_dk dn_298_0_0_ok 2 rfl)))))
  (e_Tok2
  (e_Lok (e_st (I := eI) (er_lstore_n (i := 3) (x_dk dn_298_0_0_ok 3 rfl) (by decide +kernel)) nx_stor))
  (e_Tok2
  (e_Lok (ld_iload_n_2 (x_dk dn_298_0_0_ok 4 rfl)))
  (e_Lok (ps_iconst_1 (x_dk dn_298_0_0_ok 5 rfl))))))
  (e_Tok2
  (e_Tok2
  (e_Lok (e_st (I := eI) (er_icmpne (off := 7) (tg := 15) (x_dk dn_298_0_0_ok 6 rfl) (by decide)) nx_if2))
  (e_Tok2
  (e_Lok (ld_lload_n_0 (x_dk dn_298_0_0_ok 7 rfl)))
  (e_Lok (e_st (I := eI) (er_goto (off := 6) (tg := 18) (x_dk dn_298_0_0_ok 8 rfl) (by decide)) nx_goto))))
  (e_Tok2
  (e_Tok2
  (e_Lok (e_st (I := eI) (er_ldc2 (ix := 378) (z := 1152921504606846976) (v := 1152921504606846976) (x_dk dn_298_0_0_ok 9 rfl) (in_t9 (List.mem_of_getElem? (i := 103) rfl) rfl) (by decide)) (nx_push (Or.inl rfl))))
  (e_Lok (e_st (I := eI) (er_lstore (i := 5) (x_dk dn_298_0_0_ok 10 rfl) (by decide +kernel)) nx_stor)))
  (e_Tok2
  (e_Lok (ps_lconst_0 (x_dk dn_298_0_0_ok 11 rfl)))
  (e_Lok (e_st (I := eI) (er_lstore (i := 7) (x_dk dn_298_0_0_ok 12 rfl) (by decide +kernel)) nx_stor))))))
  (e_Tok2
  (e_Tok2
  (e_Tok2
  (e_Lok (ld_iload_n_2 (x_dk dn_298_0_0_ok 13 rfl)))
  (e_Tok2
  (e_Lok (e_st (I := eI) (er_istore (i := 9) (x_dk dn_298_0_0_ok 14 rfl) (by decide +kernel)) nx_stor))
  (e_Lok (ps_iconst_1 (x_dk dn_298_0_0_ok 15 rfl)))))
  (e_Tok2
  (e_Lok (e_st (I := eI) (er_istore (i := 10) (x_dk dn_298_0_0_ok 16 rfl) (by decide +kernel)) nx_stor))
  (e_Tok2
  (e_Lok (ld_lload_5 (x_dk dn_298_0_0_ok 17 rfl)))
  (e_Lok (ps_lconst_0 (x_dk dn_298_0_0_ok 18 rfl))))))
  (e_Tok2
  (e_Tok2
  (e_Lok (e_st (I := eI) (er_lcmp (x_dk dn_298_0_0_ok 19 rfl)) (nx_binL bG_lcmp)))
  (e_Tok2
  (e_Lok (e_st (I := eI) (er_ifle (off := 58) (tg := 91) (x_dk dn_298_0_0_ok 20 rfl) (by decide)) nx_if1))
  (e_Lok (ld_lload_7 (x_dk dn_298_0_0_ok 21 rfl)))))
  (e_Tok2
  (e_Tok2
  (e_Lok (ld_iload_10 (x_dk dn_298_0_0_ok 22 rfl)))
  (e_Lok (e_st (I := eI) (er_ifeq (off := 8) (tg := 48) (x_dk dn_298_0_0_ok 23 rfl) (by decide)) nx_if1)))
  (e_Tok2
  (e_Lok (ld_lload_5 (x_dk dn_298_0_0_ok 24 rfl)))
  (e_Lok (e_st (I := eI) (er_goto (off := 6) (tg := 51) (x_dk dn_298_0_1_ok 0 rfl) (by decide)) nx_goto)))))))
def te_298_26 : Nat → eE := (e_T 67 (e_T 56 (e_T 51 (e_T 48 (e_L 48 (0, ei_load 5 1 50, 0, 0)) (e_T 50 (e_L 50 (0, ei_unL (fun x => (4, e64 (-x))) 51, 0, 0)) (e_L 51 (0, ei_binL eG_add 52, 0, 0)))) (e_T 52 (e_L 52 (0, ei_stor 7 1 54, 0, 0)) (e_T 54 (e_L 54 (0, ei_load 5 1 56, 0, 0)) (e_L 56 (0, ei_load 3 1 57, 0, 0))))) (e_T 62 (e_T 57 (e_L 57 (2, e_nof, 297, 2)) (e_T 60 (e_L 60 (0, ei_load 9 0 62, 0, 0)) (e_L 62 (0, ei_push (0, 1) 63, 0, 0)))) (e_T 64 (e_T 63 (e_L 63 (0, ei_bin eF_add 64, 0, 0)) (e_L 64 (0, ei_load 9 0 66, 0, 0))) (e_T 66 (e_L 66 (0, ei_push (0, 2) 67, 0, 0)) (e_L 67 (0, ei_bin eF_add 68, 0, 0)))))) (e_T 78 (e_T 70 (e_T 68 (e_L 68 (0, ei_bin eF_mul 69, 0, 0)) (e_T 69 (e_L 69 (0, ei_un (fun x => (4, x)) 70, 0, 0)) (e_L 70 (0, ei_binL eG_div 71, 0, 0)))) (e_T 73 (e_T 71 (e_L 71 (0, ei_stor 5 1 73, 0, 0)) (e_L 73 (0, ei_inc 9 2 76, 0, 0))) (e_T 76 (e_L 76 (0, ei_load 10 0 78, 0, 0)) (e_L 78 (0, ei_if1 1 85 81, 0, 0))))) (e_T 85 (e_T 81 (e_L 81 (0, ei_push (0, 1) 82, 0, 0)) (e_T 82 (e_L 82 (0, ei_goto 86, 0, 0)) (e_L 85 (0, ei_push (0, 0) 86, 0, 0)))) (e_T 88 (e_T 86 (e_L 86 (0, ei_stor 10 0 88, 0, 0)) (e_L 88 (0, ei_goto 29, 0, 0))) (e_T 91 (e_L 91 (0, ei_load 7 1 93, 0, 0)) (e_L 93 (1, e_nof, 2, 0)))))))
set_option maxRecDepth 20000 in
set_option maxHeartbeats 4000000 in
theorem te_298_26_ok : ∀ pc, e_EOq eft cls elay eI n_298 pc (te_298_26 pc) :=
  (e_Tok2
  (e_Tok2
  (e_Tok2
  (e_Tok2
  (e_Lok (ld_lload_5 (x_dk dn_298_0_1_ok 1 rfl)))
  (e_Tok2
  (e_Lok (e_st (I := eI) (er_lneg (x_dk dn_298_0_1_ok 2 rfl)) (nx_unL (fun _ => rfl))))
  (e_Lok (e_st (I := eI) (er_ladd (x_dk dn_298_0_1_ok 3 rfl)) (nx_binL bG_ladd)))))
  (e_Tok2
  (e_Lok (e_st (I := eI) (er_lstore (i := 7) (x_dk dn_298_0_1_ok 4 rfl) (by decide +kernel)) nx_stor))
  (e_Tok2
  (e_Lok (ld_lload_5 (x_dk dn_298_0_1_ok 5 rfl)))
  (e_Lok (ld_lload_n_3 (x_dk dn_298_0_1_ok 6 rfl))))))
  (e_Tok2
  (e_Tok2
  (e_Lok (lk_12_374 ho_298 (x_dk dn_298_0_1_ok 7 rfl)))
  (e_Tok2
  (e_Lok (ld_iload_9 (x_dk dn_298_0_1_ok 8 rfl)))
  (e_Lok (ps_iconst_1 (x_dk dn_298_0_1_ok 9 rfl)))))
  (e_Tok2
  (e_Tok2
  (e_Lok (sm_iadd (x_dk dn_298_0_1_ok 10 rfl)))
  (e_Lok (ld_iload_9 (x_dk dn_298_0_1_ok 11 rfl))))
  (e_Tok2
  (e_Lok (ps_iconst_2 (x_dk dn_298_0_1_ok 12 rfl)))
  (e_Lok (sm_iadd (x_dk dn_298_0_1_ok 13 rfl)))))))
  (e_Tok2
  (e_Tok2
  (e_Tok2
  (e_Lok (sm_imul (x_dk dn_298_0_1_ok 14 rfl)))
  (e_Tok2
  (e_Lok (e_st (I := eI) (er_i2l (x_dk dn_298_0_1_ok 15 rfl)) (nx_un (fun _ => rfl))))
  (e_Lok (e_st (I := eI) (er_ldiv (x_dk dn_298_0_1_ok 16 rfl)) (nx_binL bG_ldiv)))))
  (e_Tok2
  (e_Tok2
  (e_Lok (e_st (I := eI) (er_lstore (i := 5) (x_dk dn_298_0_1_ok 17 rfl) (by decide +kernel)) nx_stor))
  (e_Lok (e_st (I := eI) (er_iinc (i := 9) (n := 2) (x_dk dn_298_0_1_ok 18 rfl) (by decide +kernel) (by decide)) nx_inc)))
  (e_Tok2
  (e_Lok (ld_iload_10 (x_dk dn_298_0_1_ok 19 rfl)))
  (e_Lok (e_st (I := eI) (er_ifne (off := 7) (tg := 85) (x_dk dn_298_0_1_ok 20 rfl) (by decide)) nx_if1)))))
  (e_Tok2
  (e_Tok2
  (e_Lok (ps_iconst_1 (x_dk dn_298_0_1_ok 21 rfl)))
  (e_Tok2
  (e_Lok (e_st (I := eI) (er_goto (off := 4) (tg := 86) (x_dk dn_298_0_1_ok 22 rfl) (by decide)) nx_goto))
  (e_Lok (ps_iconst_0 (x_dk dn_298_0_1_ok 23 rfl)))))
  (e_Tok2
  (e_Tok2
  (e_Lok (e_st (I := eI) (er_istore (i := 10) (x_dk dn_298_0_1_ok 24 rfl) (by decide +kernel)) nx_stor))
  (e_Lok (e_st (I := eI) (er_goto (off := (-59)) (tg := 29) (x_dk dn_298_0_2_ok 0 rfl) (by decide)) nx_goto)))
  (e_Tok2
  (e_Lok (ld_lload_7 (x_dk dn_298_0_2_ok 1 rfl)))
  (e_Lok (e_rt (I := eI) (k := 2) ⟨(x_dk dn_298_0_2_ok 2 rfl), rfl⟩)))))))
def te_298 : Nat → eE := (e_T 45 te_298_0 te_298_26)
theorem te_298_ok : ∀ pc, e_EOq eft cls elay eI n_298 pc (te_298 pc) := (e_Tok2 (te_298_0_ok) (te_298_26_ok))
theorem ho_299 : (xm_y n_299).cls = "RobotCellHouseModel" := rfl
def dn_299_0_0 : List (Nat × Instr × Nat) := [(0, .iconst 0, 1), (1, .istore_n 1, 1), (2, .iload_n 1, 1), (3, .sipush 512, 3), (6, .if_icmp .gt 68, 3), (9, .ldc2_w 380, 3), (12, .iload_n 1, 1), (13, .i2l, 1), (14, .lmul, 1), (15, .ldc2_w 382, 3), (18, .iload_n 1, 1), (19, .i2l, 1), (20, .lmul, 1), (21, .bipush 11, 2), (23, .lshr, 1), (24, .ladd, 1), (25, .lstore_n 2, 1), (26, .aload_n 0, 1), (27, .getfield 146, 3), (30, .iload_n 1, 1), (31, .lload_n 2, 1), (32, .iconst 1, 1), (33, .invokestatic 384, 3), (36, .ldc2_w 388, 3), (39, .ladd, 1)]
set_option maxRecDepth 20000 in
theorem dn_299_0_0_ok : dn_299_0_0.all (fun q => decide (decode (xm_b n_299) q.1 = .ok (q.2.1, q.2.2))) = true := xa_g_ok (by decide +kernel)
def dn_299_0_1 : List (Nat × Instr × Nat) := [(40, .bipush 40, 2), (42, .lshr, 1), (43, .l2i, 1), (44, .iastore, 1), (45, .aload_n 0, 1), (46, .getfield 146, 3), (49, .sipush 1024, 3), (52, .iload_n 1, 1), (53, .isub, 1), (54, .lload_n 2, 1), (55, .iconst 0, 1), (56, .invokestatic 384, 3), (59, .ldc2_w 388, 3), (62, .ladd, 1), (63, .bipush 40, 2), (65, .lshr, 1), (66, .l2i, 1), (67, .iastore, 1), (68, .iinc 1 1, 3), (71, .goto (-69), 3), (74, .return_, 1)]
set_option maxRecDepth 20000 in
theorem dn_299_0_1_ok : dn_299_0_1.all (fun q => decide (decode (xm_b n_299) q.1 = .ok (q.2.1, q.2.2))) = true := xa_g_ok (by decide +kernel)
def te_299_0 : Nat → eE := (e_T 18 (e_T 6 (e_T 1 (e_T 0 (e_L 0 (0, ei_push (0, 0) 1, 0, 0)) (e_L 1 (0, ei_stor 1 0 2, 0, 0))) (e_T 2 (e_L 2 (0, ei_load 1 0 3, 0, 0)) (e_T 3 (e_L 3 (0, ei_push (0, 512) 6, 0, 0)) (e_L 6 (0, ei_if2 4 74 9, 0, 0))))) (e_T 13 (e_T 9 (e_L 9 (0, ei_push (4, 1768559438007110) 12, 0, 0)) (e_T 12 (e_L 12 (0, ei_load 1 0 13, 0, 0)) (e_L 13 (0, ei_un (fun x => (4, x)) 14, 0, 0)))) (e_T 14 (e_L 14 (0, ei_binL eG_mul 15, 0, 0)) (e_T 15 (e_L 15 (0, ei_push (4, 141) 18, 0, 0)) (e_L 18 (0, ei_load 1 0 19, 0, 0)))))) (e_T 25 (e_T 21 (e_T 19 (e_L 19 (0, ei_un (fun x => (4, x)) 20, 0, 0)) (e_T 20 (e_L 20 (0, ei_binL eG_mul 21, 0, 0)) (e_L 21 (0, ei_push (0, 11) 23, 0, 0)))) (e_T 23 (e_L 23 (0, ei_shL (eSh (fun x y => x >>> (y.toInt64 &&& 63))) 24, 0, 0)) (e_T 24 (e_L 24 (0, ei_binL eG_add 25, 0, 0)) (e_L 25 (0, ei_stor 2 1 26, 0, 0))))) (e_T 30 (e_T 26 (e_L 26 (0, ei_load 0 2 27, 0, 0)) (e_T 27 (e_L 27 (0, ei_getf eft elay 12 54 30, 0, 0)) (e_L 30 (0, ei_load 1 0 31, 0, 0)))) (e_T 31 (e_L 31 (0, ei_load 2 1 32, 0, 0)) (e_T 32 (e_L 32 (0, ei_push (0, 1) 33, 0, 0)) (e_L 33 (2, e_nof, 298, 2)))))))
set_option maxRecDepth 20000 in
set_option maxHeartbeats 4000000 in
theorem te_299_0_ok : ∀ pc, e_EOq eft cls elay eI n_299 pc (te_299_0 pc) :=
  (e_Tok2
  (e_Tok2
  (e_Tok2
  (e_Tok2
  (e_Lok (ps_iconst_0 (x_dk dn_299_0_0_ok 0 rfl)))
  (e_Lok (e_st (I := eI) (er_istore_n (i := 1) (x_dk dn_299_0_0_ok 1 rfl) (by decide +kernel)) nx_stor)))
  (e_Tok2
  (e_Lok (ld_iload_n_1 (x_dk dn_299_0_0_ok 2 rfl)))
  (e_Tok2
  (e_Lok (ps_sipush_512 (x_dk dn_299_0_0_ok 3 rfl)))
  (e_Lok (e_st (I := eI) (er_icmpgt (off := 68) (tg := 74) (x_dk dn_299_0_0_ok 4 rfl) (by decide)) nx_if2)))))
  (e_Tok2
  (e_Tok2
  (e_Lok (e_st (I := eI) (er_ldc2 (ix := 380) (z := 1768559438007110) (v := 1768559438007110) (x_dk dn_299_0_0_ok 5 rfl) (in_t9 (List.mem_of_getElem? (i := 94) rfl) rfl) (by decide)) (nx_push (Or.inl rfl))))
  (e_Tok2
  (e_Lok (ld_iload_n_1 (x_dk dn_299_0_0_ok 6 rfl)))
  (e_Lok (e_st (I := eI) (er_i2l (x_dk dn_299_0_0_ok 7 rfl)) (nx_un (fun _ => rfl))))))
  (e_Tok2
  (e_Lok (e_st (I := eI) (er_lmul (x_dk dn_299_0_0_ok 8 rfl)) (nx_binL bG_lmul)))
  (e_Tok2
  (e_Lok (e_st (I := eI) (er_ldc2 (ix := 382) (z := 141) (v := 141) (x_dk dn_299_0_0_ok 9 rfl) (in_t9 (List.mem_of_getElem? (i := 95) rfl) rfl) (by decide)) (nx_push (Or.inl rfl))))
  (e_Lok (ld_iload_n_1 (x_dk dn_299_0_0_ok 10 rfl)))))))
  (e_Tok2
  (e_Tok2
  (e_Tok2
  (e_Lok (e_st (I := eI) (er_i2l (x_dk dn_299_0_0_ok 11 rfl)) (nx_un (fun _ => rfl))))
  (e_Tok2
  (e_Lok (e_st (I := eI) (er_lmul (x_dk dn_299_0_0_ok 12 rfl)) (nx_binL bG_lmul)))
  (e_Lok (ps_bipush_11 (x_dk dn_299_0_0_ok 13 rfl)))))
  (e_Tok2
  (e_Lok (e_st (I := eI) (er_lshr (x_dk dn_299_0_0_ok 14 rfl)) nx_shL))
  (e_Tok2
  (e_Lok (e_st (I := eI) (er_ladd (x_dk dn_299_0_0_ok 15 rfl)) (nx_binL bG_ladd)))
  (e_Lok (e_st (I := eI) (er_lstore_n (i := 2) (x_dk dn_299_0_0_ok 16 rfl) (by decide +kernel)) nx_stor)))))
  (e_Tok2
  (e_Tok2
  (e_Lok (ld_aload_n_0 (x_dk dn_299_0_0_ok 17 rfl)))
  (e_Tok2
  (e_Lok (lk_12_146g ho_299 (x_dk dn_299_0_0_ok 18 rfl)))
  (e_Lok (ld_iload_n_1 (x_dk dn_299_0_0_ok 19 rfl)))))
  (e_Tok2
  (e_Lok (ld_lload_n_2 (x_dk dn_299_0_0_ok 20 rfl)))
  (e_Tok2
  (e_Lok (ps_iconst_1 (x_dk dn_299_0_0_ok 21 rfl)))
  (e_Lok (lk_12_384 ho_299 (x_dk dn_299_0_0_ok 22 rfl))))))))
def te_299_23 : Nat → eE := (e_T 53 (e_T 43 (e_T 39 (e_T 36 (e_L 36 (0, ei_push (4, 549755813888) 39, 0, 0)) (e_L 39 (0, ei_binL eG_add 40, 0, 0))) (e_T 40 (e_L 40 (0, ei_push (0, 40) 42, 0, 0)) (e_T 42 (e_L 42 (0, ei_shL (eSh (fun x y => x >>> (y.toInt64 &&& 63))) 43, 0, 0)) (e_L 43 (0, ei_unL (fun x => (0, e32 x)) 44, 0, 0))))) (e_T 46 (e_T 44 (e_L 44 (0, ei_ast elay false 45, 0, 0)) (e_T 45 (e_L 45 (0, ei_load 0 2 46, 0, 0)) (e_L 46 (0, ei_getf eft elay 12 54 49, 0, 0)))) (e_T 49 (e_L 49 (0, ei_push (0, 1024) 52, 0, 0)) (e_T 52 (e_L 52 (0, ei_load 1 0 53, 0, 0)) (e_L 53 (0, ei_bin eF_sub 54, 0, 0)))))) (e_T 63 (e_T 56 (e_T 54 (e_L 54 (0, ei_load 2 1 55, 0, 0)) (e_T 55 (e_L 55 (0, ei_push (0, 0) 56, 0, 0)) (e_L 56 (2, e_nof, 298, 2)))) (e_T 59 (e_L 59 (0, ei_push (4, 549755813888) 62, 0, 0)) (e_T 62 (e_L 62 (0, ei_binL eG_add 63, 0, 0)) (e_L 63 (0, ei_push (0, 40) 65, 0, 0))))) (e_T 67 (e_T 65 (e_L 65 (0, ei_shL (eSh (fun x y => x >>> (y.toInt64 &&& 63))) 66, 0, 0)) (e_T 66 (e_L 66 (0, ei_unL (fun x => (0, e32 x)) 67, 0, 0)) (e_L 67 (0, ei_ast elay false 68, 0, 0)))) (e_T 68 (e_L 68 (0, ei_inc 1 1 71, 0, 0)) (e_T 71 (e_L 71 (0, ei_goto 2, 0, 0)) (e_L 74 (1, e_nof, 0, 0)))))))
set_option maxRecDepth 20000 in
set_option maxHeartbeats 4000000 in
theorem te_299_23_ok : ∀ pc, e_EOq eft cls elay eI n_299 pc (te_299_23 pc) :=
  (e_Tok2
  (e_Tok2
  (e_Tok2
  (e_Tok2
  (e_Lok (e_st (I := eI) (er_ldc2 (ix := 388) (z := 549755813888) (v := 549755813888) (x_dk dn_299_0_0_ok 23 rfl) (in_t9 (List.mem_of_getElem? (i := 104) rfl) rfl) (by decide)) (nx_push (Or.inl rfl))))
  (e_Lok (e_st (I := eI) (er_ladd (x_dk dn_299_0_0_ok 24 rfl)) (nx_binL bG_ladd))))
  (e_Tok2
  (e_Lok (ps_bipush_40 (x_dk dn_299_0_1_ok 0 rfl)))
  (e_Tok2
  (e_Lok (e_st (I := eI) (er_lshr (x_dk dn_299_0_1_ok 1 rfl)) nx_shL))
  (e_Lok (e_st (I := eI) (er_l2i (x_dk dn_299_0_1_ok 2 rfl)) (nx_unL (fun _ => rfl)))))))
  (e_Tok2
  (e_Tok2
  (e_Lok (sm_iastore (x_dk dn_299_0_1_ok 3 rfl)))
  (e_Tok2
  (e_Lok (ld_aload_n_0 (x_dk dn_299_0_1_ok 4 rfl)))
  (e_Lok (lk_12_146g ho_299 (x_dk dn_299_0_1_ok 5 rfl)))))
  (e_Tok2
  (e_Lok (ps_sipush_1024 (x_dk dn_299_0_1_ok 6 rfl)))
  (e_Tok2
  (e_Lok (ld_iload_n_1 (x_dk dn_299_0_1_ok 7 rfl)))
  (e_Lok (sm_isub (x_dk dn_299_0_1_ok 8 rfl)))))))
  (e_Tok2
  (e_Tok2
  (e_Tok2
  (e_Lok (ld_lload_n_2 (x_dk dn_299_0_1_ok 9 rfl)))
  (e_Tok2
  (e_Lok (ps_iconst_0 (x_dk dn_299_0_1_ok 10 rfl)))
  (e_Lok (lk_12_384 ho_299 (x_dk dn_299_0_1_ok 11 rfl)))))
  (e_Tok2
  (e_Lok (e_st (I := eI) (er_ldc2 (ix := 388) (z := 549755813888) (v := 549755813888) (x_dk dn_299_0_1_ok 12 rfl) (in_t9 (List.mem_of_getElem? (i := 104) rfl) rfl) (by decide)) (nx_push (Or.inl rfl))))
  (e_Tok2
  (e_Lok (e_st (I := eI) (er_ladd (x_dk dn_299_0_1_ok 13 rfl)) (nx_binL bG_ladd)))
  (e_Lok (ps_bipush_40 (x_dk dn_299_0_1_ok 14 rfl))))))
  (e_Tok2
  (e_Tok2
  (e_Lok (e_st (I := eI) (er_lshr (x_dk dn_299_0_1_ok 15 rfl)) nx_shL))
  (e_Tok2
  (e_Lok (e_st (I := eI) (er_l2i (x_dk dn_299_0_1_ok 16 rfl)) (nx_unL (fun _ => rfl))))
  (e_Lok (sm_iastore (x_dk dn_299_0_1_ok 17 rfl)))))
  (e_Tok2
  (e_Lok (e_st (I := eI) (er_iinc (i := 1) (n := 1) (x_dk dn_299_0_1_ok 18 rfl) (by decide +kernel) (by decide)) nx_inc))
  (e_Tok2
  (e_Lok (e_st (I := eI) (er_goto (off := (-69)) (tg := 2) (x_dk dn_299_0_1_ok 19 rfl) (by decide)) nx_goto))
  (e_Lok (e_rt (I := eI) (k := 0) ⟨(x_dk dn_299_0_1_ok 20 rfl), rfl⟩)))))))
def te_299 : Nat → eE := (e_T 33 te_299_0 te_299_23)
theorem te_299_ok : ∀ pc, e_EOq eft cls elay eI n_299 pc (te_299 pc) := (e_Tok2 (te_299_0_ok) (te_299_23_ok))
theorem ho_300 : (xm_y n_300).cls = "RobotCellHouseModel" := rfl
def dn_300_0_0 : List (Nat × Instr × Nat) := [(0, .iload_n 1, 1), (1, .sipush 4095, 3), (4, .iand, 1), (5, .istore_n 2, 1), (6, .iload_n 2, 1), (7, .sipush 1024, 3), (10, .if_icmp .gt 12, 3), (13, .aload_n 0, 1), (14, .getfield 146, 3), (17, .iload_n 2, 1), (18, .iaload, 1), (19, .goto 55, 3), (22, .iload_n 2, 1), (23, .sipush 2048, 3), (26, .if_icmp .gt 16, 3), (29, .aload_n 0, 1), (30, .getfield 146, 3), (33, .sipush 2048, 3), (36, .iload_n 2, 1), (37, .isub, 1), (38, .iaload, 1), (39, .goto 35, 3), (42, .iload_n 2, 1), (43, .sipush 3072, 3), (46, .if_icmp .gt 17, 3)]
set_option maxRecDepth 20000 in
theorem dn_300_0_0_ok : dn_300_0_0.all (fun q => decide (decode (xm_b n_300) q.1 = .ok (q.2.1, q.2.2))) = true := xa_g_ok (by decide +kernel)
def dn_300_0_1 : List (Nat × Instr × Nat) := [(49, .aload_n 0, 1), (50, .getfield 146, 3), (53, .iload_n 2, 1), (54, .sipush 2048, 3), (57, .isub, 1), (58, .iaload, 1), (59, .ineg, 1), (60, .goto 14, 3), (63, .aload_n 0, 1), (64, .getfield 146, 3), (67, .sipush 4096, 3), (70, .iload_n 2, 1), (71, .isub, 1), (72, .iaload, 1), (73, .ineg, 1), (74, .ireturn, 1)]
set_option maxRecDepth 20000 in
theorem dn_300_0_1_ok : dn_300_0_1.all (fun q => decide (decode (xm_b n_300) q.1 = .ok (q.2.1, q.2.2))) = true := xa_g_ok (by decide +kernel)
def te_300_0 : Nat → eE := (e_T 17 (e_T 6 (e_T 1 (e_T 0 (e_L 0 (0, ei_load 1 0 1, 0, 0)) (e_L 1 (0, ei_push (0, 4095) 4, 0, 0))) (e_T 4 (e_L 4 (0, ei_bin (eB (fun x y => x &&& y)) 5, 0, 0)) (e_T 5 (e_L 5 (0, ei_stor 2 0 6, 0, 0)) (e_L 6 (0, ei_load 2 0 7, 0, 0))))) (e_T 10 (e_T 7 (e_L 7 (0, ei_push (0, 1024) 10, 0, 0)) (e_L 10 (0, ei_if2 4 22 13, 0, 0))) (e_T 13 (e_L 13 (0, ei_load 0 2 14, 0, 0)) (e_T 14 (e_L 14 (0, ei_getf eft elay 12 54 17, 0, 0)) (e_L 17 (0, ei_load 2 0 18, 0, 0)))))) (e_T 26 (e_T 19 (e_T 18 (e_L 18 (0, ei_ald elay false 19, 0, 0)) (e_L 19 (0, ei_goto 74, 0, 0))) (e_T 22 (e_L 22 (0, ei_load 2 0 23, 0, 0)) (e_T 23 (e_L 23 (0, ei_push (0, 2048) 26, 0, 0)) (e_L 26 (0, ei_if2 4 42 29, 0, 0))))) (e_T 30 (e_T 29 (e_L 29 (0, ei_load 0 2 30, 0, 0)) (e_L 30 (0, ei_getf eft elay 12 54 33, 0, 0))) (e_T 33 (e_L 33 (0, ei_push (0, 2048) 36, 0, 0)) (e_T 36 (e_L 36 (0, ei_load 2 0 37, 0, 0)) (e_L 37 (0, ei_bin eF_sub 38, 0, 0)))))))
set_option maxRecDepth 20000 in
set_option maxHeartbeats 4000000 in
theorem te_300_0_ok : ∀ pc, e_EOq eft cls elay eI n_300 pc (te_300_0 pc) :=
  (e_Tok2
  (e_Tok2
  (e_Tok2
  (e_Tok2
  (e_Lok (ld_iload_n_1 (x_dk dn_300_0_0_ok 0 rfl)))
  (e_Lok (ps_sipush_4095 (x_dk dn_300_0_0_ok 1 rfl))))
  (e_Tok2
  (e_Lok (e_st (I := eI) (er_iand (x_dk dn_300_0_0_ok 2 rfl)) nx_bin))
  (e_Tok2
  (e_Lok (e_st (I := eI) (er_istore_n (i := 2) (x_dk dn_300_0_0_ok 3 rfl) (by decide +kernel)) nx_stor))
  (e_Lok (ld_iload_n_2 (x_dk dn_300_0_0_ok 4 rfl))))))
  (e_Tok2
  (e_Tok2
  (e_Lok (ps_sipush_1024 (x_dk dn_300_0_0_ok 5 rfl)))
  (e_Lok (e_st (I := eI) (er_icmpgt (off := 12) (tg := 22) (x_dk dn_300_0_0_ok 6 rfl) (by decide)) nx_if2)))
  (e_Tok2
  (e_Lok (ld_aload_n_0 (x_dk dn_300_0_0_ok 7 rfl)))
  (e_Tok2
  (e_Lok (lk_12_146g ho_300 (x_dk dn_300_0_0_ok 8 rfl)))
  (e_Lok (ld_iload_n_2 (x_dk dn_300_0_0_ok 9 rfl)))))))
  (e_Tok2
  (e_Tok2
  (e_Tok2
  (e_Lok (sm_iaload (x_dk dn_300_0_0_ok 10 rfl)))
  (e_Lok (e_st (I := eI) (er_goto (off := 55) (tg := 74) (x_dk dn_300_0_0_ok 11 rfl) (by decide)) nx_goto)))
  (e_Tok2
  (e_Lok (ld_iload_n_2 (x_dk dn_300_0_0_ok 12 rfl)))
  (e_Tok2
  (e_Lok (ps_sipush_2048 (x_dk dn_300_0_0_ok 13 rfl)))
  (e_Lok (e_st (I := eI) (er_icmpgt (off := 16) (tg := 42) (x_dk dn_300_0_0_ok 14 rfl) (by decide)) nx_if2)))))
  (e_Tok2
  (e_Tok2
  (e_Lok (ld_aload_n_0 (x_dk dn_300_0_0_ok 15 rfl)))
  (e_Lok (lk_12_146g ho_300 (x_dk dn_300_0_0_ok 16 rfl))))
  (e_Tok2
  (e_Lok (ps_sipush_2048 (x_dk dn_300_0_0_ok 17 rfl)))
  (e_Tok2
  (e_Lok (ld_iload_n_2 (x_dk dn_300_0_0_ok 18 rfl)))
  (e_Lok (sm_isub (x_dk dn_300_0_0_ok 19 rfl))))))))
def te_300_20 : Nat → eE := (e_T 57 (e_T 46 (e_T 39 (e_T 38 (e_L 38 (0, ei_ald elay false 39, 0, 0)) (e_L 39 (0, ei_goto 74, 0, 0))) (e_T 42 (e_L 42 (0, ei_load 2 0 43, 0, 0)) (e_T 43 (e_L 43 (0, ei_push (0, 3072) 46, 0, 0)) (e_L 46 (0, ei_if2 4 63 49, 0, 0))))) (e_T 50 (e_T 49 (e_L 49 (0, ei_load 0 2 50, 0, 0)) (e_L 50 (0, ei_getf eft elay 12 54 53, 0, 0))) (e_T 53 (e_L 53 (0, ei_load 2 0 54, 0, 0)) (e_T 54 (e_L 54 (0, ei_push (0, 2048) 57, 0, 0)) (e_L 57 (0, ei_bin eF_sub 58, 0, 0)))))) (e_T 64 (e_T 59 (e_T 58 (e_L 58 (0, ei_ald elay false 59, 0, 0)) (e_L 59 (0, ei_un (fun x => (0, e32 (-x))) 60, 0, 0))) (e_T 60 (e_L 60 (0, ei_goto 74, 0, 0)) (e_T 63 (e_L 63 (0, ei_load 0 2 64, 0, 0)) (e_L 64 (0, ei_getf eft elay 12 54 67, 0, 0))))) (e_T 71 (e_T 67 (e_L 67 (0, ei_push (0, 4096) 70, 0, 0)) (e_T 70 (e_L 70 (0, ei_load 2 0 71, 0, 0)) (e_L 71 (0, ei_bin eF_sub 72, 0, 0)))) (e_T 72 (e_L 72 (0, ei_ald elay false 73, 0, 0)) (e_T 73 (e_L 73 (0, ei_un (fun x => (0, e32 (-x))) 74, 0, 0)) (e_L 74 (1, e_nof, 1, 0)))))))
set_option maxRecDepth 20000 in
set_option maxHeartbeats 4000000 in
theorem te_300_20_ok : ∀ pc, e_EOq eft cls elay eI n_300 pc (te_300_20 pc) :=
  (e_Tok2
  (e_Tok2
  (e_Tok2
  (e_Tok2
  (e_Lok (sm_iaload (x_dk dn_300_0_0_ok 20 rfl)))
  (e_Lok (e_st (I := eI) (er_goto (off := 35) (tg := 74) (x_dk dn_300_0_0_ok 21 rfl) (by decide)) nx_goto)))
  (e_Tok2
  (e_Lok (ld_iload_n_2 (x_dk dn_300_0_0_ok 22 rfl)))
  (e_Tok2
  (e_Lok (ps_sipush_3072 (x_dk dn_300_0_0_ok 23 rfl)))
  (e_Lok (e_st (I := eI) (er_icmpgt (off := 17) (tg := 63) (x_dk dn_300_0_0_ok 24 rfl) (by decide)) nx_if2)))))
  (e_Tok2
  (e_Tok2
  (e_Lok (ld_aload_n_0 (x_dk dn_300_0_1_ok 0 rfl)))
  (e_Lok (lk_12_146g ho_300 (x_dk dn_300_0_1_ok 1 rfl))))
  (e_Tok2
  (e_Lok (ld_iload_n_2 (x_dk dn_300_0_1_ok 2 rfl)))
  (e_Tok2
  (e_Lok (ps_sipush_2048 (x_dk dn_300_0_1_ok 3 rfl)))
  (e_Lok (sm_isub (x_dk dn_300_0_1_ok 4 rfl)))))))
  (e_Tok2
  (e_Tok2
  (e_Tok2
  (e_Lok (sm_iaload (x_dk dn_300_0_1_ok 5 rfl)))
  (e_Lok (e_st (I := eI) (er_ineg (x_dk dn_300_0_1_ok 6 rfl)) (nx_un (fun _ => rfl)))))
  (e_Tok2
  (e_Lok (e_st (I := eI) (er_goto (off := 14) (tg := 74) (x_dk dn_300_0_1_ok 7 rfl) (by decide)) nx_goto))
  (e_Tok2
  (e_Lok (ld_aload_n_0 (x_dk dn_300_0_1_ok 8 rfl)))
  (e_Lok (lk_12_146g ho_300 (x_dk dn_300_0_1_ok 9 rfl))))))
  (e_Tok2
  (e_Tok2
  (e_Lok (ps_sipush_4096 (x_dk dn_300_0_1_ok 10 rfl)))
  (e_Tok2
  (e_Lok (ld_iload_n_2 (x_dk dn_300_0_1_ok 11 rfl)))
  (e_Lok (sm_isub (x_dk dn_300_0_1_ok 12 rfl)))))
  (e_Tok2
  (e_Lok (sm_iaload (x_dk dn_300_0_1_ok 13 rfl)))
  (e_Tok2
  (e_Lok (e_st (I := eI) (er_ineg (x_dk dn_300_0_1_ok 14 rfl)) (nx_un (fun _ => rfl))))
  (e_Lok (e_rt (I := eI) (k := 1) ⟨(x_dk dn_300_0_1_ok 15 rfl), rfl⟩)))))))
def te_300 : Nat → eE := (e_T 37 te_300_0 te_300_20)
theorem te_300_ok : ∀ pc, e_EOq eft cls elay eI n_300 pc (te_300 pc) := (e_Tok2 (te_300_0_ok) (te_300_20_ok))
theorem ho_301 : (xm_y n_301).cls = "RobotCellHouseModel" := rfl
def dn_301_0_0 : List (Nat × Instr × Nat) := [(0, .iload_n 2, 1), (1, .ifCond .eq 8, 3), (4, .bipush 28, 2), (6, .goto 7, 3), (9, .bipush 7, 2), (11, .iload_n 1, 1), (12, .imul, 1), (13, .istore_n 3, 1), (14, .ldc2_w 390, 3), (17, .aload_n 0, 1), (18, .getfield 31, 3), (21, .iload_n 1, 1), (22, .iaload, 1), (23, .i2l, 1), (24, .lmul, 1), (25, .lstore 4, 2), (27, .ldc2_w 390, 3), (30, .aload_n 0, 1), (31, .getfield 34, 3), (34, .iload_n 1, 1), (35, .iaload, 1), (36, .i2l, 1), (37, .lmul, 1), (38, .lstore 6, 2), (40, .aload_n 0, 1)]
set_option maxRecDepth 20000 in
theorem dn_301_0_0_ok : dn_301_0_0.all (fun q => decide (decode (xm_b n_301) q.1 = .ok (q.2.1, q.2.2))) = true := xa_g_ok (by decide +kernel)
def dn_301_0_1 : List (Nat × Instr × Nat) := [(41, .getfield 37, 3), (44, .iload_n 1, 1), (45, .iaload, 1), (46, .istore 8, 2), (48, .aload_n 0, 1), (49, .getfield 149, 3), (52, .iload_n 3, 1), (53, .aload_n 0, 1), (54, .getfield 31, 3), (57, .iload_n 1, 1), (58, .iaload, 1), (59, .iastore, 1), (60, .aload_n 0, 1), (61, .getfield 152, 3), (64, .iload_n 3, 1), (65, .aload_n 0, 1), (66, .getfield 34, 3), (69, .iload_n 1, 1), (70, .iaload, 1), (71, .iastore, 1), (72, .iconst 0, 1), (73, .istore 9, 2), (75, .iload 9, 2), (77, .aload_n 0, 1), (78, .getfield 43, 3)]
set_option maxRecDepth 20000 in
theorem dn_301_0_1_ok : dn_301_0_1.all (fun q => decide (decode (xm_b n_301) q.1 = .ok (q.2.1, q.2.2))) = true := xa_g_ok (by decide +kernel)
def dn_301_0_2 : List (Nat × Instr × Nat) := [(81, .iload_n 1, 1), (82, .iaload, 1), (83, .if_icmp .ge 165, 3), (86, .iload_n 2, 1), (87, .ifCond .eq 13, 3), (90, .aload_n 0, 1), (91, .getfield 155, 3), (94, .iload 9, 2), (96, .iaload, 1), (97, .goto 18, 3), (100, .aload_n 0, 1), (101, .getfield 8, 3), (104, .iload_n 1, 1), (105, .invokestatic 294, 3), (108, .bipush 16, 2), (110, .iadd, 1), (111, .iload 9, 2), (113, .iadd, 1), (114, .iaload, 1), (115, .istore 10, 2), (117, .aload_n 0, 1), (118, .getfield 61, 3), (121, .bipush 6, 2), (123, .iload_n 1, 1), (124, .imul, 1)]
set_option maxRecDepth 20000 in
theorem dn_301_0_2_ok : dn_301_0_2.all (fun q => decide (decode (xm_b n_301) q.1 = .ok (q.2.1, q.2.2))) = true := xa_g_ok (by decide +kernel)
def dn_301_0_3 : List (Nat × Instr × Nat) := [(125, .iload 9, 2), (127, .iadd, 1), (128, .iaload, 1), (129, .istore 11, 2), (131, .aload_n 0, 1), (132, .getfield 46, 3), (135, .bipush 6, 2), (137, .iload_n 1, 1), (138, .imul, 1), (139, .iload 9, 2), (141, .iadd, 1), (142, .iaload, 1), (143, .iconst 1, 1), (144, .if_icmp .ne 13, 3), (147, .iload 8, 2), (149, .iload 10, 2), (151, .iadd, 1), (152, .istore 8, 2), (154, .goto 10, 3), (157, .iload 11, 2), (159, .iload 10, 2), (161, .iadd, 1), (162, .istore 11, 2), (164, .lload 4, 2), (166, .iload 11, 2)]
set_option maxRecDepth 20000 in
theorem dn_301_0_3_ok : dn_301_0_3.all (fun q => decide (decode (xm_b n_301) q.1 = .ok (q.2.1, q.2.2))) = true := xa_g_ok (by decide +kernel)
def dn_301_1_0 : List (Nat × Instr × Nat) := [(168, .i2l, 1), (169, .aload_n 0, 1), (170, .iload 8, 2), (172, .sipush 1024, 3), (175, .iadd, 1), (176, .invokevirtual 392, 3), (179, .i2l, 1), (180, .lmul, 1), (181, .ladd, 1), (182, .lstore 4, 2), (184, .lload 6, 2), (186, .iload 11, 2), (188, .i2l, 1), (189, .aload_n 0, 1), (190, .iload 8, 2), (192, .invokevirtual 392, 3), (195, .i2l, 1), (196, .lmul, 1), (197, .ladd, 1), (198, .lstore 6, 2), (200, .aload_n 0, 1), (201, .getfield 149, 3), (204, .iload_n 3, 1), (205, .iload 9, 2), (207, .iadd, 1)]
set_option maxRecDepth 20000 in
theorem dn_301_1_0_ok : dn_301_1_0.all (fun q => decide (decode (xm_b n_301) q.1 = .ok (q.2.1, q.2.2))) = true := xa_g_ok (by decide +kernel)
def dn_301_1_1 : List (Nat × Instr × Nat) := [(208, .iconst 1, 1), (209, .iadd, 1), (210, .lload 4, 2), (212, .ldc2_w 395, 3), (215, .ladd, 1), (216, .bipush 20, 2), (218, .lshr, 1), (219, .l2i, 1), (220, .iastore, 1), (221, .aload_n 0, 1), (222, .getfield 152, 3), (225, .iload_n 3, 1), (226, .iload 9, 2), (228, .iadd, 1), (229, .iconst 1, 1), (230, .iadd, 1), (231, .lload 6, 2), (233, .ldc2_w 395, 3), (236, .ladd, 1), (237, .bipush 20, 2), (239, .lshr, 1), (240, .l2i, 1), (241, .iastore, 1), (242, .iinc 9 1, 3), (245, .goto (-170), 3)]
set_option maxRecDepth 20000 in
theorem dn_301_1_1_ok : dn_301_1_1.all (fun q => decide (decode (xm_b n_301) q.1 = .ok (q.2.1, q.2.2))) = true := xa_g_ok (by decide +kernel)
def dn_301_1_2 : List (Nat × Instr × Nat) := [(248, .return_, 1)]
set_option maxRecDepth 20000 in
theorem dn_301_1_2_ok : dn_301_1_2.all (fun q => decide (decode (xm_b n_301) q.1 = .ok (q.2.1, q.2.2))) = true := xa_g_ok (by decide +kernel)
def te_301_0 : Nat → eE := (e_T 30 (e_T 14 (e_T 6 (e_T 1 (e_T 0 (e_L 0 (0, ei_load 2 0 1, 0, 0)) (e_L 1 (0, ei_if1 0 9 4, 0, 0))) (e_T 4 (e_L 4 (0, ei_push (0, 28) 6, 0, 0)) (e_L 6 (0, ei_goto 13, 0, 0)))) (e_T 11 (e_T 9 (e_L 9 (0, ei_push (0, 7) 11, 0, 0)) (e_L 11 (0, ei_load 1 0 12, 0, 0))) (e_T 12 (e_L 12 (0, ei_bin eF_mul 13, 0, 0)) (e_T 13 (e_L 13 (0, ei_stor 3 0 14, 0, 0)) (e_L 14 (0, ei_push (4, 1048576) 17, 0, 0)))))) (e_T 22 (e_T 18 (e_T 17 (e_L 17 (0, ei_load 0 2 18, 0, 0)) (e_L 18 (0, ei_getf eft elay 12 11 21, 0, 0))) (e_T 21 (e_L 21 (0, ei_load 1 0 22, 0, 0)) (e_L 22 (0, ei_ald elay false 23, 0, 0)))) (e_T 24 (e_T 23 (e_L 23 (0, ei_un (fun x => (4, x)) 24, 0, 0)) (e_L 24 (0, ei_binL eG_mul 25, 0, 0))) (e_T 25 (e_L 25 (0, ei_stor 4 1 27, 0, 0)) (e_T 27 (e_L 27 (0, ei_push (4, 1048576) 30, 0, 0)) (e_L 30 (0, ei_load 0 2 31, 0, 0))))))) (e_T 44 (e_T 36 (e_T 34 (e_T 31 (e_L 31 (0, ei_getf eft elay 12 12 34, 0, 0)) (e_L 34 (0, ei_load 1 0 35, 0, 0))) (e_T 35 (e_L 35 (0, ei_ald elay false 36, 0, 0)) (e_L 36 (0, ei_un (fun x => (4, x)) 37, 0, 0)))) (e_T 38 (e_T 37 (e_L 37 (0, ei_binL eG_mul 38, 0, 0)) (e_L 38 (0, ei_stor 6 1 40, 0, 0))) (e_T 40 (e_L 40 (0, ei_load 0 2 41, 0, 0)) (e_T 41 (e_L 41 (0, ei_getf eft elay 12 13 44, 0, 0)) (e_L 44 (0, ei_load 1 0 45, 0, 0)))))) (e_T 52 (e_T 46 (e_T 45 (e_L 45 (0, ei_ald elay false 46, 0, 0)) (e_L 46 (0, ei_stor 8 0 48, 0, 0))) (e_T 48 (e_L 48 (0, ei_load 0 2 49, 0, 0)) (e_T 49 (e_L 49 (0, ei_getf eft elay 12 55 52, 0, 0)) (e_L 52 (0, ei_load 3 0 53, 0, 0))))) (e_T 54 (e_T 53 (e_L 53 (0, ei_load 0 2 54, 0, 0)) (e_L 54 (0, ei_getf eft elay 12 11 57, 0, 0))) (e_T 57 (e_L 57 (0, ei_load 1 0 58, 0, 0)) (e_T 58 (e_L 58 (0, ei_ald elay false 59, 0, 0)) (e_L 59 (0, ei_ast elay false 60, 0, 0))))))))
set_option maxRecDepth 20000 in
set_option maxHeartbeats 4000000 in
theorem te_301_0_ok : ∀ pc, e_EOq eft cls elay eI n_301 pc (te_301_0 pc) :=
  (e_Tok2
  (e_Tok2
  (e_Tok2
  (e_Tok2
  (e_Tok2
  (e_Lok (ld_iload_n_2 (x_dk dn_301_0_0_ok 0 rfl)))
  (e_Lok (e_st (I := eI) (er_ifeq (off := 8) (tg := 9) (x_dk dn_301_0_0_ok 1 rfl) (by decide)) nx_if1)))
  (e_Tok2
  (e_Lok (ps_bipush_28 (x_dk dn_301_0_0_ok 2 rfl)))
  (e_Lok (e_st (I := eI) (er_goto (off := 7) (tg := 13) (x_dk dn_301_0_0_ok 3 rfl) (by decide)) nx_goto))))
  (e_Tok2
  (e_Tok2
  (e_Lok (ps_bipush_7 (x_dk dn_301_0_0_ok 4 rfl)))
  (e_Lok (ld_iload_n_1 (x_dk dn_301_0_0_ok 5 rfl))))
  (e_Tok2
  (e_Lok (sm_imul (x_dk dn_301_0_0_ok 6 rfl)))
  (e_Tok2
  (e_Lok (e_st (I := eI) (er_istore_n (i := 3) (x_dk dn_301_0_0_ok 7 rfl) (by decide +kernel)) nx_stor))
  (e_Lok (e_st (I := eI) (er_ldc2 (ix := 390) (z := 1048576) (v := 1048576) (x_dk dn_301_0_0_ok 8 rfl) (in_t11 (List.mem_of_getElem? (i := 141) rfl) rfl) (by decide)) (nx_push (Or.inl rfl))))))))
  (e_Tok2
  (e_Tok2
  (e_Tok2
  (e_Lok (ld_aload_n_0 (x_dk dn_301_0_0_ok 9 rfl)))
  (e_Lok (lk_12_31g ho_301 (x_dk dn_301_0_0_ok 10 rfl))))
  (e_Tok2
  (e_Lok (ld_iload_n_1 (x_dk dn_301_0_0_ok 11 rfl)))
  (e_Lok (sm_iaload (x_dk dn_301_0_0_ok 12 rfl)))))
  (e_Tok2
  (e_Tok2
  (e_Lok (e_st (I := eI) (er_i2l (x_dk dn_301_0_0_ok 13 rfl)) (nx_un (fun _ => rfl))))
  (e_Lok (e_st (I := eI) (er_lmul (x_dk dn_301_0_0_ok 14 rfl)) (nx_binL bG_lmul))))
  (e_Tok2
  (e_Lok (e_st (I := eI) (er_lstore (i := 4) (x_dk dn_301_0_0_ok 15 rfl) (by decide +kernel)) nx_stor))
  (e_Tok2
  (e_Lok (e_st (I := eI) (er_ldc2 (ix := 390) (z := 1048576) (v := 1048576) (x_dk dn_301_0_0_ok 16 rfl) (in_t11 (List.mem_of_getElem? (i := 141) rfl) rfl) (by decide)) (nx_push (Or.inl rfl))))
  (e_Lok (ld_aload_n_0 (x_dk dn_301_0_0_ok 17 rfl))))))))
  (e_Tok2
  (e_Tok2
  (e_Tok2
  (e_Tok2
  (e_Lok (lk_12_34g ho_301 (x_dk dn_301_0_0_ok 18 rfl)))
  (e_Lok (ld_iload_n_1 (x_dk dn_301_0_0_ok 19 rfl))))
  (e_Tok2
  (e_Lok (sm_iaload (x_dk dn_301_0_0_ok 20 rfl)))
  (e_Lok (e_st (I := eI) (er_i2l (x_dk dn_301_0_0_ok 21 rfl)) (nx_un (fun _ => rfl))))))
  (e_Tok2
  (e_Tok2
  (e_Lok (e_st (I := eI) (er_lmul (x_dk dn_301_0_0_ok 22 rfl)) (nx_binL bG_lmul)))
  (e_Lok (e_st (I := eI) (er_lstore (i := 6) (x_dk dn_301_0_0_ok 23 rfl) (by decide +kernel)) nx_stor)))
  (e_Tok2
  (e_Lok (ld_aload_n_0 (x_dk dn_301_0_0_ok 24 rfl)))
  (e_Tok2
  (e_Lok (lk_12_37g ho_301 (x_dk dn_301_0_1_ok 0 rfl)))
  (e_Lok (ld_iload_n_1 (x_dk dn_301_0_1_ok 1 rfl)))))))
  (e_Tok2
  (e_Tok2
  (e_Tok2
  (e_Lok (sm_iaload (x_dk dn_301_0_1_ok 2 rfl)))
  (e_Lok (e_st (I := eI) (er_istore (i := 8) (x_dk dn_301_0_1_ok 3 rfl) (by decide +kernel)) nx_stor)))
  (e_Tok2
  (e_Lok (ld_aload_n_0 (x_dk dn_301_0_1_ok 4 rfl)))
  (e_Tok2
  (e_Lok (lk_12_149g ho_301 (x_dk dn_301_0_1_ok 5 rfl)))
  (e_Lok (ld_iload_n_3 (x_dk dn_301_0_1_ok 6 rfl))))))
  (e_Tok2
  (e_Tok2
  (e_Lok (ld_aload_n_0 (x_dk dn_301_0_1_ok 7 rfl)))
  (e_Lok (lk_12_31g ho_301 (x_dk dn_301_0_1_ok 8 rfl))))
  (e_Tok2
  (e_Lok (ld_iload_n_1 (x_dk dn_301_0_1_ok 9 rfl)))
  (e_Tok2
  (e_Lok (sm_iaload (x_dk dn_301_0_1_ok 10 rfl)))
  (e_Lok (sm_iastore (x_dk dn_301_0_1_ok 11 rfl)))))))))
def te_301_37 : Nat → eE := (e_T 90 (e_T 72 (e_T 65 (e_T 61 (e_T 60 (e_L 60 (0, ei_load 0 2 61, 0, 0)) (e_L 61 (0, ei_getf eft elay 12 56 64, 0, 0))) (e_T 64 (e_L 64 (0, ei_load 3 0 65, 0, 0)) (e_L 65 (0, ei_load 0 2 66, 0, 0)))) (e_T 69 (e_T 66 (e_L 66 (0, ei_getf eft elay 12 12 69, 0, 0)) (e_L 69 (0, ei_load 1 0 70, 0, 0))) (e_T 70 (e_L 70 (0, ei_ald elay false 71, 0, 0)) (e_T 71 (e_L 71 (0, ei_ast elay false 72, 0, 0)) (e_L 72 (0, ei_push (0, 0) 73, 0, 0)))))) (e_T 81 (e_T 75 (e_T 73 (e_L 73 (0, ei_stor 9 0 75, 0, 0)) (e_L 75 (0, ei_load 9 0 77, 0, 0))) (e_T 77 (e_L 77 (0, ei_load 0 2 78, 0, 0)) (e_T 78 (e_L 78 (0, ei_getf eft elay 12 15 81, 0, 0)) (e_L 81 (0, ei_load 1 0 82, 0, 0))))) (e_T 83 (e_T 82 (e_L 82 (0, ei_ald elay false 83, 0, 0)) (e_L 83 (0, ei_if2 3 248 86, 0, 0))) (e_T 86 (e_L 86 (0, ei_load 2 0 87, 0, 0)) (e_T 87 (e_L 87 (0, ei_if1 0 100 90, 0, 0)) (e_L 90 (0, ei_load 0 2 91, 0, 0))))))) (e_T 108 (e_T 97 (e_T 94 (e_T 91 (e_L 91 (0, ei_getf eft elay 12 57 94, 0, 0)) (e_L 94 (0, ei_load 9 0 96, 0, 0))) (e_T 96 (e_L 96 (0, ei_ald elay false 97, 0, 0)) (e_L 97 (0, ei_goto 115, 0, 0)))) (e_T 101 (e_T 100 (e_L 100 (0, ei_load 0 2 101, 0, 0)) (e_L 101 (0, ei_getf eft elay 12 0 104, 0, 0))) (e_T 104 (e_L 104 (0, ei_load 1 0 105, 0, 0)) (e_T 105 (e_L 105 (2, e_nof, 268, 1)) (e_L 108 (0, ei_push (0, 16) 110, 0, 0)))))) (e_T 115 (e_T 111 (e_T 110 (e_L 110 (0, ei_bin eF_add 111, 0, 0)) (e_L 111 (0, ei_load 9 0 113, 0, 0))) (e_T 113 (e_L 113 (0, ei_bin eF_add 114, 0, 0)) (e_T 114 (e_L 114 (0, ei_ald elay false 115, 0, 0)) (e_L 115 (0, ei_stor 10 0 117, 0, 0))))) (e_T 118 (e_T 117 (e_L 117 (0, ei_load 0 2 118, 0, 0)) (e_L 118 (0, ei_getf eft elay 12 21 121, 0, 0))) (e_T 121 (e_L 121 (0, ei_push (0, 6) 123, 0, 0)) (e_T 123 (e_L 123 (0, ei_load 1 0 124, 0, 0)) (e_L 124 (0, ei_bin eF_mul 125, 0, 0))))))))
set_option maxRecDepth 20000 in
set_option maxHeartbeats 4000000 in
theorem te_301_37_ok : ∀ pc, e_EOq eft cls elay eI n_301 pc (te_301_37 pc) :=
  (e_Tok2
  (e_Tok2
  (e_Tok2
  (e_Tok2
  (e_Tok2
  (e_Lok (ld_aload_n_0 (x_dk dn_301_0_1_ok 12 rfl)))
  (e_Lok (lk_12_152g ho_301 (x_dk dn_301_0_1_ok 13 rfl))))
  (e_Tok2
  (e_Lok (ld_iload_n_3 (x_dk dn_301_0_1_ok 14 rfl)))
  (e_Lok (ld_aload_n_0 (x_dk dn_301_0_1_ok 15 rfl)))))
  (e_Tok2
  (e_Tok2
  (e_Lok (lk_12_34g ho_301 (x_dk dn_301_0_1_ok 16 rfl)))
  (e_Lok (ld_iload_n_1 (x_dk dn_301_0_1_ok 17 rfl))))
  (e_Tok2
  (e_Lok (sm_iaload (x_dk dn_301_0_1_ok 18 rfl)))
  (e_Tok2
  (e_Lok (sm_iastore (x_dk dn_301_0_1_ok 19 rfl)))
  (e_Lok (ps_iconst_0 (x_dk dn_301_0_1_ok 20 rfl)))))))
  (e_Tok2
  (e_Tok2
  (e_Tok2
  (e_Lok (e_st (I := eI) (er_istore (i := 9) (x_dk dn_301_0_1_ok 21 rfl) (by decide +kernel)) nx_stor))
  (e_Lok (ld_iload_9 (x_dk dn_301_0_1_ok 22 rfl))))
  (e_Tok2
  (e_Lok (ld_aload_n_0 (x_dk dn_301_0_1_ok 23 rfl)))
  (e_Tok2
  (e_Lok (lk_12_43g ho_301 (x_dk dn_301_0_1_ok 24 rfl)))
  (e_Lok (ld_iload_n_1 (x_dk dn_301_0_2_ok 0 rfl))))))
  (e_Tok2
  (e_Tok2
  (e_Lok (sm_iaload (x_dk dn_301_0_2_ok 1 rfl)))
  (e_Lok (e_st (I := eI) (er_icmpge (off := 165) (tg := 248) (x_dk dn_301_0_2_ok 2 rfl) (by decide)) nx_if2)))
  (e_Tok2
  (e_Lok (ld_iload_n_2 (x_dk dn_301_0_2_ok 3 rfl)))
  (e_Tok2
  (e_Lok (e_st (I := eI) (er_ifeq (off := 13) (tg := 100) (x_dk dn_301_0_2_ok 4 rfl) (by decide)) nx_if1))
  (e_Lok (ld_aload_n_0 (x_dk dn_301_0_2_ok 5 rfl))))))))
  (e_Tok2
  (e_Tok2
  (e_Tok2
  (e_Tok2
  (e_Lok (lk_12_155g ho_301 (x_dk dn_301_0_2_ok 6 rfl)))
  (e_Lok (ld_iload_9 (x_dk dn_301_0_2_ok 7 rfl))))
  (e_Tok2
  (e_Lok (sm_iaload (x_dk dn_301_0_2_ok 8 rfl)))
  (e_Lok (e_st (I := eI) (er_goto (off := 18) (tg := 115) (x_dk dn_301_0_2_ok 9 rfl) (by decide)) nx_goto))))
  (e_Tok2
  (e_Tok2
  (e_Lok (ld_aload_n_0 (x_dk dn_301_0_2_ok 10 rfl)))
  (e_Lok (lk_12_8g ho_301 (x_dk dn_301_0_2_ok 11 rfl))))
  (e_Tok2
  (e_Lok (ld_iload_n_1 (x_dk dn_301_0_2_ok 12 rfl)))
  (e_Tok2
  (e_Lok (lk_12_294 ho_301 (x_dk dn_301_0_2_ok 13 rfl)))
  (e_Lok (ps_bipush_16 (x_dk dn_301_0_2_ok 14 rfl)))))))
  (e_Tok2
  (e_Tok2
  (e_Tok2
  (e_Lok (sm_iadd (x_dk dn_301_0_2_ok 15 rfl)))
  (e_Lok (ld_iload_9 (x_dk dn_301_0_2_ok 16 rfl))))
  (e_Tok2
  (e_Lok (sm_iadd (x_dk dn_301_0_2_ok 17 rfl)))
  (e_Tok2
  (e_Lok (sm_iaload (x_dk dn_301_0_2_ok 18 rfl)))
  (e_Lok (e_st (I := eI) (er_istore (i := 10) (x_dk dn_301_0_2_ok 19 rfl) (by decide +kernel)) nx_stor)))))
  (e_Tok2
  (e_Tok2
  (e_Lok (ld_aload_n_0 (x_dk dn_301_0_2_ok 20 rfl)))
  (e_Lok (lk_12_61g ho_301 (x_dk dn_301_0_2_ok 21 rfl))))
  (e_Tok2
  (e_Lok (ps_bipush_6 (x_dk dn_301_0_2_ok 22 rfl)))
  (e_Tok2
  (e_Lok (ld_iload_n_1 (x_dk dn_301_0_2_ok 23 rfl)))
  (e_Lok (sm_imul (x_dk dn_301_0_2_ok 24 rfl)))))))))
def te_301_75 : Nat → eE := (e_T 154 (e_T 138 (e_T 129 (e_T 127 (e_T 125 (e_L 125 (0, ei_load 9 0 127, 0, 0)) (e_L 127 (0, ei_bin eF_add 128, 0, 0))) (e_T 128 (e_L 128 (0, ei_ald elay false 129, 0, 0)) (e_L 129 (0, ei_stor 11 0 131, 0, 0)))) (e_T 132 (e_T 131 (e_L 131 (0, ei_load 0 2 132, 0, 0)) (e_L 132 (0, ei_getf eft elay 12 16 135, 0, 0))) (e_T 135 (e_L 135 (0, ei_push (0, 6) 137, 0, 0)) (e_T 137 (e_L 137 (0, ei_load 1 0 138, 0, 0)) (e_L 138 (0, ei_bin eF_mul 139, 0, 0)))))) (e_T 144 (e_T 141 (e_T 139 (e_L 139 (0, ei_load 9 0 141, 0, 0)) (e_L 141 (0, ei_bin eF_add 142, 0, 0))) (e_T 142 (e_L 142 (0, ei_ald elay false 143, 0, 0)) (e_T 143 (e_L 143 (0, ei_push (0, 1) 144, 0, 0)) (e_L 144 (0, ei_if2 1 157 147, 0, 0))))) (e_T 149 (e_T 147 (e_L 147 (0, ei_load 8 0 149, 0, 0)) (e_L 149 (0, ei_load 10 0 151, 0, 0))) (e_T 151 (e_L 151 (0, ei_bin eF_add 152, 0, 0)) (e_T 152 (e_L 152 (0, ei_stor 8 0 154, 0, 0)) (e_L 154 (0, ei_goto 164, 0, 0))))))) (e_T 170 (e_T 162 (e_T 159 (e_T 157 (e_L 157 (0, ei_load 11 0 159, 0, 0)) (e_L 159 (0, ei_load 10 0 161, 0, 0))) (e_T 161 (e_L 161 (0, ei_bin eF_add 162, 0, 0)) (e_L 162 (0, ei_stor 11 0 164, 0, 0)))) (e_T 166 (e_T 164 (e_L 164 (0, ei_load 4 1 166, 0, 0)) (e_L 166 (0, ei_load 11 0 168, 0, 0))) (e_T 168 (e_L 168 (0, ei_un (fun x => (4, x)) 169, 0, 0)) (e_T 169 (e_L 169 (0, ei_load 0 2 170, 0, 0)) (e_L 170 (0, ei_load 8 0 172, 0, 0)))))) (e_T 180 (e_T 175 (e_T 172 (e_L 172 (0, ei_push (0, 1024) 175, 0, 0)) (e_L 175 (0, ei_bin eF_add 176, 0, 0))) (e_T 176 (e_L 176 (2, e_nof, 300, 2)) (e_T 179 (e_L 179 (0, ei_un (fun x => (4, x)) 180, 0, 0)) (e_L 180 (0, ei_binL eG_mul 181, 0, 0))))) (e_T 182 (e_T 181 (e_L 181 (0, ei_binL eG_add 182, 0, 0)) (e_L 182 (0, ei_stor 4 1 184, 0, 0))) (e_T 184 (e_L 184 (0, ei_load 6 1 186, 0, 0)) (e_T 186 (e_L 186 (0, ei_load 11 0 188, 0, 0)) (e_L 188 (0, ei_un (fun x => (4, x)) 189, 0, 0))))))))
set_option maxRecDepth 20000 in
set_option maxHeartbeats 4000000 in
theorem te_301_75_ok : ∀ pc, e_EOq eft cls elay eI n_301 pc (te_301_75 pc) :=
  (e_Tok2
  (e_Tok2
  (e_Tok2
  (e_Tok2
  (e_Tok2
  (e_Lok (ld_iload_9 (x_dk dn_301_0_3_ok 0 rfl)))
  (e_Lok (sm_iadd (x_dk dn_301_0_3_ok 1 rfl))))
  (e_Tok2
  (e_Lok (sm_iaload (x_dk dn_301_0_3_ok 2 rfl)))
  (e_Lok (e_st (I := eI) (er_istore (i := 11) (x_dk dn_301_0_3_ok 3 rfl) (by decide +kernel)) nx_stor))))
  (e_Tok2
  (e_Tok2
  (e_Lok (ld_aload_n_0 (x_dk dn_301_0_3_ok 4 rfl)))
  (e_Lok (lk_12_46g ho_301 (x_dk dn_301_0_3_ok 5 rfl))))
  (e_Tok2
  (e_Lok (ps_bipush_6 (x_dk dn_301_0_3_ok 6 rfl)))
  (e_Tok2
  (e_Lok (ld_iload_n_1 (x_dk dn_301_0_3_ok 7 rfl)))
  (e_Lok (sm_imul (x_dk dn_301_0_3_ok 8 rfl)))))))
  (e_Tok2
  (e_Tok2
  (e_Tok2
  (e_Lok (ld_iload_9 (x_dk dn_301_0_3_ok 9 rfl)))
  (e_Lok (sm_iadd (x_dk dn_301_0_3_ok 10 rfl))))
  (e_Tok2
  (e_Lok (sm_iaload (x_dk dn_301_0_3_ok 11 rfl)))
  (e_Tok2
  (e_Lok (ps_iconst_1 (x_dk dn_301_0_3_ok 12 rfl)))
  (e_Lok (e_st (I := eI) (er_icmpne (off := 13) (tg := 157) (x_dk dn_301_0_3_ok 13 rfl) (by decide)) nx_if2)))))
  (e_Tok2
  (e_Tok2
  (e_Lok (ld_iload_8 (x_dk dn_301_0_3_ok 14 rfl)))
  (e_Lok (ld_iload_10 (x_dk dn_301_0_3_ok 15 rfl))))
  (e_Tok2
  (e_Lok (sm_iadd (x_dk dn_301_0_3_ok 16 rfl)))
  (e_Tok2
  (e_Lok (e_st (I := eI) (er_istore (i := 8) (x_dk dn_301_0_3_ok 17 rfl) (by decide +kernel)) nx_stor))
  (e_Lok (e_st (I := eI) (er_goto (off := 10) (tg := 164) (x_dk dn_301_0_3_ok 18 rfl) (by decide)) nx_goto)))))))
  (e_Tok2
  (e_Tok2
  (e_Tok2
  (e_Tok2
  (e_Lok (ld_iload_11 (x_dk dn_301_0_3_ok 19 rfl)))
  (e_Lok (ld_iload_10 (x_dk dn_301_0_3_ok 20 rfl))))
  (e_Tok2
  (e_Lok (sm_iadd (x_dk dn_301_0_3_ok 21 rfl)))
  (e_Lok (e_st (I := eI) (er_istore (i := 11) (x_dk dn_301_0_3_ok 22 rfl) (by decide +kernel)) nx_stor))))
  (e_Tok2
  (e_Tok2
  (e_Lok (ld_lload_4 (x_dk dn_301_0_3_ok 23 rfl)))
  (e_Lok (ld_iload_11 (x_dk dn_301_0_3_ok 24 rfl))))
  (e_Tok2
  (e_Lok (e_st (I := eI) (er_i2l (x_dk dn_301_1_0_ok 0 rfl)) (nx_un (fun _ => rfl))))
  (e_Tok2
  (e_Lok (ld_aload_n_0 (x_dk dn_301_1_0_ok 1 rfl)))
  (e_Lok (ld_iload_8 (x_dk dn_301_1_0_ok 2 rfl)))))))
  (e_Tok2
  (e_Tok2
  (e_Tok2
  (e_Lok (ps_sipush_1024 (x_dk dn_301_1_0_ok 3 rfl)))
  (e_Lok (sm_iadd (x_dk dn_301_1_0_ok 4 rfl))))
  (e_Tok2
  (e_Lok (lk_12_392 ho_301 (x_dk dn_301_1_0_ok 5 rfl)))
  (e_Tok2
  (e_Lok (e_st (I := eI) (er_i2l (x_dk dn_301_1_0_ok 6 rfl)) (nx_un (fun _ => rfl))))
  (e_Lok (e_st (I := eI) (er_lmul (x_dk dn_301_1_0_ok 7 rfl)) (nx_binL bG_lmul))))))
  (e_Tok2
  (e_Tok2
  (e_Lok (e_st (I := eI) (er_ladd (x_dk dn_301_1_0_ok 8 rfl)) (nx_binL bG_ladd)))
  (e_Lok (e_st (I := eI) (er_lstore (i := 4) (x_dk dn_301_1_0_ok 9 rfl) (by decide +kernel)) nx_stor)))
  (e_Tok2
  (e_Lok (ld_lload_6 (x_dk dn_301_1_0_ok 10 rfl)))
  (e_Tok2
  (e_Lok (ld_iload_11 (x_dk dn_301_1_0_ok 11 rfl)))
  (e_Lok (e_st (I := eI) (er_i2l (x_dk dn_301_1_0_ok 12 rfl)) (nx_un (fun _ => rfl))))))))))
def te_301_113 : Nat → eE := (e_T 218 (e_T 201 (e_T 195 (e_T 190 (e_T 189 (e_L 189 (0, ei_load 0 2 190, 0, 0)) (e_L 190 (0, ei_load 8 0 192, 0, 0))) (e_T 192 (e_L 192 (2, e_nof, 300, 2)) (e_L 195 (0, ei_un (fun x => (4, x)) 196, 0, 0)))) (e_T 197 (e_T 196 (e_L 196 (0, ei_binL eG_mul 197, 0, 0)) (e_L 197 (0, ei_binL eG_add 198, 0, 0))) (e_T 198 (e_L 198 (0, ei_stor 6 1 200, 0, 0)) (e_T 200 (e_L 200 (0, ei_load 0 2 201, 0, 0)) (e_L 201 (0, ei_getf eft elay 12 55 204, 0, 0)))))) (e_T 209 (e_T 205 (e_T 204 (e_L 204 (0, ei_load 3 0 205, 0, 0)) (e_L 205 (0, ei_load 9 0 207, 0, 0))) (e_T 207 (e_L 207 (0, ei_bin eF_add 208, 0, 0)) (e_T 208 (e_L 208 (0, ei_push (0, 1) 209, 0, 0)) (e_L 209 (0, ei_bin eF_add 210, 0, 0))))) (e_T 212 (e_T 210 (e_L 210 (0, ei_load 4 1 212, 0, 0)) (e_L 212 (0, ei_push (4, 524288) 215, 0, 0))) (e_T 215 (e_L 215 (0, ei_binL eG_add 216, 0, 0)) (e_T 216 (e_L 216 (0, ei_push (0, 20) 218, 0, 0)) (e_L 218 (0, ei_shL (eSh (fun x y => x >>> (y.toInt64 &&& 63))) 219, 0, 0))))))) (e_T 230 (e_T 222 (e_T 220 (e_T 219 (e_L 219 (0, ei_unL (fun x => (0, e32 x)) 220, 0, 0)) (e_L 220 (0, ei_ast elay false 221, 0, 0))) (e_T 221 (e_L 221 (0, ei_load 0 2 222, 0, 0)) (e_L 222 (0, ei_getf eft elay 12 56 225, 0, 0)))) (e_T 226 (e_T 225 (e_L 225 (0, ei_load 3 0 226, 0, 0)) (e_L 226 (0, ei_load 9 0 228, 0, 0))) (e_T 228 (e_L 228 (0, ei_bin eF_add 229, 0, 0)) (e_T 229 (e_L 229 (0, ei_push (0, 1) 230, 0, 0)) (e_L 230 (0, ei_bin eF_add 231, 0, 0)))))) (e_T 239 (e_T 233 (e_T 231 (e_L 231 (0, ei_load 6 1 233, 0, 0)) (e_L 233 (0, ei_push (4, 524288) 236, 0, 0))) (e_T 236 (e_L 236 (0, ei_binL eG_add 237, 0, 0)) (e_T 237 (e_L 237 (0, ei_push (0, 20) 239, 0, 0)) (e_L 239 (0, ei_shL (eSh (fun x y => x >>> (y.toInt64 &&& 63))) 240, 0, 0))))) (e_T 241 (e_T 240 (e_L 240 (0, ei_unL (fun x => (0, e32 x)) 241, 0, 0)) (e_L 241 (0, ei_ast elay false 242, 0, 0))) (e_T 242 (e_L 242 (0, ei_inc 9 1 245, 0, 0)) (e_T 245 (e_L 245 (0, ei_goto 75, 0, 0)) (e_L 248 (1, e_nof, 0, 0))))))))
set_option maxRecDepth 20000 in
set_option maxHeartbeats 4000000 in
theorem te_301_113_ok : ∀ pc, e_EOq eft cls elay eI n_301 pc (te_301_113 pc) :=
  (e_Tok2
  (e_Tok2
  (e_Tok2
  (e_Tok2
  (e_Tok2
  (e_Lok (ld_aload_n_0 (x_dk dn_301_1_0_ok 13 rfl)))
  (e_Lok (ld_iload_8 (x_dk dn_301_1_0_ok 14 rfl))))
  (e_Tok2
  (e_Lok (lk_12_392 ho_301 (x_dk dn_301_1_0_ok 15 rfl)))
  (e_Lok (e_st (I := eI) (er_i2l (x_dk dn_301_1_0_ok 16 rfl)) (nx_un (fun _ => rfl))))))
  (e_Tok2
  (e_Tok2
  (e_Lok (e_st (I := eI) (er_lmul (x_dk dn_301_1_0_ok 17 rfl)) (nx_binL bG_lmul)))
  (e_Lok (e_st (I := eI) (er_ladd (x_dk dn_301_1_0_ok 18 rfl)) (nx_binL bG_ladd))))
  (e_Tok2
  (e_Lok (e_st (I := eI) (er_lstore (i := 6) (x_dk dn_301_1_0_ok 19 rfl) (by decide +kernel)) nx_stor))
  (e_Tok2
  (e_Lok (ld_aload_n_0 (x_dk dn_301_1_0_ok 20 rfl)))
  (e_Lok (lk_12_149g ho_301 (x_dk dn_301_1_0_ok 21 rfl)))))))
  (e_Tok2
  (e_Tok2
  (e_Tok2
  (e_Lok (ld_iload_n_3 (x_dk dn_301_1_0_ok 22 rfl)))
  (e_Lok (ld_iload_9 (x_dk dn_301_1_0_ok 23 rfl))))
  (e_Tok2
  (e_Lok (sm_iadd (x_dk dn_301_1_0_ok 24 rfl)))
  (e_Tok2
  (e_Lok (ps_iconst_1 (x_dk dn_301_1_1_ok 0 rfl)))
  (e_Lok (sm_iadd (x_dk dn_301_1_1_ok 1 rfl))))))
  (e_Tok2
  (e_Tok2
  (e_Lok (ld_lload_4 (x_dk dn_301_1_1_ok 2 rfl)))
  (e_Lok (e_st (I := eI) (er_ldc2 (ix := 395) (z := 524288) (v := 524288) (x_dk dn_301_1_1_ok 3 rfl) (in_t11 (List.mem_of_getElem? (i := 146) rfl) rfl) (by decide)) (nx_push (Or.inl rfl)))))
  (e_Tok2
  (e_Lok (e_st (I := eI) (er_ladd (x_dk dn_301_1_1_ok 4 rfl)) (nx_binL bG_ladd)))
  (e_Tok2
  (e_Lok (ps_bipush_20 (x_dk dn_301_1_1_ok 5 rfl)))
  (e_Lok (e_st (I := eI) (er_lshr (x_dk dn_301_1_1_ok 6 rfl)) nx_shL)))))))
  (e_Tok2
  (e_Tok2
  (e_Tok2
  (e_Tok2
  (e_Lok (e_st (I := eI) (er_l2i (x_dk dn_301_1_1_ok 7 rfl)) (nx_unL (fun _ => rfl))))
  (e_Lok (sm_iastore (x_dk dn_301_1_1_ok 8 rfl))))
  (e_Tok2
  (e_Lok (ld_aload_n_0 (x_dk dn_301_1_1_ok 9 rfl)))
  (e_Lok (lk_12_152g ho_301 (x_dk dn_301_1_1_ok 10 rfl)))))
  (e_Tok2
  (e_Tok2
  (e_Lok (ld_iload_n_3 (x_dk dn_301_1_1_ok 11 rfl)))
  (e_Lok (ld_iload_9 (x_dk dn_301_1_1_ok 12 rfl))))
  (e_Tok2
  (e_Lok (sm_iadd (x_dk dn_301_1_1_ok 13 rfl)))
  (e_Tok2
  (e_Lok (ps_iconst_1 (x_dk dn_301_1_1_ok 14 rfl)))
  (e_Lok (sm_iadd (x_dk dn_301_1_1_ok 15 rfl)))))))
  (e_Tok2
  (e_Tok2
  (e_Tok2
  (e_Lok (ld_lload_6 (x_dk dn_301_1_1_ok 16 rfl)))
  (e_Lok (e_st (I := eI) (er_ldc2 (ix := 395) (z := 524288) (v := 524288) (x_dk dn_301_1_1_ok 17 rfl) (in_t11 (List.mem_of_getElem? (i := 146) rfl) rfl) (by decide)) (nx_push (Or.inl rfl)))))
  (e_Tok2
  (e_Lok (e_st (I := eI) (er_ladd (x_dk dn_301_1_1_ok 18 rfl)) (nx_binL bG_ladd)))
  (e_Tok2
  (e_Lok (ps_bipush_20 (x_dk dn_301_1_1_ok 19 rfl)))
  (e_Lok (e_st (I := eI) (er_lshr (x_dk dn_301_1_1_ok 20 rfl)) nx_shL)))))
  (e_Tok2
  (e_Tok2
  (e_Lok (e_st (I := eI) (er_l2i (x_dk dn_301_1_1_ok 21 rfl)) (nx_unL (fun _ => rfl))))
  (e_Lok (sm_iastore (x_dk dn_301_1_1_ok 22 rfl))))
  (e_Tok2
  (e_Lok (e_st (I := eI) (er_iinc (i := 9) (n := 1) (x_dk dn_301_1_1_ok 23 rfl) (by decide +kernel) (by decide)) nx_inc))
  (e_Tok2
  (e_Lok (e_st (I := eI) (er_goto (off := (-170)) (tg := 75) (x_dk dn_301_1_1_ok 24 rfl) (by decide)) nx_goto))
  (e_Lok (e_rt (I := eI) (k := 0) ⟨(x_dk dn_301_1_2_ok 0 rfl), rfl⟩))))))))
def te_301 : Nat → eE := (e_T 124 (e_T 59 te_301_0 te_301_37) (e_T 188 te_301_75 te_301_113))
theorem te_301_ok : ∀ pc, e_EOq eft cls elay eI n_301 pc (te_301 pc) := (e_Tok2 ((e_Tok2 (te_301_0_ok) (te_301_37_ok))) ((e_Tok2 (te_301_75_ok) (te_301_113_ok))))
theorem ho_302 : (xm_y n_302).cls = "RobotCellHouseModel" := rfl
def dn_302_0_0 : List (Nat × Instr × Nat) := [(0, .iconst 0, 1), (1, .istore_n 1, 1), (2, .iload_n 1, 1), (3, .aload_n 0, 1), (4, .getfield 269, 3), (7, .if_icmp .ge 15, 3), (10, .aload_n 0, 1), (11, .iload_n 1, 1), (12, .iconst 0, 1), (13, .invokevirtual 397, 3), (16, .iinc 1 1, 3), (19, .goto (-17), 3), (22, .return_, 1)]
set_option maxRecDepth 20000 in
theorem dn_302_0_0_ok : dn_302_0_0.all (fun q => decide (decode (xm_b n_302) q.1 = .ok (q.2.1, q.2.2))) = true := xa_g_ok (by decide +kernel)
def te_302_0 : Nat → eE := (e_T 7 (e_T 2 (e_T 0 (e_L 0 (0, ei_push (0, 0) 1, 0, 0)) (e_T 1 (e_L 1 (0, ei_stor 1 0 2, 0, 0)) (e_L 2 (0, ei_load 1 0 3, 0, 0)))) (e_T 3 (e_L 3 (0, ei_load 0 2 4, 0, 0)) (e_T 4 (e_L 4 (0, ei_getf eft elay 12 10 7, 0, 0)) (e_L 7 (0, ei_if2 3 22 10, 0, 0))))) (e_T 12 (e_T 10 (e_L 10 (0, ei_load 0 2 11, 0, 0)) (e_T 11 (e_L 11 (0, ei_load 1 0 12, 0, 0)) (e_L 12 (0, ei_push (0, 0) 13, 0, 0)))) (e_T 16 (e_T 13 (e_L 13 (2, e_nof, 301, 3)) (e_L 16 (0, ei_inc 1 1 19, 0, 0))) (e_T 19 (e_L 19 (0, ei_goto 2, 0, 0)) (e_L 22 (1, e_nof, 0, 0))))))
set_option maxRecDepth 20000 in
set_option maxHeartbeats 4000000 in
theorem te_302_0_ok : ∀ pc, e_EOq eft cls elay eI n_302 pc (te_302_0 pc) :=
  (e_Tok2
  (e_Tok2
  (e_Tok2
  (e_Lok (ps_iconst_0 (x_dk dn_302_0_0_ok 0 rfl)))
  (e_Tok2
  (e_Lok (e_st (I := eI) (er_istore_n (i := 1) (x_dk dn_302_0_0_ok 1 rfl) (by decide +kernel)) nx_stor))
  (e_Lok (ld_iload_n_1 (x_dk dn_302_0_0_ok 2 rfl)))))
  (e_Tok2
  (e_Lok (ld_aload_n_0 (x_dk dn_302_0_0_ok 3 rfl)))
  (e_Tok2
  (e_Lok (lk_12_269g ho_302 (x_dk dn_302_0_0_ok 4 rfl)))
  (e_Lok (e_st (I := eI) (er_icmpge (off := 15) (tg := 22) (x_dk dn_302_0_0_ok 5 rfl) (by decide)) nx_if2)))))
  (e_Tok2
  (e_Tok2
  (e_Lok (ld_aload_n_0 (x_dk dn_302_0_0_ok 6 rfl)))
  (e_Tok2
  (e_Lok (ld_iload_n_1 (x_dk dn_302_0_0_ok 7 rfl)))
  (e_Lok (ps_iconst_0 (x_dk dn_302_0_0_ok 8 rfl)))))
  (e_Tok2
  (e_Tok2
  (e_Lok (lk_12_397 ho_302 (x_dk dn_302_0_0_ok 9 rfl)))
  (e_Lok (e_st (I := eI) (er_iinc (i := 1) (n := 1) (x_dk dn_302_0_0_ok 10 rfl) (by decide +kernel) (by decide)) nx_inc)))
  (e_Tok2
  (e_Lok (e_st (I := eI) (er_goto (off := (-17)) (tg := 2) (x_dk dn_302_0_0_ok 11 rfl) (by decide)) nx_goto))
  (e_Lok (e_rt (I := eI) (k := 0) ⟨(x_dk dn_302_0_0_ok 12 rfl), rfl⟩))))))
def te_302 : Nat → eE := te_302_0
theorem te_302_ok : ∀ pc, e_EOq eft cls elay eI n_302 pc (te_302 pc) := te_302_0_ok
theorem ho_303 : (xm_y n_303).cls = "RobotCellHouseModel" := rfl
def dn_303_0_0 : List (Nat × Instr × Nat) := [(0, .aload_n 0, 1), (1, .invokevirtual 401, 3), (4, .iconst 0, 1), (5, .istore_n 1, 1), (6, .iload_n 1, 1), (7, .aload_n 0, 1), (8, .getfield 269, 3), (11, .if_icmp .ge 85, 3), (14, .iconst 0, 1), (15, .istore_n 2, 1), (16, .iload_n 2, 1), (17, .aload_n 0, 1), (18, .getfield 43, 3), (21, .iload_n 1, 1), (22, .iaload, 1), (23, .if_icmp .gt 67, 3), (26, .aload_n 0, 1), (27, .getfield 8, 3), (30, .sipush 20876, 3), (33, .bipush 14, 2), (35, .iload_n 1, 1), (36, .imul, 1), (37, .iadd, 1), (38, .iconst 2, 1), (39, .iload_n 2, 1)]
set_option maxRecDepth 20000 in
theorem dn_303_0_0_ok : dn_303_0_0.all (fun q => decide (decode (xm_b n_303) q.1 = .ok (q.2.1, q.2.2))) = true := xa_g_ok (by decide +kernel)
def dn_303_0_1 : List (Nat × Instr × Nat) := [(40, .imul, 1), (41, .iadd, 1), (42, .aload_n 0, 1), (43, .getfield 149, 3), (46, .bipush 7, 2), (48, .iload_n 1, 1), (49, .imul, 1), (50, .iload_n 2, 1), (51, .iadd, 1), (52, .iaload, 1), (53, .iastore, 1), (54, .aload_n 0, 1), (55, .getfield 8, 3), (58, .sipush 20876, 3), (61, .bipush 14, 2), (63, .iload_n 1, 1), (64, .imul, 1), (65, .iadd, 1), (66, .iconst 2, 1), (67, .iload_n 2, 1), (68, .imul, 1), (69, .iadd, 1), (70, .iconst 1, 1), (71, .iadd, 1), (72, .aload_n 0, 1)]
set_option maxRecDepth 20000 in
theorem dn_303_0_1_ok : dn_303_0_1.all (fun q => decide (decode (xm_b n_303) q.1 = .ok (q.2.1, q.2.2))) = true := xa_g_ok (by decide +kernel)
def dn_303_0_2 : List (Nat × Instr × Nat) := [(73, .getfield 152, 3), (76, .bipush 7, 2), (78, .iload_n 1, 1), (79, .imul, 1), (80, .iload_n 2, 1), (81, .iadd, 1), (82, .iaload, 1), (83, .iastore, 1), (84, .iinc 2 1, 3), (87, .goto (-71), 3), (90, .iinc 1 1, 3), (93, .goto (-87), 3), (96, .return_, 1)]
set_option maxRecDepth 20000 in
theorem dn_303_0_2_ok : dn_303_0_2.all (fun q => decide (decode (xm_b n_303) q.1 = .ok (q.2.1, q.2.2))) = true := xa_g_ok (by decide +kernel)
def te_303_0 : Nat → eE := (e_T 22 (e_T 8 (e_T 4 (e_T 0 (e_L 0 (0, ei_load 0 2 1, 0, 0)) (e_T 1 (e_L 1 (2, e_nof, 302, 1)) (e_L 4 (0, ei_push (0, 0) 5, 0, 0)))) (e_T 6 (e_T 5 (e_L 5 (0, ei_stor 1 0 6, 0, 0)) (e_L 6 (0, ei_load 1 0 7, 0, 0))) (e_T 7 (e_L 7 (0, ei_load 0 2 8, 0, 0)) (e_L 8 (0, ei_getf eft elay 12 10 11, 0, 0))))) (e_T 16 (e_T 14 (e_T 11 (e_L 11 (0, ei_if2 3 96 14, 0, 0)) (e_L 14 (0, ei_push (0, 0) 15, 0, 0))) (e_T 15 (e_L 15 (0, ei_stor 2 0 16, 0, 0)) (e_L 16 (0, ei_load 2 0 17, 0, 0)))) (e_T 18 (e_T 17 (e_L 17 (0, ei_load 0 2 18, 0, 0)) (e_L 18 (0, ei_getf eft elay 12 15 21, 0, 0))) (e_T 21 (e_L 21 (0, ei_load 1 0 22, 0, 0)) (e_L 22 (0, ei_ald elay false 23, 0, 0)))))) (e_T 37 (e_T 30 (e_T 26 (e_T 23 (e_L 23 (0, ei_if2 4 90 26, 0, 0)) (e_L 26 (0, ei_load 0 2 27, 0, 0))) (e_T 27 (e_L 27 (0, ei_getf eft elay 12 0 30, 0, 0)) (e_L 30 (0, ei_push (0, 20876) 33, 0, 0)))) (e_T 35 (e_T 33 (e_L 33 (0, ei_push (0, 14) 35, 0, 0)) (e_L 35 (0, ei_load 1 0 36, 0, 0))) (e_T 36 (e_L 36 (0, ei_bin eF_mul 37, 0, 0)) (e_L 37 (0, ei_bin eF_add 38, 0, 0))))) (e_T 41 (e_T 39 (e_T 38 (e_L 38 (0, ei_push (0, 2) 39, 0, 0)) (e_L 39 (0, ei_load 2 0 40, 0, 0))) (e_T 40 (e_L 40 (0, ei_bin eF_mul 41, 0, 0)) (e_L 41 (0, ei_bin eF_add 42, 0, 0)))) (e_T 43 (e_T 42 (e_L 42 (0, ei_load 0 2 43, 0, 0)) (e_L 43 (0, ei_getf eft elay 12 55 46, 0, 0))) (e_T 46 (e_L 46 (0, ei_push (0, 7) 48, 0, 0)) (e_L 48 (0, ei_load 1 0 49, 0, 0)))))))
set_option maxRecDepth 20000 in
set_option maxHeartbeats 4000000 in
theorem te_303_0_ok : ∀ pc, e_EOq eft cls elay eI n_303 pc (te_303_0 pc) :=
  (e_Tok2
  (e_Tok2
  (e_Tok2
  (e_Tok2
  (e_Lok (ld_aload_n_0 (x_dk dn_303_0_0_ok 0 rfl)))
  (e_Tok2
  (e_Lok (lk_12_401 ho_303 (x_dk dn_303_0_0_ok 1 rfl)))
  (e_Lok (ps_iconst_0 (x_dk dn_303_0_0_ok 2 rfl)))))
  (e_Tok2
  (e_Tok2
  (e_Lok (e_st (I := eI) (er_istore_n (i := 1) (x_dk dn_303_0_0_ok 3 rfl) (by decide +kernel)) nx_stor))
  (e_Lok (ld_iload_n_1 (x_dk dn_303_0_0_ok 4 rfl))))
  (e_Tok2
  (e_Lok (ld_aload_n_0 (x_dk dn_303_0_0_ok 5 rfl)))
  (e_Lok (lk_12_269g ho_303 (x_dk dn_303_0_0_ok 6 rfl))))))
  (e_Tok2
  (e_Tok2
  (e_Tok2
  (e_Lok (e_st (I := eI) (er_icmpge (off := 85) (tg := 96) (x_dk dn_303_0_0_ok 7 rfl) (by decide)) nx_if2))
  (e_Lok (ps_iconst_0 (x_dk dn_303_0_0_ok 8 rfl))))
  (e_Tok2
  (e_Lok (e_st (I := eI) (er_istore_n (i := 2) (x_dk dn_303_0_0_ok 9 rfl) (by decide +kernel)) nx_stor))
  (e_Lok (ld_iload_n_2 (x_dk dn_303_0_0_ok 10 rfl)))))
  (e_Tok2
  (e_Tok2
  (e_Lok (ld_aload_n_0 (x_dk dn_303_0_0_ok 11 rfl)))
  (e_Lok (lk_12_43g ho_303 (x_dk dn_303_0_0_ok 12 rfl))))
  (e_Tok2
  (e_Lok (ld_iload_n_1 (x_dk dn_303_0_0_ok 13 rfl)))
  (e_Lok (sm_iaload (x_dk dn_303_0_0_ok 14 rfl)))))))
  (e_Tok2
  (e_Tok2
  (e_Tok2
  (e_Tok2
  (e_Lok (e_st (I := eI) (er_icmpgt (off := 67) (tg := 90) (x_dk dn_303_0_0_ok 15 rfl) (by decide)) nx_if2))
  (e_Lok (ld_aload_n_0 (x_dk dn_303_0_0_ok 16 rfl))))
  (e_Tok2
  (e_Lok (lk_12_8g ho_303 (x_dk dn_303_0_0_ok 17 rfl)))
  (e_Lok (ps_sipush_20876 (x_dk dn_303_0_0_ok 18 rfl)))))
  (e_Tok2
  (e_Tok2
  (e_Lok (ps_bipush_14 (x_dk dn_303_0_0_ok 19 rfl)))
  (e_Lok (ld_iload_n_1 (x_dk dn_303_0_0_ok 20 rfl))))
  (e_Tok2
  (e_Lok (sm_imul (x_dk dn_303_0_0_ok 21 rfl)))
  (e_Lok (sm_iadd (x_dk dn_303_0_0_ok 22 rfl))))))
  (e_Tok2
  (e_Tok2
  (e_Tok2
  (e_Lok (ps_iconst_2 (x_dk dn_303_0_0_ok 23 rfl)))
  (e_Lok (ld_iload_n_2 (x_dk dn_303_0_0_ok 24 rfl))))
  (e_Tok2
  (e_Lok (sm_imul (x_dk dn_303_0_1_ok 0 rfl)))
  (e_Lok (sm_iadd (x_dk dn_303_0_1_ok 1 rfl)))))
  (e_Tok2
  (e_Tok2
  (e_Lok (ld_aload_n_0 (x_dk dn_303_0_1_ok 2 rfl)))
  (e_Lok (lk_12_149g ho_303 (x_dk dn_303_0_1_ok 3 rfl))))
  (e_Tok2
  (e_Lok (ps_bipush_7 (x_dk dn_303_0_1_ok 4 rfl)))
  (e_Lok (ld_iload_n_1 (x_dk dn_303_0_1_ok 5 rfl))))))))
def te_303_31 : Nat → eE := (e_T 69 (e_T 58 (e_T 52 (e_T 50 (e_T 49 (e_L 49 (0, ei_bin eF_mul 50, 0, 0)) (e_L 50 (0, ei_load 2 0 51, 0, 0))) (e_T 51 (e_L 51 (0, ei_bin eF_add 52, 0, 0)) (e_L 52 (0, ei_ald elay false 53, 0, 0)))) (e_T 54 (e_T 53 (e_L 53 (0, ei_ast elay false 54, 0, 0)) (e_L 54 (0, ei_load 0 2 55, 0, 0))) (e_T 55 (e_L 55 (0, ei_getf eft elay 12 0 58, 0, 0)) (e_L 58 (0, ei_push (0, 20876) 61, 0, 0))))) (e_T 65 (e_T 63 (e_T 61 (e_L 61 (0, ei_push (0, 14) 63, 0, 0)) (e_L 63 (0, ei_load 1 0 64, 0, 0))) (e_T 64 (e_L 64 (0, ei_bin eF_mul 65, 0, 0)) (e_L 65 (0, ei_bin eF_add 66, 0, 0)))) (e_T 67 (e_T 66 (e_L 66 (0, ei_push (0, 2) 67, 0, 0)) (e_L 67 (0, ei_load 2 0 68, 0, 0))) (e_T 68 (e_L 68 (0, ei_bin eF_mul 69, 0, 0)) (e_L 69 (0, ei_bin eF_add 70, 0, 0)))))) (e_T 80 (e_T 73 (e_T 71 (e_T 70 (e_L 70 (0, ei_push (0, 1) 71, 0, 0)) (e_L 71 (0, ei_bin eF_add 72, 0, 0))) (e_T 72 (e_L 72 (0, ei_load 0 2 73, 0, 0)) (e_L 73 (0, ei_getf eft elay 12 56 76, 0, 0)))) (e_T 78 (e_T 76 (e_L 76 (0, ei_push (0, 7) 78, 0, 0)) (e_L 78 (0, ei_load 1 0 79, 0, 0))) (e_T 79 (e_L 79 (0, ei_bin eF_mul 80, 0, 0)) (e_L 80 (0, ei_load 2 0 81, 0, 0))))) (e_T 84 (e_T 82 (e_T 81 (e_L 81 (0, ei_bin eF_add 82, 0, 0)) (e_L 82 (0, ei_ald elay false 83, 0, 0))) (e_T 83 (e_L 83 (0, ei_ast elay false 84, 0, 0)) (e_L 84 (0, ei_inc 2 1 87, 0, 0)))) (e_T 90 (e_T 87 (e_L 87 (0, ei_goto 16, 0, 0)) (e_L 90 (0, ei_inc 1 1 93, 0, 0))) (e_T 93 (e_L 93 (0, ei_goto 6, 0, 0)) (e_L 96 (1, e_nof, 0, 0)))))))
set_option maxRecDepth 20000 in
set_option maxHeartbeats 4000000 in
theorem te_303_31_ok : ∀ pc, e_EOq eft cls elay eI n_303 pc (te_303_31 pc) :=
  (e_Tok2
  (e_Tok2
  (e_Tok2
  (e_Tok2
  (e_Tok2
  (e_Lok (sm_imul (x_dk dn_303_0_1_ok 6 rfl)))
  (e_Lok (ld_iload_n_2 (x_dk dn_303_0_1_ok 7 rfl))))
  (e_Tok2
  (e_Lok (sm_iadd (x_dk dn_303_0_1_ok 8 rfl)))
  (e_Lok (sm_iaload (x_dk dn_303_0_1_ok 9 rfl)))))
  (e_Tok2
  (e_Tok2
  (e_Lok (sm_iastore (x_dk dn_303_0_1_ok 10 rfl)))
  (e_Lok (ld_aload_n_0 (x_dk dn_303_0_1_ok 11 rfl))))
  (e_Tok2
  (e_Lok (lk_12_8g ho_303 (x_dk dn_303_0_1_ok 12 rfl)))
  (e_Lok (ps_sipush_20876 (x_dk dn_303_0_1_ok 13 rfl))))))
  (e_Tok2
  (e_Tok2
  (e_Tok2
  (e_Lok (ps_bipush_14 (x_dk dn_303_0_1_ok 14 rfl)))
  (e_Lok (ld_iload_n_1 (x_dk dn_303_0_1_ok 15 rfl))))
  (e_Tok2
  (e_Lok (sm_imul (x_dk dn_303_0_1_ok 16 rfl)))
  (e_Lok (sm_iadd (x_dk dn_303_0_1_ok 17 rfl)))))
  (e_Tok2
  (e_Tok2
  (e_Lok (ps_iconst_2 (x_dk dn_303_0_1_ok 18 rfl)))
  (e_Lok (ld_iload_n_2 (x_dk dn_303_0_1_ok 19 rfl))))
  (e_Tok2
  (e_Lok (sm_imul (x_dk dn_303_0_1_ok 20 rfl)))
  (e_Lok (sm_iadd (x_dk dn_303_0_1_ok 21 rfl)))))))
  (e_Tok2
  (e_Tok2
  (e_Tok2
  (e_Tok2
  (e_Lok (ps_iconst_1 (x_dk dn_303_0_1_ok 22 rfl)))
  (e_Lok (sm_iadd (x_dk dn_303_0_1_ok 23 rfl))))
  (e_Tok2
  (e_Lok (ld_aload_n_0 (x_dk dn_303_0_1_ok 24 rfl)))
  (e_Lok (lk_12_152g ho_303 (x_dk dn_303_0_2_ok 0 rfl)))))
  (e_Tok2
  (e_Tok2
  (e_Lok (ps_bipush_7 (x_dk dn_303_0_2_ok 1 rfl)))
  (e_Lok (ld_iload_n_1 (x_dk dn_303_0_2_ok 2 rfl))))
  (e_Tok2
  (e_Lok (sm_imul (x_dk dn_303_0_2_ok 3 rfl)))
  (e_Lok (ld_iload_n_2 (x_dk dn_303_0_2_ok 4 rfl))))))
  (e_Tok2
  (e_Tok2
  (e_Tok2
  (e_Lok (sm_iadd (x_dk dn_303_0_2_ok 5 rfl)))
  (e_Lok (sm_iaload (x_dk dn_303_0_2_ok 6 rfl))))
  (e_Tok2
  (e_Lok (sm_iastore (x_dk dn_303_0_2_ok 7 rfl)))
  (e_Lok (e_st (I := eI) (er_iinc (i := 2) (n := 1) (x_dk dn_303_0_2_ok 8 rfl) (by decide +kernel) (by decide)) nx_inc))))
  (e_Tok2
  (e_Tok2
  (e_Lok (e_st (I := eI) (er_goto (off := (-71)) (tg := 16) (x_dk dn_303_0_2_ok 9 rfl) (by decide)) nx_goto))
  (e_Lok (e_st (I := eI) (er_iinc (i := 1) (n := 1) (x_dk dn_303_0_2_ok 10 rfl) (by decide +kernel) (by decide)) nx_inc)))
  (e_Tok2
  (e_Lok (e_st (I := eI) (er_goto (off := (-87)) (tg := 6) (x_dk dn_303_0_2_ok 11 rfl) (by decide)) nx_goto))
  (e_Lok (e_rt (I := eI) (k := 0) ⟨(x_dk dn_303_0_2_ok 12 rfl), rfl⟩)))))))
def te_303 : Nat → eE := (e_T 48 te_303_0 te_303_31)
theorem te_303_ok : ∀ pc, e_EOq eft cls elay eI n_303 pc (te_303 pc) := (e_Tok2 (te_303_0_ok) (te_303_31_ok))
end
end
-- part 41av
section
noncomputable section
theorem ho_304 : (xm_y n_304).cls = "RobotCellHouseModel" := rfl
def dn_304_0_0 : List (Nat × Instr × Nat) := [(0, .aload_n 0, 1), (1, .getfield 43, 3), (4, .iload_n 1, 1), (5, .iaload, 1), (6, .aload_n 0, 1), (7, .getfield 8, 3), (10, .iload_n 1, 1), (11, .invokestatic 294, 3), (14, .iconst 1, 1), (15, .iadd, 1), (16, .iaload, 1), (17, .ifCond .lt 7, 3), (20, .iconst 1, 1), (21, .goto 4, 3), (24, .iconst 0, 1), (25, .iadd, 1), (26, .ireturn, 1)]
set_option maxRecDepth 20000 in
theorem dn_304_0_0_ok : dn_304_0_0.all (fun q => decide (decode (xm_b n_304) q.1 = .ok (q.2.1, q.2.2))) = true := xa_g_ok (by decide +kernel)
def te_304_0 : Nat → eE := (e_T 11 (e_T 5 (e_T 1 (e_T 0 (e_L 0 (0, ei_load 0 2 1, 0, 0)) (e_L 1 (0, ei_getf eft elay 12 15 4, 0, 0))) (e_T 4 (e_L 4 (0, ei_load 1 0 5, 0, 0)) (e_L 5 (0, ei_ald elay false 6, 0, 0)))) (e_T 7 (e_T 6 (e_L 6 (0, ei_load 0 2 7, 0, 0)) (e_L 7 (0, ei_getf eft elay 12 0 10, 0, 0))) (e_T 10 (e_L 10 (0, ei_load 1 0 11, 0, 0)) (e_L 11 (2, e_nof, 268, 1))))) (e_T 17 (e_T 15 (e_T 14 (e_L 14 (0, ei_push (0, 1) 15, 0, 0)) (e_L 15 (0, ei_bin eF_add 16, 0, 0))) (e_T 16 (e_L 16 (0, ei_ald elay false 17, 0, 0)) (e_L 17 (0, ei_if1 2 24 20, 0, 0)))) (e_T 21 (e_T 20 (e_L 20 (0, ei_push (0, 1) 21, 0, 0)) (e_L 21 (0, ei_goto 25, 0, 0))) (e_T 24 (e_L 24 (0, ei_push (0, 0) 25, 0, 0)) (e_T 25 (e_L 25 (0, ei_bin eF_add 26, 0, 0)) (e_L 26 (1, e_nof, 1, 0)))))))
set_option maxRecDepth 20000 in
set_option maxHeartbeats 4000000 in
theorem te_304_0_ok : ∀ pc, e_EOq eft cls elay eI n_304 pc (te_304_0 pc) :=
  (e_Tok2
  (e_Tok2
  (e_Tok2
  (e_Tok2
  (e_Lok (ld_aload_n_0 (x_dk dn_304_0_0_ok 0 rfl)))
  (e_Lok (lk_12_43g ho_304 (x_dk dn_304_0_0_ok 1 rfl))))
  (e_Tok2
  (e_Lok (ld_iload_n_1 (x_dk dn_304_0_0_ok 2 rfl)))
  (e_Lok (sm_iaload (x_dk dn_304_0_0_ok 3 rfl)))))
  (e_Tok2
  (e_Tok2
  (e_Lok (ld_aload_n_0 (x_dk dn_304_0_0_ok 4 rfl)))
  (e_Lok (lk_12_8g ho_304 (x_dk dn_304_0_0_ok 5 rfl))))
  (e_Tok2
  (e_Lok (ld_iload_n_1 (x_dk dn_304_0_0_ok 6 rfl)))
  (e_Lok (lk_12_294 ho_304 (x_dk dn_304_0_0_ok 7 rfl))))))
  (e_Tok2
  (e_Tok2
  (e_Tok2
  (e_Lok (ps_iconst_1 (x_dk dn_304_0_0_ok 8 rfl)))
  (e_Lok (sm_iadd (x_dk dn_304_0_0_ok 9 rfl))))
  (e_Tok2
  (e_Lok (sm_iaload (x_dk dn_304_0_0_ok 10 rfl)))
  (e_Lok (e_st (I := eI) (er_iflt (off := 7) (tg := 24) (x_dk dn_304_0_0_ok 11 rfl) (by decide)) nx_if1))))
  (e_Tok2
  (e_Tok2
  (e_Lok (ps_iconst_1 (x_dk dn_304_0_0_ok 12 rfl)))
  (e_Lok (e_st (I := eI) (er_goto (off := 4) (tg := 25) (x_dk dn_304_0_0_ok 13 rfl) (by decide)) nx_goto)))
  (e_Tok2
  (e_Lok (ps_iconst_0 (x_dk dn_304_0_0_ok 14 rfl)))
  (e_Tok2
  (e_Lok (sm_iadd (x_dk dn_304_0_0_ok 15 rfl)))
  (e_Lok (e_rt (I := eI) (k := 1) ⟨(x_dk dn_304_0_0_ok 16 rfl), rfl⟩)))))))
def te_304 : Nat → eE := te_304_0
theorem te_304_ok : ∀ pc, e_EOq eft cls elay eI n_304 pc (te_304 pc) := te_304_0_ok
theorem ho_305 : (xm_y n_305).cls = "RobotCellHouseModel" := rfl
def dn_305_0_0 : List (Nat × Instr × Nat) := [(0, .iload_n 2, 1), (1, .aload_n 0, 1), (2, .getfield 43, 3), (5, .iload_n 1, 1), (6, .iaload, 1), (7, .if_icmp .ne 7, 3), (10, .iconst 1, 1), (11, .goto 4, 3), (14, .iconst 0, 1), (15, .istore 4, 2), (17, .aload_n 0, 1), (18, .iload_n 3, 1), (19, .iload_n 2, 1), (20, .iadd, 1), (21, .putfield 404, 3), (24, .aload_n 0, 1), (25, .iload 4, 2), (27, .ifCond .eq 9, 3), (30, .iload_n 3, 1), (31, .iload_n 2, 1), (32, .iadd, 1), (33, .goto 8, 3), (36, .iload_n 3, 1), (37, .iload_n 2, 1), (38, .iadd, 1)]
set_option maxRecDepth 20000 in
theorem dn_305_0_0_ok : dn_305_0_0.all (fun q => decide (decode (xm_b n_305) q.1 = .ok (q.2.1, q.2.2))) = true := xa_g_ok (by decide +kernel)
def dn_305_0_1 : List (Nat × Instr × Nat) := [(39, .iconst 1, 1), (40, .iadd, 1), (41, .putfield 407, 3), (44, .aload_n 0, 1), (45, .iload 4, 2), (47, .ifCond .eq 22, 3), (50, .aload_n 0, 1), (51, .getfield 113, 3), (54, .aload_n 0, 1), (55, .getfield 8, 3), (58, .iload_n 1, 1), (59, .invokestatic 294, 3), (62, .iconst 1, 1), (63, .iadd, 1), (64, .iaload, 1), (65, .iaload, 1), (66, .goto 14, 3), (69, .aload_n 0, 1), (70, .getfield 64, 3), (73, .bipush 6, 2), (75, .iload_n 1, 1), (76, .imul, 1), (77, .iload_n 2, 1), (78, .iadd, 1), (79, .iaload, 1)]
set_option maxRecDepth 20000 in
theorem dn_305_0_1_ok : dn_305_0_1.all (fun q => decide (decode (xm_b n_305) q.1 = .ok (q.2.1, q.2.2))) = true := xa_g_ok (by decide +kernel)
def dn_305_0_2 : List (Nat × Instr × Nat) := [(80, .putfield 410, 3), (83, .return_, 1)]
set_option maxRecDepth 20000 in
theorem dn_305_0_2_ok : dn_305_0_2.all (fun q => decide (decode (xm_b n_305) q.1 = .ok (q.2.1, q.2.2))) = true := xa_g_ok (by decide +kernel)
def te_305_0 : Nat → eE := (e_T 19 (e_T 7 (e_T 2 (e_T 0 (e_L 0 (0, ei_load 2 0 1, 0, 0)) (e_T 1 (e_L 1 (0, ei_load 0 2 2, 0, 0)) (e_L 2 (0, ei_getf eft elay 12 15 5, 0, 0)))) (e_T 5 (e_L 5 (0, ei_load 1 0 6, 0, 0)) (e_T 6 (e_L 6 (0, ei_ald elay false 7, 0, 0)) (e_L 7 (0, ei_if2 1 14 10, 0, 0))))) (e_T 14 (e_T 10 (e_L 10 (0, ei_push (0, 1) 11, 0, 0)) (e_T 11 (e_L 11 (0, ei_goto 15, 0, 0)) (e_L 14 (0, ei_push (0, 0) 15, 0, 0)))) (e_T 17 (e_T 15 (e_L 15 (0, ei_stor 4 0 17, 0, 0)) (e_L 17 (0, ei_load 0 2 18, 0, 0))) (e_T 18 (e_L 18 (0, ei_load 3 0 19, 0, 0)) (e_L 19 (0, ei_load 2 0 20, 0, 0)))))) (e_T 30 (e_T 24 (e_T 20 (e_L 20 (0, ei_bin eF_add 21, 0, 0)) (e_T 21 (e_L 21 (0, ei_putf eft elay 12 58 0 24, 0, 0)) (e_L 24 (0, ei_load 0 2 25, 0, 0)))) (e_T 25 (e_L 25 (0, ei_load 4 0 27, 0, 0)) (e_T 27 (e_L 27 (0, ei_if1 0 36 30, 0, 0)) (e_L 30 (0, ei_load 3 0 31, 0, 0))))) (e_T 33 (e_T 31 (e_L 31 (0, ei_load 2 0 32, 0, 0)) (e_T 32 (e_L 32 (0, ei_bin eF_add 33, 0, 0)) (e_L 33 (0, ei_goto 41, 0, 0)))) (e_T 37 (e_T 36 (e_L 36 (0, ei_load 3 0 37, 0, 0)) (e_L 37 (0, ei_load 2 0 38, 0, 0))) (e_T 38 (e_L 38 (0, ei_bin eF_add 39, 0, 0)) (e_L 39 (0, ei_push (0, 1) 40, 0, 0)))))))
set_option maxRecDepth 20000 in
set_option maxHeartbeats 4000000 in
theorem te_305_0_ok : ∀ pc, e_EOq eft cls elay eI n_305 pc (te_305_0 pc) :=
  (e_Tok2
  (e_Tok2
  (e_Tok2
  (e_Tok2
  (e_Lok (ld_iload_n_2 (x_dk dn_305_0_0_ok 0 rfl)))
  (e_Tok2
  (e_Lok (ld_aload_n_0 (x_dk dn_305_0_0_ok 1 rfl)))
  (e_Lok (lk_12_43g ho_305 (x_dk dn_305_0_0_ok 2 rfl)))))
  (e_Tok2
  (e_Lok (ld_iload_n_1 (x_dk dn_305_0_0_ok 3 rfl)))
  (e_Tok2
  (e_Lok (sm_iaload (x_dk dn_305_0_0_ok 4 rfl)))
  (e_Lok (e_st (I := eI) (er_icmpne (off := 7) (tg := 14) (x_dk dn_305_0_0_ok 5 rfl) (by decide)) nx_if2)))))
  (e_Tok2
  (e_Tok2
  (e_Lok (ps_iconst_1 (x_dk dn_305_0_0_ok 6 rfl)))
  (e_Tok2
  (e_Lok (e_st (I := eI) (er_goto (off := 4) (tg := 15) (x_dk dn_305_0_0_ok 7 rfl) (by decide)) nx_goto))
  (e_Lok (ps_iconst_0 (x_dk dn_305_0_0_ok 8 rfl)))))
  (e_Tok2
  (e_Tok2
  (e_Lok (e_st (I := eI) (er_istore (i := 4) (x_dk dn_305_0_0_ok 9 rfl) (by decide +kernel)) nx_stor))
  (e_Lok (ld_aload_n_0 (x_dk dn_305_0_0_ok 10 rfl))))
  (e_Tok2
  (e_Lok (ld_iload_n_3 (x_dk dn_305_0_0_ok 11 rfl)))
  (e_Lok (ld_iload_n_2 (x_dk dn_305_0_0_ok 12 rfl)))))))
  (e_Tok2
  (e_Tok2
  (e_Tok2
  (e_Lok (sm_iadd (x_dk dn_305_0_0_ok 13 rfl)))
  (e_Tok2
  (e_Lok (lk_12_404p ho_305 (x_dk dn_305_0_0_ok 14 rfl)))
  (e_Lok (ld_aload_n_0 (x_dk dn_305_0_0_ok 15 rfl)))))
  (e_Tok2
  (e_Lok (ld_iload_4 (x_dk dn_305_0_0_ok 16 rfl)))
  (e_Tok2
  (e_Lok (e_st (I := eI) (er_ifeq (off := 9) (tg := 36) (x_dk dn_305_0_0_ok 17 rfl) (by decide)) nx_if1))
  (e_Lok (ld_iload_n_3 (x_dk dn_305_0_0_ok 18 rfl))))))
  (e_Tok2
  (e_Tok2
  (e_Lok (ld_iload_n_2 (x_dk dn_305_0_0_ok 19 rfl)))
  (e_Tok2
  (e_Lok (sm_iadd (x_dk dn_305_0_0_ok 20 rfl)))
  (e_Lok (e_st (I := eI) (er_goto (off := 8) (tg := 41) (x_dk dn_305_0_0_ok 21 rfl) (by decide)) nx_goto))))
  (e_Tok2
  (e_Tok2
  (e_Lok (ld_iload_n_3 (x_dk dn_305_0_0_ok 22 rfl)))
  (e_Lok (ld_iload_n_2 (x_dk dn_305_0_0_ok 23 rfl))))
  (e_Tok2
  (e_Lok (sm_iadd (x_dk dn_305_0_0_ok 24 rfl)))
  (e_Lok (ps_iconst_1 (x_dk dn_305_0_1_ok 0 rfl))))))))
def te_305_26 : Nat → eE := (e_T 63 (e_T 50 (e_T 44 (e_T 40 (e_L 40 (0, ei_bin eF_add 41, 0, 0)) (e_T 41 (e_L 41 (0, ei_putf eft elay 12 59 0 44, 0, 0)) (e_L 44 (0, ei_load 0 2 45, 0, 0)))) (e_T 45 (e_L 45 (0, ei_load 4 0 47, 0, 0)) (e_T 47 (e_L 47 (0, ei_if1 0 69 50, 0, 0)) (e_L 50 (0, ei_load 0 2 51, 0, 0))))) (e_T 55 (e_T 51 (e_L 51 (0, ei_getf eft elay 12 41 54, 0, 0)) (e_T 54 (e_L 54 (0, ei_load 0 2 55, 0, 0)) (e_L 55 (0, ei_getf eft elay 12 0 58, 0, 0)))) (e_T 59 (e_T 58 (e_L 58 (0, ei_load 1 0 59, 0, 0)) (e_L 59 (2, e_nof, 268, 1))) (e_T 62 (e_L 62 (0, ei_push (0, 1) 63, 0, 0)) (e_L 63 (0, ei_bin eF_add 64, 0, 0)))))) (e_T 73 (e_T 66 (e_T 64 (e_L 64 (0, ei_ald elay false 65, 0, 0)) (e_T 65 (e_L 65 (0, ei_ald elay false 66, 0, 0)) (e_L 66 (0, ei_goto 80, 0, 0)))) (e_T 69 (e_L 69 (0, ei_load 0 2 70, 0, 0)) (e_T 70 (e_L 70 (0, ei_getf eft elay 12 22 73, 0, 0)) (e_L 73 (0, ei_push (0, 6) 75, 0, 0))))) (e_T 77 (e_T 75 (e_L 75 (0, ei_load 1 0 76, 0, 0)) (e_T 76 (e_L 76 (0, ei_bin eF_mul 77, 0, 0)) (e_L 77 (0, ei_load 2 0 78, 0, 0)))) (e_T 79 (e_T 78 (e_L 78 (0, ei_bin eF_add 79, 0, 0)) (e_L 79 (0, ei_ald elay false 80, 0, 0))) (e_T 80 (e_L 80 (0, ei_putf eft elay 12 60 0 83, 0, 0)) (e_L 83 (1, e_nof, 0, 0)))))))
set_option maxRecDepth 20000 in
set_option maxHeartbeats 4000000 in
theorem te_305_26_ok : ∀ pc, e_EOq eft cls elay eI n_305 pc (te_305_26 pc) :=
  (e_Tok2
  (e_Tok2
  (e_Tok2
  (e_Tok2
  (e_Lok (sm_iadd (x_dk dn_305_0_1_ok 1 rfl)))
  (e_Tok2
  (e_Lok (lk_12_407p ho_305 (x_dk dn_305_0_1_ok 2 rfl)))
  (e_Lok (ld_aload_n_0 (x_dk dn_305_0_1_ok 3 rfl)))))
  (e_Tok2
  (e_Lok (ld_iload_4 (x_dk dn_305_0_1_ok 4 rfl)))
  (e_Tok2
  (e_Lok (e_st (I := eI) (er_ifeq (off := 22) (tg := 69) (x_dk dn_305_0_1_ok 5 rfl) (by decide)) nx_if1))
  (e_Lok (ld_aload_n_0 (x_dk dn_305_0_1_ok 6 rfl))))))
  (e_Tok2
  (e_Tok2
  (e_Lok (lk_12_113g ho_305 (x_dk dn_305_0_1_ok 7 rfl)))
  (e_Tok2
  (e_Lok (ld_aload_n_0 (x_dk dn_305_0_1_ok 8 rfl)))
  (e_Lok (lk_12_8g ho_305 (x_dk dn_305_0_1_ok 9 rfl)))))
  (e_Tok2
  (e_Tok2
  (e_Lok (ld_iload_n_1 (x_dk dn_305_0_1_ok 10 rfl)))
  (e_Lok (lk_12_294 ho_305 (x_dk dn_305_0_1_ok 11 rfl))))
  (e_Tok2
  (e_Lok (ps_iconst_1 (x_dk dn_305_0_1_ok 12 rfl)))
  (e_Lok (sm_iadd (x_dk dn_305_0_1_ok 13 rfl)))))))
  (e_Tok2
  (e_Tok2
  (e_Tok2
  (e_Lok (sm_iaload (x_dk dn_305_0_1_ok 14 rfl)))
  (e_Tok2
  (e_Lok (sm_iaload (x_dk dn_305_0_1_ok 15 rfl)))
  (e_Lok (e_st (I := eI) (er_goto (off := 14) (tg := 80) (x_dk dn_305_0_1_ok 16 rfl) (by decide)) nx_goto))))
  (e_Tok2
  (e_Lok (ld_aload_n_0 (x_dk dn_305_0_1_ok 17 rfl)))
  (e_Tok2
  (e_Lok (lk_12_64g ho_305 (x_dk dn_305_0_1_ok 18 rfl)))
  (e_Lok (ps_bipush_6 (x_dk dn_305_0_1_ok 19 rfl))))))
  (e_Tok2
  (e_Tok2
  (e_Lok (ld_iload_n_1 (x_dk dn_305_0_1_ok 20 rfl)))
  (e_Tok2
  (e_Lok (sm_imul (x_dk dn_305_0_1_ok 21 rfl)))
  (e_Lok (ld_iload_n_2 (x_dk dn_305_0_1_ok 22 rfl)))))
  (e_Tok2
  (e_Tok2
  (e_Lok (sm_iadd (x_dk dn_305_0_1_ok 23 rfl)))
  (e_Lok (sm_iaload (x_dk dn_305_0_1_ok 24 rfl))))
  (e_Tok2
  (e_Lok (lk_12_410p ho_305 (x_dk dn_305_0_2_ok 0 rfl)))
  (e_Lok (e_rt (I := eI) (k := 0) ⟨(x_dk dn_305_0_2_ok 1 rfl), rfl⟩)))))))
def te_305 : Nat → eE := (e_T 39 te_305_0 te_305_26)
theorem te_305_ok : ∀ pc, e_EOq eft cls elay eI n_305 pc (te_305 pc) := (e_Tok2 (te_305_0_ok) (te_305_26_ok))
theorem ho_306 : (xm_y n_306).cls = "RobotCellHouseModel" := rfl
def dn_306_0_0 : List (Nat × Instr × Nat) := [(0, .lload_n 0, 1), (1, .lload_n 0, 1), (2, .lmul, 1), (3, .lload_n 2, 1), (4, .lload_n 2, 1), (5, .lmul, 1), (6, .ladd, 1), (7, .lload 4, 2), (9, .lload 4, 2), (11, .lmul, 1), (12, .lcmp, 1), (13, .ifCond .gt 7, 3), (16, .iconst 1, 1), (17, .goto 4, 3), (20, .iconst 0, 1), (21, .ireturn, 1)]
set_option maxRecDepth 20000 in
theorem dn_306_0_0_ok : dn_306_0_0.all (fun q => decide (decode (xm_b n_306) q.1 = .ok (q.2.1, q.2.2))) = true := xa_g_ok (by decide +kernel)
def te_306_0 : Nat → eE := (e_T 7 (e_T 3 (e_T 1 (e_T 0 (e_L 0 (0, ei_load 0 1 1, 0, 0)) (e_L 1 (0, ei_load 0 1 2, 0, 0))) (e_T 2 (e_L 2 (0, ei_binL eG_mul 3, 0, 0)) (e_L 3 (0, ei_load 2 1 4, 0, 0)))) (e_T 5 (e_T 4 (e_L 4 (0, ei_load 2 1 5, 0, 0)) (e_L 5 (0, ei_binL eG_mul 6, 0, 0))) (e_T 6 (e_L 6 (0, ei_binL eG_add 7, 0, 0)) (e_L 7 (0, ei_load 4 1 9, 0, 0))))) (e_T 13 (e_T 11 (e_T 9 (e_L 9 (0, ei_load 4 1 11, 0, 0)) (e_L 11 (0, ei_binL eG_mul 12, 0, 0))) (e_T 12 (e_L 12 (0, ei_binL eG_cmp 13, 0, 0)) (e_L 13 (0, ei_if1 4 20 16, 0, 0)))) (e_T 17 (e_T 16 (e_L 16 (0, ei_push (0, 1) 17, 0, 0)) (e_L 17 (0, ei_goto 21, 0, 0))) (e_T 20 (e_L 20 (0, ei_push (0, 0) 21, 0, 0)) (e_L 21 (1, e_nof, 4, 0))))))
set_option maxRecDepth 20000 in
set_option maxHeartbeats 4000000 in
theorem te_306_0_ok : ∀ pc, e_EOq eft cls elay eI n_306 pc (te_306_0 pc) :=
  (e_Tok2
  (e_Tok2
  (e_Tok2
  (e_Tok2
  (e_Lok (ld_lload_n_0 (x_dk dn_306_0_0_ok 0 rfl)))
  (e_Lok (ld_lload_n_0 (x_dk dn_306_0_0_ok 1 rfl))))
  (e_Tok2
  (e_Lok (e_st (I := eI) (er_lmul (x_dk dn_306_0_0_ok 2 rfl)) (nx_binL bG_lmul)))
  (e_Lok (ld_lload_n_2 (x_dk dn_306_0_0_ok 3 rfl)))))
  (e_Tok2
  (e_Tok2
  (e_Lok (ld_lload_n_2 (x_dk dn_306_0_0_ok 4 rfl)))
  (e_Lok (e_st (I := eI) (er_lmul (x_dk dn_306_0_0_ok 5 rfl)) (nx_binL bG_lmul))))
  (e_Tok2
  (e_Lok (e_st (I := eI) (er_ladd (x_dk dn_306_0_0_ok 6 rfl)) (nx_binL bG_ladd)))
  (e_Lok (ld_lload_4 (x_dk dn_306_0_0_ok 7 rfl))))))
  (e_Tok2
  (e_Tok2
  (e_Tok2
  (e_Lok (ld_lload_4 (x_dk dn_306_0_0_ok 8 rfl)))
  (e_Lok (e_st (I := eI) (er_lmul (x_dk dn_306_0_0_ok 9 rfl)) (nx_binL bG_lmul))))
  (e_Tok2
  (e_Lok (e_st (I := eI) (er_lcmp (x_dk dn_306_0_0_ok 10 rfl)) (nx_binL bG_lcmp)))
  (e_Lok (e_st (I := eI) (er_ifgt (off := 7) (tg := 20) (x_dk dn_306_0_0_ok 11 rfl) (by decide)) nx_if1))))
  (e_Tok2
  (e_Tok2
  (e_Lok (ps_iconst_1 (x_dk dn_306_0_0_ok 12 rfl)))
  (e_Lok (e_st (I := eI) (er_goto (off := 4) (tg := 21) (x_dk dn_306_0_0_ok 13 rfl) (by decide)) nx_goto)))
  (e_Tok2
  (e_Lok (ps_iconst_0 (x_dk dn_306_0_0_ok 14 rfl)))
  (e_Lok (e_rt (I := eI) (k := 4) ⟨(x_dk dn_306_0_0_ok 15 rfl), rfl⟩))))))
def te_306 : Nat → eE := te_306_0
theorem te_306_ok : ∀ pc, e_EOq eft cls elay eI n_306 pc (te_306 pc) := te_306_0_ok
theorem ho_307 : (xm_y n_307).cls = "RobotCellHouseModel" := rfl
def dn_307_0_0 : List (Nat × Instr × Nat) := [(0, .lload 8, 2), (2, .lload 4, 2), (4, .lsub, 1), (5, .lstore 14, 2), (7, .lload 10, 2), (9, .lload 6, 2), (11, .lsub, 1), (12, .lstore 16, 2), (14, .lload_n 0, 1), (15, .lload 4, 2), (17, .lsub, 1), (18, .lstore 18, 2), (20, .lload_n 2, 1), (21, .lload 6, 2), (23, .lsub, 1), (24, .lstore 20, 2), (26, .lload 14, 2), (28, .lload 18, 2), (30, .lmul, 1), (31, .lload 16, 2), (33, .lload 20, 2), (35, .lmul, 1), (36, .ladd, 1), (37, .lstore 22, 2), (39, .lload 14, 2)]
set_option maxRecDepth 20000 in
theorem dn_307_0_0_ok : dn_307_0_0.all (fun q => decide (decode (xm_b n_307) q.1 = .ok (q.2.1, q.2.2))) = true := xa_g_ok (by decide +kernel)
def dn_307_0_1 : List (Nat × Instr × Nat) := [(41, .lload 14, 2), (43, .lmul, 1), (44, .lload 16, 2), (46, .lload 16, 2), (48, .lmul, 1), (49, .ladd, 1), (50, .lstore 24, 2), (52, .lload 22, 2), (54, .lconst 0, 1), (55, .lcmp, 1), (56, .ifCond .gt 13, 3), (59, .lload 18, 2), (61, .lload 20, 2), (63, .lload 12, 2), (65, .invokestatic 413, 3), (68, .ireturn, 1), (69, .lload 22, 2), (71, .lload 24, 2), (73, .lcmp, 1), (74, .ifCond .lt 17, 3), (77, .lload_n 0, 1), (78, .lload 8, 2), (80, .lsub, 1), (81, .lload_n 2, 1), (82, .lload 10, 2)]
set_option maxRecDepth 20000 in
theorem dn_307_0_1_ok : dn_307_0_1.all (fun q => decide (decode (xm_b n_307) q.1 = .ok (q.2.1, q.2.2))) = true := xa_g_ok (by decide +kernel)
def dn_307_0_2 : List (Nat × Instr × Nat) := [(84, .lsub, 1), (85, .lload 12, 2), (87, .invokestatic 413, 3), (90, .ireturn, 1), (91, .lload 14, 2), (93, .lload 20, 2), (95, .lmul, 1), (96, .lload 16, 2), (98, .lload 18, 2), (100, .lmul, 1), (101, .lsub, 1), (102, .lstore 26, 2), (104, .lload 26, 2), (106, .lload 26, 2), (108, .lmul, 1), (109, .lload 12, 2), (111, .lload 12, 2), (113, .lmul, 1), (114, .lload 24, 2), (116, .lmul, 1), (117, .lcmp, 1), (118, .ifCond .gt 7, 3), (121, .iconst 1, 1), (122, .goto 4, 3), (125, .iconst 0, 1)]
set_option maxRecDepth 20000 in
theorem dn_307_0_2_ok : dn_307_0_2.all (fun q => decide (decode (xm_b n_307) q.1 = .ok (q.2.1, q.2.2))) = true := xa_g_ok (by decide +kernel)
def dn_307_0_3 : List (Nat × Instr × Nat) := [(126, .ireturn, 1)]
set_option maxRecDepth 20000 in
theorem dn_307_0_3_ok : dn_307_0_3.all (fun q => decide (decode (xm_b n_307) q.1 = .ok (q.2.1, q.2.2))) = true := xa_g_ok (by decide +kernel)
def te_307_0 : Nat → eE := (e_T 30 (e_T 14 (e_T 5 (e_T 2 (e_T 0 (e_L 0 (0, ei_load 8 1 2, 0, 0)) (e_L 2 (0, ei_load 4 1 4, 0, 0))) (e_T 4 (e_L 4 (0, ei_binL eG_sub 5, 0, 0)) (e_L 5 (0, ei_stor 14 1 7, 0, 0)))) (e_T 9 (e_T 7 (e_L 7 (0, ei_load 10 1 9, 0, 0)) (e_L 9 (0, ei_load 6 1 11, 0, 0))) (e_T 11 (e_L 11 (0, ei_binL eG_sub 12, 0, 0)) (e_T 12 (e_L 12 (0, ei_stor 16 1 14, 0, 0)) (e_L 14 (0, ei_load 0 1 15, 0, 0)))))) (e_T 21 (e_T 17 (e_T 15 (e_L 15 (0, ei_load 4 1 17, 0, 0)) (e_L 17 (0, ei_binL eG_sub 18, 0, 0))) (e_T 18 (e_L 18 (0, ei_stor 18 1 20, 0, 0)) (e_T 20 (e_L 20 (0, ei_load 2 1 21, 0, 0)) (e_L 21 (0, ei_load 6 1 23, 0, 0))))) (e_T 24 (e_T 23 (e_L 23 (0, ei_binL eG_sub 24, 0, 0)) (e_L 24 (0, ei_stor 20 1 26, 0, 0))) (e_T 26 (e_L 26 (0, ei_load 14 1 28, 0, 0)) (e_T 28 (e_L 28 (0, ei_load 18 1 30, 0, 0)) (e_L 30 (0, ei_binL eG_mul 31, 0, 0))))))) (e_T 44 (e_T 36 (e_T 33 (e_T 31 (e_L 31 (0, ei_load 16 1 33, 0, 0)) (e_L 33 (0, ei_load 20 1 35, 0, 0))) (e_T 35 (e_L 35 (0, ei_binL eG_mul 36, 0, 0)) (e_L 36 (0, ei_binL eG_add 37, 0, 0)))) (e_T 39 (e_T 37 (e_L 37 (0, ei_stor 22 1 39, 0, 0)) (e_L 39 (0, ei_load 14 1 41, 0, 0))) (e_T 41 (e_L 41 (0, ei_load 14 1 43, 0, 0)) (e_T 43 (e_L 43 (0, ei_binL eG_mul 44, 0, 0)) (e_L 44 (0, ei_load 16 1 46, 0, 0)))))) (e_T 52 (e_T 48 (e_T 46 (e_L 46 (0, ei_load 16 1 48, 0, 0)) (e_L 48 (0, ei_binL eG_mul 49, 0, 0))) (e_T 49 (e_L 49 (0, ei_binL eG_add 50, 0, 0)) (e_T 50 (e_L 50 (0, ei_stor 24 1 52, 0, 0)) (e_L 52 (0, ei_load 22 1 54, 0, 0))))) (e_T 55 (e_T 54 (e_L 54 (0, ei_push (4, 0) 55, 0, 0)) (e_L 55 (0, ei_binL eG_cmp 56, 0, 0))) (e_T 56 (e_L 56 (0, ei_if1 4 69 59, 0, 0)) (e_T 59 (e_L 59 (0, ei_load 18 1 61, 0, 0)) (e_L 61 (0, ei_load 20 1 63, 0, 0))))))))
set_option maxRecDepth 20000 in
set_option maxHeartbeats 4000000 in
theorem te_307_0_ok : ∀ pc, e_EOq eft cls elay eI n_307 pc (te_307_0 pc) :=
  (e_Tok2
  (e_Tok2
  (e_Tok2
  (e_Tok2
  (e_Tok2
  (e_Lok (ld_lload_8 (x_dk dn_307_0_0_ok 0 rfl)))
  (e_Lok (ld_lload_4 (x_dk dn_307_0_0_ok 1 rfl))))
  (e_Tok2
  (e_Lok (e_st (I := eI) (er_lsub (x_dk dn_307_0_0_ok 2 rfl)) (nx_binL bG_lsub)))
  (e_Lok (e_st (I := eI) (er_lstore (i := 14) (x_dk dn_307_0_0_ok 3 rfl) (by decide +kernel)) nx_stor))))
  (e_Tok2
  (e_Tok2
  (e_Lok (ld_lload_10 (x_dk dn_307_0_0_ok 4 rfl)))
  (e_Lok (ld_lload_6 (x_dk dn_307_0_0_ok 5 rfl))))
  (e_Tok2
  (e_Lok (e_st (I := eI) (er_lsub (x_dk dn_307_0_0_ok 6 rfl)) (nx_binL bG_lsub)))
  (e_Tok2
  (e_Lok (e_st (I := eI) (er_lstore (i := 16) (x_dk dn_307_0_0_ok 7 rfl) (by decide +kernel)) nx_stor))
  (e_Lok (ld_lload_n_0 (x_dk dn_307_0_0_ok 8 rfl)))))))
  (e_Tok2
  (e_Tok2
  (e_Tok2
  (e_Lok (ld_lload_4 (x_dk dn_307_0_0_ok 9 rfl)))
  (e_Lok (e_st (I := eI) (er_lsub (x_dk dn_307_0_0_ok 10 rfl)) (nx_binL bG_lsub))))
  (e_Tok2
  (e_Lok (e_st (I := eI) (er_lstore (i := 18) (x_dk dn_307_0_0_ok 11 rfl) (by decide +kernel)) nx_stor))
  (e_Tok2
  (e_Lok (ld_lload_n_2 (x_dk dn_307_0_0_ok 12 rfl)))
  (e_Lok (ld_lload_6 (x_dk dn_307_0_0_ok 13 rfl))))))
  (e_Tok2
  (e_Tok2
  (e_Lok (e_st (I := eI) (er_lsub (x_dk dn_307_0_0_ok 14 rfl)) (nx_binL bG_lsub)))
  (e_Lok (e_st (I := eI) (er_lstore (i := 20) (x_dk dn_307_0_0_ok 15 rfl) (by decide +kernel)) nx_stor)))
  (e_Tok2
  (e_Lok (ld_lload_14 (x_dk dn_307_0_0_ok 16 rfl)))
  (e_Tok2
  (e_Lok (ld_lload_18 (x_dk dn_307_0_0_ok 17 rfl)))
  (e_Lok (e_st (I := eI) (er_lmul (x_dk dn_307_0_0_ok 18 rfl)) (nx_binL bG_lmul))))))))
  (e_Tok2
  (e_Tok2
  (e_Tok2
  (e_Tok2
  (e_Lok (ld_lload_16 (x_dk dn_307_0_0_ok 19 rfl)))
  (e_Lok (ld_lload_20 (x_dk dn_307_0_0_ok 20 rfl))))
  (e_Tok2
  (e_Lok (e_st (I := eI) (er_lmul (x_dk dn_307_0_0_ok 21 rfl)) (nx_binL bG_lmul)))
  (e_Lok (e_st (I := eI) (er_ladd (x_dk dn_307_0_0_ok 22 rfl)) (nx_binL bG_ladd)))))
  (e_Tok2
  (e_Tok2
  (e_Lok (e_st (I := eI) (er_lstore (i := 22) (x_dk dn_307_0_0_ok 23 rfl) (by decide +kernel)) nx_stor))
  (e_Lok (ld_lload_14 (x_dk dn_307_0_0_ok 24 rfl))))
  (e_Tok2
  (e_Lok (ld_lload_14 (x_dk dn_307_0_1_ok 0 rfl)))
  (e_Tok2
  (e_Lok (e_st (I := eI) (er_lmul (x_dk dn_307_0_1_ok 1 rfl)) (nx_binL bG_lmul)))
  (e_Lok (ld_lload_16 (x_dk dn_307_0_1_ok 2 rfl)))))))
  (e_Tok2
  (e_Tok2
  (e_Tok2
  (e_Lok (ld_lload_16 (x_dk dn_307_0_1_ok 3 rfl)))
  (e_Lok (e_st (I := eI) (er_lmul (x_dk dn_307_0_1_ok 4 rfl)) (nx_binL bG_lmul))))
  (e_Tok2
  (e_Lok (e_st (I := eI) (er_ladd (x_dk dn_307_0_1_ok 5 rfl)) (nx_binL bG_ladd)))
  (e_Tok2
  (e_Lok (e_st (I := eI) (er_lstore (i := 24) (x_dk dn_307_0_1_ok 6 rfl) (by decide +kernel)) nx_stor))
  (e_Lok (ld_lload_22 (x_dk dn_307_0_1_ok 7 rfl))))))
  (e_Tok2
  (e_Tok2
  (e_Lok (ps_lconst_0 (x_dk dn_307_0_1_ok 8 rfl)))
  (e_Lok (e_st (I := eI) (er_lcmp (x_dk dn_307_0_1_ok 9 rfl)) (nx_binL bG_lcmp))))
  (e_Tok2
  (e_Lok (e_st (I := eI) (er_ifgt (off := 13) (tg := 69) (x_dk dn_307_0_1_ok 10 rfl) (by decide)) nx_if1))
  (e_Tok2
  (e_Lok (ld_lload_18 (x_dk dn_307_0_1_ok 11 rfl)))
  (e_Lok (ld_lload_20 (x_dk dn_307_0_1_ok 12 rfl)))))))))
def te_307_38 : Nat → eE := (e_T 95 (e_T 78 (e_T 69 (e_T 65 (e_T 63 (e_L 63 (0, ei_load 12 1 65, 0, 0)) (e_L 65 (2, e_nof, 306, 3))) (e_T 68 (e_L 68 (1, e_nof, 4, 0)) (e_L 69 (0, ei_load 22 1 71, 0, 0)))) (e_T 73 (e_T 71 (e_L 71 (0, ei_load 24 1 73, 0, 0)) (e_L 73 (0, ei_binL eG_cmp 74, 0, 0))) (e_T 74 (e_L 74 (0, ei_if1 2 91 77, 0, 0)) (e_T 77 (e_L 77 (0, ei_load 0 1 78, 0, 0)) (e_L 78 (0, ei_load 8 1 80, 0, 0)))))) (e_T 85 (e_T 81 (e_T 80 (e_L 80 (0, ei_binL eG_sub 81, 0, 0)) (e_L 81 (0, ei_load 2 1 82, 0, 0))) (e_T 82 (e_L 82 (0, ei_load 10 1 84, 0, 0)) (e_T 84 (e_L 84 (0, ei_binL eG_sub 85, 0, 0)) (e_L 85 (0, ei_load 12 1 87, 0, 0))))) (e_T 90 (e_T 87 (e_L 87 (2, e_nof, 306, 3)) (e_L 90 (1, e_nof, 4, 0))) (e_T 91 (e_L 91 (0, ei_load 14 1 93, 0, 0)) (e_T 93 (e_L 93 (0, ei_load 20 1 95, 0, 0)) (e_L 95 (0, ei_binL eG_mul 96, 0, 0))))))) (e_T 109 (e_T 101 (e_T 98 (e_T 96 (e_L 96 (0, ei_load 16 1 98, 0, 0)) (e_L 98 (0, ei_load 18 1 100, 0, 0))) (e_T 100 (e_L 100 (0, ei_binL eG_mul 101, 0, 0)) (e_L 101 (0, ei_binL eG_sub 102, 0, 0)))) (e_T 104 (e_T 102 (e_L 102 (0, ei_stor 26 1 104, 0, 0)) (e_L 104 (0, ei_load 26 1 106, 0, 0))) (e_T 106 (e_L 106 (0, ei_load 26 1 108, 0, 0)) (e_T 108 (e_L 108 (0, ei_binL eG_mul 109, 0, 0)) (e_L 109 (0, ei_load 12 1 111, 0, 0)))))) (e_T 117 (e_T 113 (e_T 111 (e_L 111 (0, ei_load 12 1 113, 0, 0)) (e_L 113 (0, ei_binL eG_mul 114, 0, 0))) (e_T 114 (e_L 114 (0, ei_load 24 1 116, 0, 0)) (e_T 116 (e_L 116 (0, ei_binL eG_mul 117, 0, 0)) (e_L 117 (0, ei_binL eG_cmp 118, 0, 0))))) (e_T 121 (e_T 118 (e_L 118 (0, ei_if1 4 125 121, 0, 0)) (e_L 121 (0, ei_push (0, 1) 122, 0, 0))) (e_T 122 (e_L 122 (0, ei_goto 126, 0, 0)) (e_T 125 (e_L 125 (0, ei_push (0, 0) 126, 0, 0)) (e_L 126 (1, e_nof, 4, 0))))))))
set_option maxRecDepth 20000 in
set_option maxHeartbeats 4000000 in
theorem te_307_38_ok : ∀ pc, e_EOq eft cls elay eI n_307 pc (te_307_38 pc) :=
  (e_Tok2
  (e_Tok2
  (e_Tok2
  (e_Tok2
  (e_Tok2
  (e_Lok (ld_lload_12 (x_dk dn_307_0_1_ok 13 rfl)))
  (e_Lok (lk_12_413 ho_307 (x_dk dn_307_0_1_ok 14 rfl))))
  (e_Tok2
  (e_Lok (e_rt (I := eI) (k := 4) ⟨(x_dk dn_307_0_1_ok 15 rfl), rfl⟩))
  (e_Lok (ld_lload_22 (x_dk dn_307_0_1_ok 16 rfl)))))
  (e_Tok2
  (e_Tok2
  (e_Lok (ld_lload_24 (x_dk dn_307_0_1_ok 17 rfl)))
  (e_Lok (e_st (I := eI) (er_lcmp (x_dk dn_307_0_1_ok 18 rfl)) (nx_binL bG_lcmp))))
  (e_Tok2
  (e_Lok (e_st (I := eI) (er_iflt (off := 17) (tg := 91) (x_dk dn_307_0_1_ok 19 rfl) (by decide)) nx_if1))
  (e_Tok2
  (e_Lok (ld_lload_n_0 (x_dk dn_307_0_1_ok 20 rfl)))
  (e_Lok (ld_lload_8 (x_dk dn_307_0_1_ok 21 rfl)))))))
  (e_Tok2
  (e_Tok2
  (e_Tok2
  (e_Lok (e_st (I := eI) (er_lsub (x_dk dn_307_0_1_ok 22 rfl)) (nx_binL bG_lsub)))
  (e_Lok (ld_lload_n_2 (x_dk dn_307_0_1_ok 23 rfl))))
  (e_Tok2
  (e_Lok (ld_lload_10 (x_dk dn_307_0_1_ok 24 rfl)))
  (e_Tok2
  (e_Lok (e_st (I := eI) (er_lsub (x_dk dn_307_0_2_ok 0 rfl)) (nx_binL bG_lsub)))
  (e_Lok (ld_lload_12 (x_dk dn_307_0_2_ok 1 rfl))))))
  (e_Tok2
  (e_Tok2
  (e_Lok (lk_12_413 ho_307 (x_dk dn_307_0_2_ok 2 rfl)))
  (e_Lok (e_rt (I := eI) (k := 4) ⟨(x_dk dn_307_0_2_ok 3 rfl), rfl⟩)))
  (e_Tok2
  (e_Lok (ld_lload_14 (x_dk dn_307_0_2_ok 4 rfl)))
  (e_Tok2
  (e_Lok (ld_lload_20 (x_dk dn_307_0_2_ok 5 rfl)))
  (e_Lok (e_st (I := eI) (er_lmul (x_dk dn_307_0_2_ok 6 rfl)) (nx_binL bG_lmul))))))))
  (e_Tok2
  (e_Tok2
  (e_Tok2
  (e_Tok2
  (e_Lok (ld_lload_16 (x_dk dn_307_0_2_ok 7 rfl)))
  (e_Lok (ld_lload_18 (x_dk dn_307_0_2_ok 8 rfl))))
  (e_Tok2
  (e_Lok (e_st (I := eI) (er_lmul (x_dk dn_307_0_2_ok 9 rfl)) (nx_binL bG_lmul)))
  (e_Lok (e_st (I := eI) (er_lsub (x_dk dn_307_0_2_ok 10 rfl)) (nx_binL bG_lsub)))))
  (e_Tok2
  (e_Tok2
  (e_Lok (e_st (I := eI) (er_lstore (i := 26) (x_dk dn_307_0_2_ok 11 rfl) (by decide +kernel)) nx_stor))
  (e_Lok (ld_lload_26 (x_dk dn_307_0_2_ok 12 rfl))))
  (e_Tok2
  (e_Lok (ld_lload_26 (x_dk dn_307_0_2_ok 13 rfl)))
  (e_Tok2
  (e_Lok (e_st (I := eI) (er_lmul (x_dk dn_307_0_2_ok 14 rfl)) (nx_binL bG_lmul)))
  (e_Lok (ld_lload_12 (x_dk dn_307_0_2_ok 15 rfl)))))))
  (e_Tok2
  (e_Tok2
  (e_Tok2
  (e_Lok (ld_lload_12 (x_dk dn_307_0_2_ok 16 rfl)))
  (e_Lok (e_st (I := eI) (er_lmul (x_dk dn_307_0_2_ok 17 rfl)) (nx_binL bG_lmul))))
  (e_Tok2
  (e_Lok (ld_lload_24 (x_dk dn_307_0_2_ok 18 rfl)))
  (e_Tok2
  (e_Lok (e_st (I := eI) (er_lmul (x_dk dn_307_0_2_ok 19 rfl)) (nx_binL bG_lmul)))
  (e_Lok (e_st (I := eI) (er_lcmp (x_dk dn_307_0_2_ok 20 rfl)) (nx_binL bG_lcmp))))))
  (e_Tok2
  (e_Tok2
  (e_Lok (e_st (I := eI) (er_ifgt (off := 7) (tg := 125) (x_dk dn_307_0_2_ok 21 rfl) (by decide)) nx_if1))
  (e_Lok (ps_iconst_1 (x_dk dn_307_0_2_ok 22 rfl))))
  (e_Tok2
  (e_Lok (e_st (I := eI) (er_goto (off := 4) (tg := 126) (x_dk dn_307_0_2_ok 23 rfl) (by decide)) nx_goto))
  (e_Tok2
  (e_Lok (ps_iconst_0 (x_dk dn_307_0_2_ok 24 rfl)))
  (e_Lok (e_rt (I := eI) (k := 4) ⟨(x_dk dn_307_0_3_ok 0 rfl), rfl⟩))))))))
def te_307 : Nat → eE := (e_T 61 te_307_0 te_307_38)
theorem te_307_ok : ∀ pc, e_EOq eft cls elay eI n_307 pc (te_307 pc) := (e_Tok2 (te_307_0_ok) (te_307_38_ok))
theorem ho_308 : (xm_y n_308).cls = "RobotCellHouseModel" := rfl
def dn_308_0_0 : List (Nat × Instr × Nat) := [(0, .lload 4, 2), (2, .lload_n 0, 1), (3, .lsub, 1), (4, .lload 10, 2), (6, .lload_n 2, 1), (7, .lsub, 1), (8, .lmul, 1), (9, .lload 6, 2), (11, .lload_n 2, 1), (12, .lsub, 1), (13, .lload 8, 2), (15, .lload_n 0, 1), (16, .lsub, 1), (17, .lmul, 1), (18, .lsub, 1), (19, .lstore 12, 2), (21, .lload 12, 2), (23, .lconst 0, 1), (24, .lcmp, 1), (25, .ifCond .le 7, 3), (28, .iconst 1, 1), (29, .goto 15, 3), (32, .lload 12, 2), (34, .lconst 0, 1), (35, .lcmp, 1)]
set_option maxRecDepth 20000 in
theorem dn_308_0_0_ok : dn_308_0_0.all (fun q => decide (decode (xm_b n_308) q.1 = .ok (q.2.1, q.2.2))) = true := xa_g_ok (by decide +kernel)
def dn_308_0_1 : List (Nat × Instr × Nat) := [(36, .ifCond .ge 7, 3), (39, .iconst (-1), 1), (40, .goto 4, 3), (43, .iconst 0, 1), (44, .ireturn, 1)]
set_option maxRecDepth 20000 in
theorem dn_308_0_1_ok : dn_308_0_1.all (fun q => decide (decode (xm_b n_308) q.1 = .ok (q.2.1, q.2.2))) = true := xa_g_ok (by decide +kernel)
def te_308_0 : Nat → eE := (e_T 18 (e_T 8 (e_T 3 (e_T 0 (e_L 0 (0, ei_load 4 1 2, 0, 0)) (e_T 2 (e_L 2 (0, ei_load 0 1 3, 0, 0)) (e_L 3 (0, ei_binL eG_sub 4, 0, 0)))) (e_T 6 (e_T 4 (e_L 4 (0, ei_load 10 1 6, 0, 0)) (e_L 6 (0, ei_load 2 1 7, 0, 0))) (e_T 7 (e_L 7 (0, ei_binL eG_sub 8, 0, 0)) (e_L 8 (0, ei_binL eG_mul 9, 0, 0))))) (e_T 13 (e_T 11 (e_T 9 (e_L 9 (0, ei_load 6 1 11, 0, 0)) (e_L 11 (0, ei_load 2 1 12, 0, 0))) (e_T 12 (e_L 12 (0, ei_binL eG_sub 13, 0, 0)) (e_L 13 (0, ei_load 8 1 15, 0, 0)))) (e_T 16 (e_T 15 (e_L 15 (0, ei_load 0 1 16, 0, 0)) (e_L 16 (0, ei_binL eG_sub 17, 0, 0))) (e_T 17 (e_L 17 (0, ei_binL eG_mul 18, 0, 0)) (e_L 18 (0, ei_binL eG_sub 19, 0, 0)))))) (e_T 29 (e_T 23 (e_T 19 (e_L 19 (0, ei_stor 12 1 21, 0, 0)) (e_T 21 (e_L 21 (0, ei_load 12 1 23, 0, 0)) (e_L 23 (0, ei_push (4, 0) 24, 0, 0)))) (e_T 25 (e_T 24 (e_L 24 (0, ei_binL eG_cmp 25, 0, 0)) (e_L 25 (0, ei_if1 5 32 28, 0, 0))) (e_T 28 (e_L 28 (0, ei_push (0, 1) 29, 0, 0)) (e_L 29 (0, ei_goto 44, 0, 0))))) (e_T 36 (e_T 34 (e_T 32 (e_L 32 (0, ei_load 12 1 34, 0, 0)) (e_L 34 (0, ei_push (4, 0) 35, 0, 0))) (e_T 35 (e_L 35 (0, ei_binL eG_cmp 36, 0, 0)) (e_L 36 (0, ei_if1 3 43 39, 0, 0)))) (e_T 40 (e_T 39 (e_L 39 (0, ei_push (0, (-1)) 40, 0, 0)) (e_L 40 (0, ei_goto 44, 0, 0))) (e_T 43 (e_L 43 (0, ei_push (0, 0) 44, 0, 0)) (e_L 44 (1, e_nof, 1, 0)))))))
set_option maxRecDepth 20000 in
set_option maxHeartbeats 4000000 in
theorem te_308_0_ok : ∀ pc, e_EOq eft cls elay eI n_308 pc (te_308_0 pc) :=
  (e_Tok2
  (e_Tok2
  (e_Tok2
  (e_Tok2
  (e_Lok (ld_lload_4 (x_dk dn_308_0_0_ok 0 rfl)))
  (e_Tok2
  (e_Lok (ld_lload_n_0 (x_dk dn_308_0_0_ok 1 rfl)))
  (e_Lok (e_st (I := eI) (er_lsub (x_dk dn_308_0_0_ok 2 rfl)) (nx_binL bG_lsub)))))
  (e_Tok2
  (e_Tok2
  (e_Lok (ld_lload_10 (x_dk dn_308_0_0_ok 3 rfl)))
  (e_Lok (ld_lload_n_2 (x_dk dn_308_0_0_ok 4 rfl))))
  (e_Tok2
  (e_Lok (e_st (I := eI) (er_lsub (x_dk dn_308_0_0_ok 5 rfl)) (nx_binL bG_lsub)))
  (e_Lok (e_st (I := eI) (er_lmul (x_dk dn_308_0_0_ok 6 rfl)) (nx_binL bG_lmul))))))
  (e_Tok2
  (e_Tok2
  (e_Tok2
  (e_Lok (ld_lload_6 (x_dk dn_308_0_0_ok 7 rfl)))
  (e_Lok (ld_lload_n_2 (x_dk dn_308_0_0_ok 8 rfl))))
  (e_Tok2
  (e_Lok (e_st (I := eI) (er_lsub (x_dk dn_308_0_0_ok 9 rfl)) (nx_binL bG_lsub)))
  (e_Lok (ld_lload_8 (x_dk dn_308_0_0_ok 10 rfl)))))
  (e_Tok2
  (e_Tok2
  (e_Lok (ld_lload_n_0 (x_dk dn_308_0_0_ok 11 rfl)))
  (e_Lok (e_st (I := eI) (er_lsub (x_dk dn_308_0_0_ok 12 rfl)) (nx_binL bG_lsub))))
  (e_Tok2
  (e_Lok (e_st (I := eI) (er_lmul (x_dk dn_308_0_0_ok 13 rfl)) (nx_binL bG_lmul)))
  (e_Lok (e_st (I := eI) (er_lsub (x_dk dn_308_0_0_ok 14 rfl)) (nx_binL bG_lsub)))))))
  (e_Tok2
  (e_Tok2
  (e_Tok2
  (e_Lok (e_st (I := eI) (er_lstore (i := 12) (x_dk dn_308_0_0_ok 15 rfl) (by decide +kernel)) nx_stor))
  (e_Tok2
  (e_Lok (ld_lload_12 (x_dk dn_308_0_0_ok 16 rfl)))
  (e_Lok (ps_lconst_0 (x_dk dn_308_0_0_ok 17 rfl)))))
  (e_Tok2
  (e_Tok2
  (e_Lok (e_st (I := eI) (er_lcmp (x_dk dn_308_0_0_ok 18 rfl)) (nx_binL bG_lcmp)))
  (e_Lok (e_st (I := eI) (er_ifle (off := 7) (tg := 32) (x_dk dn_308_0_0_ok 19 rfl) (by decide)) nx_if1)))
  (e_Tok2
  (e_Lok (ps_iconst_1 (x_dk dn_308_0_0_ok 20 rfl)))
  (e_Lok (e_st (I := eI) (er_goto (off := 15) (tg := 44) (x_dk dn_308_0_0_ok 21 rfl) (by decide)) nx_goto)))))
  (e_Tok2
  (e_Tok2
  (e_Tok2
  (e_Lok (ld_lload_12 (x_dk dn_308_0_0_ok 22 rfl)))
  (e_Lok (ps_lconst_0 (x_dk dn_308_0_0_ok 23 rfl))))
  (e_Tok2
  (e_Lok (e_st (I := eI) (er_lcmp (x_dk dn_308_0_0_ok 24 rfl)) (nx_binL bG_lcmp)))
  (e_Lok (e_st (I := eI) (er_ifge (off := 7) (tg := 43) (x_dk dn_308_0_1_ok 0 rfl) (by decide)) nx_if1))))
  (e_Tok2
  (e_Tok2
  (e_Lok (ps_iconst_m1 (x_dk dn_308_0_1_ok 1 rfl)))
  (e_Lok (e_st (I := eI) (er_goto (off := 4) (tg := 44) (x_dk dn_308_0_1_ok 2 rfl) (by decide)) nx_goto)))
  (e_Tok2
  (e_Lok (ps_iconst_0 (x_dk dn_308_0_1_ok 3 rfl)))
  (e_Lok (e_rt (I := eI) (k := 1) ⟨(x_dk dn_308_0_1_ok 4 rfl), rfl⟩)))))))
def te_308 : Nat → eE := te_308_0
theorem te_308_ok : ∀ pc, e_EOq eft cls elay eI n_308 pc (te_308 pc) := te_308_0_ok
theorem ho_309 : (xm_y n_309).cls = "RobotCellHouseModel" := rfl
def dn_309_0_0 : List (Nat × Instr × Nat) := [(0, .lload_n 0, 1), (1, .lload_n 2, 1), (2, .lcmp, 1), (3, .ifCond .ge 7, 3), (6, .lload_n 0, 1), (7, .goto 4, 3), (10, .lload_n 2, 1), (11, .lload 4, 2), (13, .lload 6, 2), (15, .lcmp, 1), (16, .ifCond .ge 8, 3), (19, .lload 6, 2), (21, .goto 5, 3), (24, .lload 4, 2), (26, .lsub, 1), (27, .lload 8, 2), (29, .lcmp, 1), (30, .ifCond .gt 36, 3), (33, .lload 4, 2), (35, .lload 6, 2), (37, .lcmp, 1), (38, .ifCond .ge 8, 3), (41, .lload 4, 2), (43, .goto 5, 3), (46, .lload 6, 2)]
set_option maxRecDepth 20000 in
theorem dn_309_0_0_ok : dn_309_0_0.all (fun q => decide (decode (xm_b n_309) q.1 = .ok (q.2.1, q.2.2))) = true := xa_g_ok (by decide +kernel)
def dn_309_0_1 : List (Nat × Instr × Nat) := [(48, .lload_n 0, 1), (49, .lload_n 2, 1), (50, .lcmp, 1), (51, .ifCond .ge 7, 3), (54, .lload_n 2, 1), (55, .goto 4, 3), (58, .lload_n 0, 1), (59, .lsub, 1), (60, .lload 8, 2), (62, .lcmp, 1), (63, .ifCond .le 7, 3), (66, .iconst 1, 1), (67, .goto 4, 3), (70, .iconst 0, 1), (71, .ireturn, 1)]
set_option maxRecDepth 20000 in
theorem dn_309_0_1_ok : dn_309_0_1.all (fun q => decide (decode (xm_b n_309) q.1 = .ok (q.2.1, q.2.2))) = true := xa_g_ok (by decide +kernel)
def te_309_0 : Nat → eE := (e_T 35 (e_T 15 (e_T 6 (e_T 1 (e_T 0 (e_L 0 (0, ei_load 0 1 1, 0, 0)) (e_L 1 (0, ei_load 2 1 2, 0, 0))) (e_T 2 (e_L 2 (0, ei_binL eG_cmp 3, 0, 0)) (e_T 3 (e_L 3 (0, ei_if1 3 10 6, 0, 0)) (e_L 6 (0, ei_load 0 1 7, 0, 0))))) (e_T 10 (e_T 7 (e_L 7 (0, ei_goto 11, 0, 0)) (e_L 10 (0, ei_load 2 1 11, 0, 0))) (e_T 11 (e_L 11 (0, ei_load 4 1 13, 0, 0)) (e_T 13 (e_L 13 (0, ei_load 6 1 15, 0, 0)) (e_L 15 (0, ei_binL eG_cmp 16, 0, 0)))))) (e_T 26 (e_T 19 (e_T 16 (e_L 16 (0, ei_if1 3 24 19, 0, 0)) (e_L 19 (0, ei_load 6 1 21, 0, 0))) (e_T 21 (e_L 21 (0, ei_goto 26, 0, 0)) (e_T 24 (e_L 24 (0, ei_load 4 1 26, 0, 0)) (e_L 26 (0, ei_binL eG_sub 27, 0, 0))))) (e_T 29 (e_T 27 (e_L 27 (0, ei_load 8 1 29, 0, 0)) (e_L 29 (0, ei_binL eG_cmp 30, 0, 0))) (e_T 30 (e_L 30 (0, ei_if1 4 66 33, 0, 0)) (e_T 33 (e_L 33 (0, ei_load 4 1 35, 0, 0)) (e_L 35 (0, ei_load 6 1 37, 0, 0))))))) (e_T 54 (e_T 46 (e_T 38 (e_T 37 (e_L 37 (0, ei_binL eG_cmp 38, 0, 0)) (e_L 38 (0, ei_if1 3 46 41, 0, 0))) (e_T 41 (e_L 41 (0, ei_load 4 1 43, 0, 0)) (e_T 43 (e_L 43 (0, ei_goto 48, 0, 0)) (e_L 46 (0, ei_load 6 1 48, 0, 0))))) (e_T 49 (e_T 48 (e_L 48 (0, ei_load 0 1 49, 0, 0)) (e_L 49 (0, ei_load 2 1 50, 0, 0))) (e_T 50 (e_L 50 (0, ei_binL eG_cmp 51, 0, 0)) (e_T 51 (e_L 51 (0, ei_if1 3 58 54, 0, 0)) (e_L 54 (0, ei_load 2 1 55, 0, 0)))))) (e_T 62 (e_T 58 (e_T 55 (e_L 55 (0, ei_goto 59, 0, 0)) (e_L 58 (0, ei_load 0 1 59, 0, 0))) (e_T 59 (e_L 59 (0, ei_binL eG_sub 60, 0, 0)) (e_T 60 (e_L 60 (0, ei_load 8 1 62, 0, 0)) (e_L 62 (0, ei_binL eG_cmp 63, 0, 0))))) (e_T 66 (e_T 63 (e_L 63 (0, ei_if1 5 70 66, 0, 0)) (e_L 66 (0, ei_push (0, 1) 67, 0, 0))) (e_T 67 (e_L 67 (0, ei_goto 71, 0, 0)) (e_T 70 (e_L 70 (0, ei_push (0, 0) 71, 0, 0)) (e_L 71 (1, e_nof, 4, 0))))))))
set_option maxRecDepth 20000 in
set_option maxHeartbeats 4000000 in
theorem te_309_0_ok : ∀ pc, e_EOq eft cls elay eI n_309 pc (te_309_0 pc) :=
  (e_Tok2
  (e_Tok2
  (e_Tok2
  (e_Tok2
  (e_Tok2
  (e_Lok (ld_lload_n_0 (x_dk dn_309_0_0_ok 0 rfl)))
  (e_Lok (ld_lload_n_2 (x_dk dn_309_0_0_ok 1 rfl))))
  (e_Tok2
  (e_Lok (e_st (I := eI) (er_lcmp (x_dk dn_309_0_0_ok 2 rfl)) (nx_binL bG_lcmp)))
  (e_Tok2
  (e_Lok (e_st (I := eI) (er_ifge (off := 7) (tg := 10) (x_dk dn_309_0_0_ok 3 rfl) (by decide)) nx_if1))
  (e_Lok (ld_lload_n_0 (x_dk dn_309_0_0_ok 4 rfl))))))
  (e_Tok2
  (e_Tok2
  (e_Lok (e_st (I := eI) (er_goto (off := 4) (tg := 11) (x_dk dn_309_0_0_ok 5 rfl) (by decide)) nx_goto))
  (e_Lok (ld_lload_n_2 (x_dk dn_309_0_0_ok 6 rfl))))
  (e_Tok2
  (e_Lok (ld_lload_4 (x_dk dn_309_0_0_ok 7 rfl)))
  (e_Tok2
  (e_Lok (ld_lload_6 (x_dk dn_309_0_0_ok 8 rfl)))
  (e_Lok (e_st (I := eI) (er_lcmp (x_dk dn_309_0_0_ok 9 rfl)) (nx_binL bG_lcmp)))))))
  (e_Tok2
  (e_Tok2
  (e_Tok2
  (e_Lok (e_st (I := eI) (er_ifge (off := 8) (tg := 24) (x_dk dn_309_0_0_ok 10 rfl) (by decide)) nx_if1))
  (e_Lok (ld_lload_6 (x_dk dn_309_0_0_ok 11 rfl))))
  (e_Tok2
  (e_Lok (e_st (I := eI) (er_goto (off := 5) (tg := 26) (x_dk dn_309_0_0_ok 12 rfl) (by decide)) nx_goto))
  (e_Tok2
  (e_Lok (ld_lload_4 (x_dk dn_309_0_0_ok 13 rfl)))
  (e_Lok (e_st (I := eI) (er_lsub (x_dk dn_309_0_0_ok 14 rfl)) (nx_binL bG_lsub))))))
  (e_Tok2
  (e_Tok2
  (e_Lok (ld_lload_8 (x_dk dn_309_0_0_ok 15 rfl)))
  (e_Lok (e_st (I := eI) (er_lcmp (x_dk dn_309_0_0_ok 16 rfl)) (nx_binL bG_lcmp))))
  (e_Tok2
  (e_Lok (e_st (I := eI) (er_ifgt (off := 36) (tg := 66) (x_dk dn_309_0_0_ok 17 rfl) (by decide)) nx_if1))
  (e_Tok2
  (e_Lok (ld_lload_4 (x_dk dn_309_0_0_ok 18 rfl)))
  (e_Lok (ld_lload_6 (x_dk dn_309_0_0_ok 19 rfl))))))))
  (e_Tok2
  (e_Tok2
  (e_Tok2
  (e_Tok2
  (e_Lok (e_st (I := eI) (er_lcmp (x_dk dn_309_0_0_ok 20 rfl)) (nx_binL bG_lcmp)))
  (e_Lok (e_st (I := eI) (er_ifge (off := 8) (tg := 46) (x_dk dn_309_0_0_ok 21 rfl) (by decide)) nx_if1)))
  (e_Tok2
  (e_Lok (ld_lload_4 (x_dk dn_309_0_0_ok 22 rfl)))
  (e_Tok2
  (e_Lok (e_st (I := eI) (er_goto (off := 5) (tg := 48) (x_dk dn_309_0_0_ok 23 rfl) (by decide)) nx_goto))
  (e_Lok (ld_lload_6 (x_dk dn_309_0_0_ok 24 rfl))))))
  (e_Tok2
  (e_Tok2
  (e_Lok (ld_lload_n_0 (x_dk dn_309_0_1_ok 0 rfl)))
  (e_Lok (ld_lload_n_2 (x_dk dn_309_0_1_ok 1 rfl))))
  (e_Tok2
  (e_Lok (e_st (I := eI) (er_lcmp (x_dk dn_309_0_1_ok 2 rfl)) (nx_binL bG_lcmp)))
  (e_Tok2
  (e_Lok (e_st (I := eI) (er_ifge (off := 7) (tg := 58) (x_dk dn_309_0_1_ok 3 rfl) (by decide)) nx_if1))
  (e_Lok (ld_lload_n_2 (x_dk dn_309_0_1_ok 4 rfl)))))))
  (e_Tok2
  (e_Tok2
  (e_Tok2
  (e_Lok (e_st (I := eI) (er_goto (off := 4) (tg := 59) (x_dk dn_309_0_1_ok 5 rfl) (by decide)) nx_goto))
  (e_Lok (ld_lload_n_0 (x_dk dn_309_0_1_ok 6 rfl))))
  (e_Tok2
  (e_Lok (e_st (I := eI) (er_lsub (x_dk dn_309_0_1_ok 7 rfl)) (nx_binL bG_lsub)))
  (e_Tok2
  (e_Lok (ld_lload_8 (x_dk dn_309_0_1_ok 8 rfl)))
  (e_Lok (e_st (I := eI) (er_lcmp (x_dk dn_309_0_1_ok 9 rfl)) (nx_binL bG_lcmp))))))
  (e_Tok2
  (e_Tok2
  (e_Lok (e_st (I := eI) (er_ifle (off := 7) (tg := 70) (x_dk dn_309_0_1_ok 10 rfl) (by decide)) nx_if1))
  (e_Lok (ps_iconst_1 (x_dk dn_309_0_1_ok 11 rfl))))
  (e_Tok2
  (e_Lok (e_st (I := eI) (er_goto (off := 4) (tg := 71) (x_dk dn_309_0_1_ok 12 rfl) (by decide)) nx_goto))
  (e_Tok2
  (e_Lok (ps_iconst_0 (x_dk dn_309_0_1_ok 13 rfl)))
  (e_Lok (e_rt (I := eI) (k := 4) ⟨(x_dk dn_309_0_1_ok 14 rfl), rfl⟩))))))))
def te_309 : Nat → eE := te_309_0
theorem te_309_ok : ∀ pc, e_EOq eft cls elay eI n_309 pc (te_309 pc) := te_309_0_ok
theorem ho_310 : (xm_y n_310).cls = "RobotCellHouseModel" := rfl
def dn_310_0_0 : List (Nat × Instr × Nat) := [(0, .aload_n 0, 1), (1, .iconst 0, 1), (2, .iaload, 1), (3, .i2l, 1), (4, .aload_n 0, 1), (5, .iconst 2, 1), (6, .iaload, 1), (7, .i2l, 1), (8, .aload_n 1, 1), (9, .iconst 0, 1), (10, .iaload, 1), (11, .i2l, 1), (12, .aload_n 1, 1), (13, .iconst 2, 1), (14, .iaload, 1), (15, .i2l, 1), (16, .lload_n 2, 1), (17, .invokestatic 416, 3), (20, .ifCond .ne 26, 3), (23, .aload_n 0, 1), (24, .iconst 1, 1), (25, .iaload, 1), (26, .i2l, 1), (27, .aload_n 0, 1), (28, .iconst 3, 1)]
set_option maxRecDepth 20000 in
theorem dn_310_0_0_ok : dn_310_0_0.all (fun q => decide (decode (xm_b n_310) q.1 = .ok (q.2.1, q.2.2))) = true := xa_g_ok (by decide +kernel)
def dn_310_0_1 : List (Nat × Instr × Nat) := [(29, .iaload, 1), (30, .i2l, 1), (31, .aload_n 1, 1), (32, .iconst 1, 1), (33, .iaload, 1), (34, .i2l, 1), (35, .aload_n 1, 1), (36, .iconst 3, 1), (37, .iaload, 1), (38, .i2l, 1), (39, .lload_n 2, 1), (40, .invokestatic 416, 3), (43, .ifCond .eq 5, 3), (46, .iconst 0, 1), (47, .ireturn, 1), (48, .aload_n 0, 1), (49, .iconst 0, 1), (50, .iaload, 1), (51, .i2l, 1), (52, .aload_n 0, 1), (53, .iconst 1, 1), (54, .iaload, 1), (55, .i2l, 1), (56, .aload_n 0, 1), (57, .iconst 2, 1)]
set_option maxRecDepth 20000 in
theorem dn_310_0_1_ok : dn_310_0_1.all (fun q => decide (decode (xm_b n_310) q.1 = .ok (q.2.1, q.2.2))) = true := xa_g_ok (by decide +kernel)
def dn_310_0_2 : List (Nat × Instr × Nat) := [(58, .iaload, 1), (59, .i2l, 1), (60, .aload_n 0, 1), (61, .iconst 3, 1), (62, .iaload, 1), (63, .i2l, 1), (64, .aload_n 1, 1), (65, .iconst 0, 1), (66, .iaload, 1), (67, .i2l, 1), (68, .aload_n 1, 1), (69, .iconst 1, 1), (70, .iaload, 1), (71, .i2l, 1), (72, .invokestatic 420, 3), (75, .aload_n 0, 1), (76, .iconst 0, 1), (77, .iaload, 1), (78, .i2l, 1), (79, .aload_n 0, 1), (80, .iconst 1, 1), (81, .iaload, 1), (82, .i2l, 1), (83, .aload_n 0, 1), (84, .iconst 2, 1)]
set_option maxRecDepth 20000 in
theorem dn_310_0_2_ok : dn_310_0_2.all (fun q => decide (decode (xm_b n_310) q.1 = .ok (q.2.1, q.2.2))) = true := xa_g_ok (by decide +kernel)
def dn_310_0_3 : List (Nat × Instr × Nat) := [(85, .iaload, 1), (86, .i2l, 1), (87, .aload_n 0, 1), (88, .iconst 3, 1), (89, .iaload, 1), (90, .i2l, 1), (91, .aload_n 1, 1), (92, .iconst 2, 1), (93, .iaload, 1), (94, .i2l, 1), (95, .aload_n 1, 1), (96, .iconst 3, 1), (97, .iaload, 1), (98, .i2l, 1), (99, .invokestatic 420, 3), (102, .imul, 1), (103, .ifCond .ge 7, 3), (106, .iconst 1, 1), (107, .goto 4, 3), (110, .iconst 0, 1), (111, .istore 4, 2), (113, .iload 4, 2), (115, .ifCond .eq 63, 3), (118, .aload_n 1, 1), (119, .iconst 0, 1)]
set_option maxRecDepth 20000 in
theorem dn_310_0_3_ok : dn_310_0_3.all (fun q => decide (decode (xm_b n_310) q.1 = .ok (q.2.1, q.2.2))) = true := xa_g_ok (by decide +kernel)
def dn_310_1_0 : List (Nat × Instr × Nat) := [(120, .iaload, 1), (121, .i2l, 1), (122, .aload_n 1, 1), (123, .iconst 1, 1), (124, .iaload, 1), (125, .i2l, 1), (126, .aload_n 1, 1), (127, .iconst 2, 1), (128, .iaload, 1), (129, .i2l, 1), (130, .aload_n 1, 1), (131, .iconst 3, 1), (132, .iaload, 1), (133, .i2l, 1), (134, .aload_n 0, 1), (135, .iconst 0, 1), (136, .iaload, 1), (137, .i2l, 1), (138, .aload_n 0, 1), (139, .iconst 1, 1), (140, .iaload, 1), (141, .i2l, 1), (142, .invokestatic 420, 3), (145, .aload_n 1, 1), (146, .iconst 0, 1)]
set_option maxRecDepth 20000 in
theorem dn_310_1_0_ok : dn_310_1_0.all (fun q => decide (decode (xm_b n_310) q.1 = .ok (q.2.1, q.2.2))) = true := xa_g_ok (by decide +kernel)
def dn_310_1_1 : List (Nat × Instr × Nat) := [(147, .iaload, 1), (148, .i2l, 1), (149, .aload_n 1, 1), (150, .iconst 1, 1), (151, .iaload, 1), (152, .i2l, 1), (153, .aload_n 1, 1), (154, .iconst 2, 1), (155, .iaload, 1), (156, .i2l, 1), (157, .aload_n 1, 1), (158, .iconst 3, 1), (159, .iaload, 1), (160, .i2l, 1), (161, .aload_n 0, 1), (162, .iconst 2, 1), (163, .iaload, 1), (164, .i2l, 1), (165, .aload_n 0, 1), (166, .iconst 3, 1), (167, .iaload, 1), (168, .i2l, 1), (169, .invokestatic 420, 3), (172, .imul, 1), (173, .ifCond .ge 5, 3)]
set_option maxRecDepth 20000 in
theorem dn_310_1_1_ok : dn_310_1_1.all (fun q => decide (decode (xm_b n_310) q.1 = .ok (q.2.1, q.2.2))) = true := xa_g_ok (by decide +kernel)
def dn_310_1_2 : List (Nat × Instr × Nat) := [(176, .iconst 1, 1), (177, .ireturn, 1), (178, .aload_n 0, 1), (179, .iconst 0, 1), (180, .iaload, 1), (181, .i2l, 1), (182, .aload_n 0, 1), (183, .iconst 1, 1), (184, .iaload, 1), (185, .i2l, 1), (186, .aload_n 1, 1), (187, .iconst 0, 1), (188, .iaload, 1), (189, .i2l, 1), (190, .aload_n 1, 1), (191, .iconst 1, 1), (192, .iaload, 1), (193, .i2l, 1), (194, .aload_n 1, 1), (195, .iconst 2, 1), (196, .iaload, 1), (197, .i2l, 1), (198, .aload_n 1, 1), (199, .iconst 3, 1), (200, .iaload, 1)]
set_option maxRecDepth 20000 in
theorem dn_310_1_2_ok : dn_310_1_2.all (fun q => decide (decode (xm_b n_310) q.1 = .ok (q.2.1, q.2.2))) = true := xa_g_ok (by decide +kernel)
def dn_310_1_3 : List (Nat × Instr × Nat) := [(201, .i2l, 1), (202, .lload_n 2, 1), (203, .invokestatic 424, 3), (206, .ifCond .ne 96, 3), (209, .aload_n 0, 1), (210, .iconst 2, 1), (211, .iaload, 1), (212, .i2l, 1), (213, .aload_n 0, 1), (214, .iconst 3, 1), (215, .iaload, 1), (216, .i2l, 1), (217, .aload_n 1, 1), (218, .iconst 0, 1), (219, .iaload, 1), (220, .i2l, 1), (221, .aload_n 1, 1), (222, .iconst 1, 1), (223, .iaload, 1), (224, .i2l, 1), (225, .aload_n 1, 1), (226, .iconst 2, 1), (227, .iaload, 1), (228, .i2l, 1), (229, .aload_n 1, 1)]
set_option maxRecDepth 20000 in
theorem dn_310_1_3_ok : dn_310_1_3.all (fun q => decide (decode (xm_b n_310) q.1 = .ok (q.2.1, q.2.2))) = true := xa_g_ok (by decide +kernel)
def dn_310_2_0 : List (Nat × Instr × Nat) := [(230, .iconst 3, 1), (231, .iaload, 1), (232, .i2l, 1), (233, .lload_n 2, 1), (234, .invokestatic 424, 3), (237, .ifCond .ne 65, 3), (240, .aload_n 1, 1), (241, .iconst 0, 1), (242, .iaload, 1), (243, .i2l, 1), (244, .aload_n 1, 1), (245, .iconst 1, 1), (246, .iaload, 1), (247, .i2l, 1), (248, .aload_n 0, 1), (249, .iconst 0, 1), (250, .iaload, 1), (251, .i2l, 1), (252, .aload_n 0, 1), (253, .iconst 1, 1), (254, .iaload, 1), (255, .i2l, 1), (256, .aload_n 0, 1), (257, .iconst 2, 1), (258, .iaload, 1)]
set_option maxRecDepth 20000 in
theorem dn_310_2_0_ok : dn_310_2_0.all (fun q => decide (decode (xm_b n_310) q.1 = .ok (q.2.1, q.2.2))) = true := xa_g_ok (by decide +kernel)
def dn_310_2_1 : List (Nat × Instr × Nat) := [(259, .i2l, 1), (260, .aload_n 0, 1), (261, .iconst 3, 1), (262, .iaload, 1), (263, .i2l, 1), (264, .lload_n 2, 1), (265, .invokestatic 424, 3), (268, .ifCond .ne 34, 3), (271, .aload_n 1, 1), (272, .iconst 2, 1), (273, .iaload, 1), (274, .i2l, 1), (275, .aload_n 1, 1), (276, .iconst 3, 1), (277, .iaload, 1), (278, .i2l, 1), (279, .aload_n 0, 1), (280, .iconst 0, 1), (281, .iaload, 1), (282, .i2l, 1), (283, .aload_n 0, 1), (284, .iconst 1, 1), (285, .iaload, 1), (286, .i2l, 1), (287, .aload_n 0, 1)]
set_option maxRecDepth 20000 in
theorem dn_310_2_1_ok : dn_310_2_1.all (fun q => decide (decode (xm_b n_310) q.1 = .ok (q.2.1, q.2.2))) = true := xa_g_ok (by decide +kernel)
def dn_310_2_2 : List (Nat × Instr × Nat) := [(288, .iconst 2, 1), (289, .iaload, 1), (290, .i2l, 1), (291, .aload_n 0, 1), (292, .iconst 3, 1), (293, .iaload, 1), (294, .i2l, 1), (295, .lload_n 2, 1), (296, .invokestatic 424, 3), (299, .ifCond .eq 7, 3), (302, .iconst 1, 1), (303, .goto 4, 3), (306, .iconst 0, 1), (307, .ireturn, 1)]
set_option maxRecDepth 20000 in
theorem dn_310_2_2_ok : dn_310_2_2.all (fun q => decide (decode (xm_b n_310) q.1 = .ok (q.2.1, q.2.2))) = true := xa_g_ok (by decide +kernel)
def te_310_0 : Nat → eE := (e_T 15 (e_T 7 (e_T 3 (e_T 1 (e_T 0 (e_L 0 (0, ei_load 0 2 1, 0, 0)) (e_L 1 (0, ei_push (0, 0) 2, 0, 0))) (e_T 2 (e_L 2 (0, ei_ald elay false 3, 0, 0)) (e_L 3 (0, ei_un (fun x => (4, x)) 4, 0, 0)))) (e_T 5 (e_T 4 (e_L 4 (0, ei_load 0 2 5, 0, 0)) (e_L 5 (0, ei_push (0, 2) 6, 0, 0))) (e_T 6 (e_L 6 (0, ei_ald elay false 7, 0, 0)) (e_L 7 (0, ei_un (fun x => (4, x)) 8, 0, 0))))) (e_T 11 (e_T 9 (e_T 8 (e_L 8 (0, ei_load 1 2 9, 0, 0)) (e_L 9 (0, ei_push (0, 0) 10, 0, 0))) (e_T 10 (e_L 10 (0, ei_ald elay false 11, 0, 0)) (e_L 11 (0, ei_un (fun x => (4, x)) 12, 0, 0)))) (e_T 13 (e_T 12 (e_L 12 (0, ei_load 1 2 13, 0, 0)) (e_L 13 (0, ei_push (0, 2) 14, 0, 0))) (e_T 14 (e_L 14 (0, ei_ald elay false 15, 0, 0)) (e_L 15 (0, ei_un (fun x => (4, x)) 16, 0, 0)))))) (e_T 27 (e_T 23 (e_T 17 (e_T 16 (e_L 16 (0, ei_load 2 1 17, 0, 0)) (e_L 17 (2, e_nof, 309, 5))) (e_T 20 (e_L 20 (0, ei_if1 1 46 23, 0, 0)) (e_L 23 (0, ei_load 0 2 24, 0, 0)))) (e_T 25 (e_T 24 (e_L 24 (0, ei_push (0, 1) 25, 0, 0)) (e_L 25 (0, ei_ald elay false 26, 0, 0))) (e_T 26 (e_L 26 (0, ei_un (fun x => (4, x)) 27, 0, 0)) (e_L 27 (0, ei_load 0 2 28, 0, 0))))) (e_T 31 (e_T 29 (e_T 28 (e_L 28 (0, ei_push (0, 3) 29, 0, 0)) (e_L 29 (0, ei_ald elay false 30, 0, 0))) (e_T 30 (e_L 30 (0, ei_un (fun x => (4, x)) 31, 0, 0)) (e_L 31 (0, ei_load 1 2 32, 0, 0)))) (e_T 33 (e_T 32 (e_L 32 (0, ei_push (0, 1) 33, 0, 0)) (e_L 33 (0, ei_ald elay false 34, 0, 0))) (e_T 34 (e_L 34 (0, ei_un (fun x => (4, x)) 35, 0, 0)) (e_T 35 (e_L 35 (0, ei_load 1 2 36, 0, 0)) (e_L 36 (0, ei_push (0, 3) 37, 0, 0))))))))
set_option maxRecDepth 20000 in
set_option maxHeartbeats 4000000 in
theorem te_310_0_ok : ∀ pc, e_EOq eft cls elay eI n_310 pc (te_310_0 pc) :=
  (e_Tok2
  (e_Tok2
  (e_Tok2
  (e_Tok2
  (e_Tok2
  (e_Lok (ld_aload_n_0 (x_dk dn_310_0_0_ok 0 rfl)))
  (e_Lok (ps_iconst_0 (x_dk dn_310_0_0_ok 1 rfl))))
  (e_Tok2
  (e_Lok (sm_iaload (x_dk dn_310_0_0_ok 2 rfl)))
  (e_Lok (e_st (I := eI) (er_i2l (x_dk dn_310_0_0_ok 3 rfl)) (nx_un (fun _ => rfl))))))
  (e_Tok2
  (e_Tok2
  (e_Lok (ld_aload_n_0 (x_dk dn_310_0_0_ok 4 rfl)))
  (e_Lok (ps_iconst_2 (x_dk dn_310_0_0_ok 5 rfl))))
  (e_Tok2
  (e_Lok (sm_iaload (x_dk dn_310_0_0_ok 6 rfl)))
  (e_Lok (e_st (I := eI) (er_i2l (x_dk dn_310_0_0_ok 7 rfl)) (nx_un (fun _ => rfl)))))))
  (e_Tok2
  (e_Tok2
  (e_Tok2
  (e_Lok (ld_aload_n_1 (x_dk dn_310_0_0_ok 8 rfl)))
  (e_Lok (ps_iconst_0 (x_dk dn_310_0_0_ok 9 rfl))))
  (e_Tok2
  (e_Lok (sm_iaload (x_dk dn_310_0_0_ok 10 rfl)))
  (e_Lok (e_st (I := eI) (er_i2l (x_dk dn_310_0_0_ok 11 rfl)) (nx_un (fun _ => rfl))))))
  (e_Tok2
  (e_Tok2
  (e_Lok (ld_aload_n_1 (x_dk dn_310_0_0_ok 12 rfl)))
  (e_Lok (ps_iconst_2 (x_dk dn_310_0_0_ok 13 rfl))))
  (e_Tok2
  (e_Lok (sm_iaload (x_dk dn_310_0_0_ok 14 rfl)))
  (e_Lok (e_st (I := eI) (er_i2l (x_dk dn_310_0_0_ok 15 rfl)) (nx_un (fun _ => rfl))))))))
  (e_Tok2
  (e_Tok2
  (e_Tok2
  (e_Tok2
  (e_Lok (ld_lload_n_2 (x_dk dn_310_0_0_ok 16 rfl)))
  (e_Lok (lk_12_416 ho_310 (x_dk dn_310_0_0_ok 17 rfl))))
  (e_Tok2
  (e_Lok (e_st (I := eI) (er_ifne (off := 26) (tg := 46) (x_dk dn_310_0_0_ok 18 rfl) (by decide)) nx_if1))
  (e_Lok (ld_aload_n_0 (x_dk dn_310_0_0_ok 19 rfl)))))
  (e_Tok2
  (e_Tok2
  (e_Lok (ps_iconst_1 (x_dk dn_310_0_0_ok 20 rfl)))
  (e_Lok (sm_iaload (x_dk dn_310_0_0_ok 21 rfl))))
  (e_Tok2
  (e_Lok (e_st (I := eI) (er_i2l (x_dk dn_310_0_0_ok 22 rfl)) (nx_un (fun _ => rfl))))
  (e_Lok (ld_aload_n_0 (x_dk dn_310_0_0_ok 23 rfl))))))
  (e_Tok2
  (e_Tok2
  (e_Tok2
  (e_Lok (ps_iconst_3 (x_dk dn_310_0_0_ok 24 rfl)))
  (e_Lok (sm_iaload (x_dk dn_310_0_1_ok 0 rfl))))
  (e_Tok2
  (e_Lok (e_st (I := eI) (er_i2l (x_dk dn_310_0_1_ok 1 rfl)) (nx_un (fun _ => rfl))))
  (e_Lok (ld_aload_n_1 (x_dk dn_310_0_1_ok 2 rfl)))))
  (e_Tok2
  (e_Tok2
  (e_Lok (ps_iconst_1 (x_dk dn_310_0_1_ok 3 rfl)))
  (e_Lok (sm_iaload (x_dk dn_310_0_1_ok 4 rfl))))
  (e_Tok2
  (e_Lok (e_st (I := eI) (er_i2l (x_dk dn_310_0_1_ok 5 rfl)) (nx_un (fun _ => rfl))))
  (e_Tok2
  (e_Lok (ld_aload_n_1 (x_dk dn_310_0_1_ok 6 rfl)))
  (e_Lok (ps_iconst_3 (x_dk dn_310_0_1_ok 7 rfl)))))))))
def te_310_33 : Nat → eE := (e_T 56 (e_T 48 (e_T 40 (e_T 38 (e_T 37 (e_L 37 (0, ei_ald elay false 38, 0, 0)) (e_L 38 (0, ei_un (fun x => (4, x)) 39, 0, 0))) (e_T 39 (e_L 39 (0, ei_load 2 1 40, 0, 0)) (e_L 40 (2, e_nof, 309, 5)))) (e_T 46 (e_T 43 (e_L 43 (0, ei_if1 0 48 46, 0, 0)) (e_L 46 (0, ei_push (0, 0) 47, 0, 0))) (e_T 47 (e_L 47 (1, e_nof, 4, 0)) (e_L 48 (0, ei_load 0 2 49, 0, 0))))) (e_T 52 (e_T 50 (e_T 49 (e_L 49 (0, ei_push (0, 0) 50, 0, 0)) (e_L 50 (0, ei_ald elay false 51, 0, 0))) (e_T 51 (e_L 51 (0, ei_un (fun x => (4, x)) 52, 0, 0)) (e_L 52 (0, ei_load 0 2 53, 0, 0)))) (e_T 54 (e_T 53 (e_L 53 (0, ei_push (0, 1) 54, 0, 0)) (e_L 54 (0, ei_ald elay false 55, 0, 0))) (e_T 55 (e_L 55 (0, ei_un (fun x => (4, x)) 56, 0, 0)) (e_L 56 (0, ei_load 0 2 57, 0, 0)))))) (e_T 64 (e_T 60 (e_T 58 (e_T 57 (e_L 57 (0, ei_push (0, 2) 58, 0, 0)) (e_L 58 (0, ei_ald elay false 59, 0, 0))) (e_T 59 (e_L 59 (0, ei_un (fun x => (4, x)) 60, 0, 0)) (e_L 60 (0, ei_load 0 2 61, 0, 0)))) (e_T 62 (e_T 61 (e_L 61 (0, ei_push (0, 3) 62, 0, 0)) (e_L 62 (0, ei_ald elay false 63, 0, 0))) (e_T 63 (e_L 63 (0, ei_un (fun x => (4, x)) 64, 0, 0)) (e_L 64 (0, ei_load 1 2 65, 0, 0))))) (e_T 68 (e_T 66 (e_T 65 (e_L 65 (0, ei_push (0, 0) 66, 0, 0)) (e_L 66 (0, ei_ald elay false 67, 0, 0))) (e_T 67 (e_L 67 (0, ei_un (fun x => (4, x)) 68, 0, 0)) (e_L 68 (0, ei_load 1 2 69, 0, 0)))) (e_T 70 (e_T 69 (e_L 69 (0, ei_push (0, 1) 70, 0, 0)) (e_L 70 (0, ei_ald elay false 71, 0, 0))) (e_T 71 (e_L 71 (0, ei_un (fun x => (4, x)) 72, 0, 0)) (e_T 72 (e_L 72 (2, e_nof, 308, 6)) (e_L 75 (0, ei_load 0 2 76, 0, 0))))))))
set_option maxRecDepth 20000 in
set_option maxHeartbeats 4000000 in
theorem te_310_33_ok : ∀ pc, e_EOq eft cls elay eI n_310 pc (te_310_33 pc) :=
  (e_Tok2
  (e_Tok2
  (e_Tok2
  (e_Tok2
  (e_Tok2
  (e_Lok (sm_iaload (x_dk dn_310_0_1_ok 8 rfl)))
  (e_Lok (e_st (I := eI) (er_i2l (x_dk dn_310_0_1_ok 9 rfl)) (nx_un (fun _ => rfl)))))
  (e_Tok2
  (e_Lok (ld_lload_n_2 (x_dk dn_310_0_1_ok 10 rfl)))
  (e_Lok (lk_12_416 ho_310 (x_dk dn_310_0_1_ok 11 rfl)))))
  (e_Tok2
  (e_Tok2
  (e_Lok (e_st (I := eI) (er_ifeq (off := 5) (tg := 48) (x_dk dn_310_0_1_ok 12 rfl) (by decide)) nx_if1))
  (e_Lok (ps_iconst_0 (x_dk dn_310_0_1_ok 13 rfl))))
  (e_Tok2
  (e_Lok (e_rt (I := eI) (k := 4) ⟨(x_dk dn_310_0_1_ok 14 rfl), rfl⟩))
  (e_Lok (ld_aload_n_0 (x_dk dn_310_0_1_ok 15 rfl))))))
  (e_Tok2
  (e_Tok2
  (e_Tok2
  (e_Lok (ps_iconst_0 (x_dk dn_310_0_1_ok 16 rfl)))
  (e_Lok (sm_iaload (x_dk dn_310_0_1_ok 17 rfl))))
  (e_Tok2
  (e_Lok (e_st (I := eI) (er_i2l (x_dk dn_310_0_1_ok 18 rfl)) (nx_un (fun _ => rfl))))
  (e_Lok (ld_aload_n_0 (x_dk dn_310_0_1_ok 19 rfl)))))
  (e_Tok2
  (e_Tok2
  (e_Lok (ps_iconst_1 (x_dk dn_310_0_1_ok 20 rfl)))
  (e_Lok (sm_iaload (x_dk dn_310_0_1_ok 21 rfl))))
  (e_Tok2
  (e_Lok (e_st (I := eI) (er_i2l (x_dk dn_310_0_1_ok 22 rfl)) (nx_un (fun _ => rfl))))
  (e_Lok (ld_aload_n_0 (x_dk dn_310_0_1_ok 23 rfl)))))))
  (e_Tok2
  (e_Tok2
  (e_Tok2
  (e_Tok2
  (e_Lok (ps_iconst_2 (x_dk dn_310_0_1_ok 24 rfl)))
  (e_Lok (sm_iaload (x_dk dn_310_0_2_ok 0 rfl))))
  (e_Tok2
  (e_Lok (e_st (I := eI) (er_i2l (x_dk dn_310_0_2_ok 1 rfl)) (nx_un (fun _ => rfl))))
  (e_Lok (ld_aload_n_0 (x_dk dn_310_0_2_ok 2 rfl)))))
  (e_Tok2
  (e_Tok2
  (e_Lok (ps_iconst_3 (x_dk dn_310_0_2_ok 3 rfl)))
  (e_Lok (sm_iaload (x_dk dn_310_0_2_ok 4 rfl))))
  (e_Tok2
  (e_Lok (e_st (I := eI) (er_i2l (x_dk dn_310_0_2_ok 5 rfl)) (nx_un (fun _ => rfl))))
  (e_Lok (ld_aload_n_1 (x_dk dn_310_0_2_ok 6 rfl))))))
  (e_Tok2
  (e_Tok2
  (e_Tok2
  (e_Lok (ps_iconst_0 (x_dk dn_310_0_2_ok 7 rfl)))
  (e_Lok (sm_iaload (x_dk dn_310_0_2_ok 8 rfl))))
  (e_Tok2
  (e_Lok (e_st (I := eI) (er_i2l (x_dk dn_310_0_2_ok 9 rfl)) (nx_un (fun _ => rfl))))
  (e_Lok (ld_aload_n_1 (x_dk dn_310_0_2_ok 10 rfl)))))
  (e_Tok2
  (e_Tok2
  (e_Lok (ps_iconst_1 (x_dk dn_310_0_2_ok 11 rfl)))
  (e_Lok (sm_iaload (x_dk dn_310_0_2_ok 12 rfl))))
  (e_Tok2
  (e_Lok (e_st (I := eI) (er_i2l (x_dk dn_310_0_2_ok 13 rfl)) (nx_un (fun _ => rfl))))
  (e_Tok2
  (e_Lok (lk_12_420 ho_310 (x_dk dn_310_0_2_ok 14 rfl)))
  (e_Lok (ld_aload_n_0 (x_dk dn_310_0_2_ok 15 rfl)))))))))
def te_310_66 : Nat → eE := (e_T 91 (e_T 83 (e_T 79 (e_T 77 (e_T 76 (e_L 76 (0, ei_push (0, 0) 77, 0, 0)) (e_L 77 (0, ei_ald elay false 78, 0, 0))) (e_T 78 (e_L 78 (0, ei_un (fun x => (4, x)) 79, 0, 0)) (e_L 79 (0, ei_load 0 2 80, 0, 0)))) (e_T 81 (e_T 80 (e_L 80 (0, ei_push (0, 1) 81, 0, 0)) (e_L 81 (0, ei_ald elay false 82, 0, 0))) (e_T 82 (e_L 82 (0, ei_un (fun x => (4, x)) 83, 0, 0)) (e_L 83 (0, ei_load 0 2 84, 0, 0))))) (e_T 87 (e_T 85 (e_T 84 (e_L 84 (0, ei_push (0, 2) 85, 0, 0)) (e_L 85 (0, ei_ald elay false 86, 0, 0))) (e_T 86 (e_L 86 (0, ei_un (fun x => (4, x)) 87, 0, 0)) (e_L 87 (0, ei_load 0 2 88, 0, 0)))) (e_T 89 (e_T 88 (e_L 88 (0, ei_push (0, 3) 89, 0, 0)) (e_L 89 (0, ei_ald elay false 90, 0, 0))) (e_T 90 (e_L 90 (0, ei_un (fun x => (4, x)) 91, 0, 0)) (e_L 91 (0, ei_load 1 2 92, 0, 0)))))) (e_T 99 (e_T 95 (e_T 93 (e_T 92 (e_L 92 (0, ei_push (0, 2) 93, 0, 0)) (e_L 93 (0, ei_ald elay false 94, 0, 0))) (e_T 94 (e_L 94 (0, ei_un (fun x => (4, x)) 95, 0, 0)) (e_L 95 (0, ei_load 1 2 96, 0, 0)))) (e_T 97 (e_T 96 (e_L 96 (0, ei_push (0, 3) 97, 0, 0)) (e_L 97 (0, ei_ald elay false 98, 0, 0))) (e_T 98 (e_L 98 (0, ei_un (fun x => (4, x)) 99, 0, 0)) (e_L 99 (2, e_nof, 308, 6))))) (e_T 107 (e_T 103 (e_T 102 (e_L 102 (0, ei_bin eF_mul 103, 0, 0)) (e_L 103 (0, ei_if1 3 110 106, 0, 0))) (e_T 106 (e_L 106 (0, ei_push (0, 1) 107, 0, 0)) (e_L 107 (0, ei_goto 111, 0, 0)))) (e_T 111 (e_T 110 (e_L 110 (0, ei_push (0, 0) 111, 0, 0)) (e_L 111 (0, ei_stor 4 0 113, 0, 0))) (e_T 113 (e_L 113 (0, ei_load 4 0 115, 0, 0)) (e_T 115 (e_L 115 (0, ei_if1 0 178 118, 0, 0)) (e_L 118 (0, ei_load 1 2 119, 0, 0))))))))
set_option maxRecDepth 20000 in
set_option maxHeartbeats 4000000 in
theorem te_310_66_ok : ∀ pc, e_EOq eft cls elay eI n_310 pc (te_310_66 pc) :=
  (e_Tok2
  (e_Tok2
  (e_Tok2
  (e_Tok2
  (e_Tok2
  (e_Lok (ps_iconst_0 (x_dk dn_310_0_2_ok 16 rfl)))
  (e_Lok (sm_iaload (x_dk dn_310_0_2_ok 17 rfl))))
  (e_Tok2
  (e_Lok (e_st (I := eI) (er_i2l (x_dk dn_310_0_2_ok 18 rfl)) (nx_un (fun _ => rfl))))
  (e_Lok (ld_aload_n_0 (x_dk dn_310_0_2_ok 19 rfl)))))
  (e_Tok2
  (e_Tok2
  (e_Lok (ps_iconst_1 (x_dk dn_310_0_2_ok 20 rfl)))
  (e_Lok (sm_iaload (x_dk dn_310_0_2_ok 21 rfl))))
  (e_Tok2
  (e_Lok (e_st (I := eI) (er_i2l (x_dk dn_310_0_2_ok 22 rfl)) (nx_un (fun _ => rfl))))
  (e_Lok (ld_aload_n_0 (x_dk dn_310_0_2_ok 23 rfl))))))
  (e_Tok2
  (e_Tok2
  (e_Tok2
  (e_Lok (ps_iconst_2 (x_dk dn_310_0_2_ok 24 rfl)))
  (e_Lok (sm_iaload (x_dk dn_310_0_3_ok 0 rfl))))
  (e_Tok2
  (e_Lok (e_st (I := eI) (er_i2l (x_dk dn_310_0_3_ok 1 rfl)) (nx_un (fun _ => rfl))))
  (e_Lok (ld_aload_n_0 (x_dk dn_310_0_3_ok 2 rfl)))))
  (e_Tok2
  (e_Tok2
  (e_Lok (ps_iconst_3 (x_dk dn_310_0_3_ok 3 rfl)))
  (e_Lok (sm_iaload (x_dk dn_310_0_3_ok 4 rfl))))
  (e_Tok2
  (e_Lok (e_st (I := eI) (er_i2l (x_dk dn_310_0_3_ok 5 rfl)) (nx_un (fun _ => rfl))))
  (e_Lok (ld_aload_n_1 (x_dk dn_310_0_3_ok 6 rfl)))))))
  (e_Tok2
  (e_Tok2
  (e_Tok2
  (e_Tok2
  (e_Lok (ps_iconst_2 (x_dk dn_310_0_3_ok 7 rfl)))
  (e_Lok (sm_iaload (x_dk dn_310_0_3_ok 8 rfl))))
  (e_Tok2
  (e_Lok (e_st (I := eI) (er_i2l (x_dk dn_310_0_3_ok 9 rfl)) (nx_un (fun _ => rfl))))
  (e_Lok (ld_aload_n_1 (x_dk dn_310_0_3_ok 10 rfl)))))
  (e_Tok2
  (e_Tok2
  (e_Lok (ps_iconst_3 (x_dk dn_310_0_3_ok 11 rfl)))
  (e_Lok (sm_iaload (x_dk dn_310_0_3_ok 12 rfl))))
  (e_Tok2
  (e_Lok (e_st (I := eI) (er_i2l (x_dk dn_310_0_3_ok 13 rfl)) (nx_un (fun _ => rfl))))
  (e_Lok (lk_12_420 ho_310 (x_dk dn_310_0_3_ok 14 rfl))))))
  (e_Tok2
  (e_Tok2
  (e_Tok2
  (e_Lok (sm_imul (x_dk dn_310_0_3_ok 15 rfl)))
  (e_Lok (e_st (I := eI) (er_ifge (off := 7) (tg := 110) (x_dk dn_310_0_3_ok 16 rfl) (by decide)) nx_if1)))
  (e_Tok2
  (e_Lok (ps_iconst_1 (x_dk dn_310_0_3_ok 17 rfl)))
  (e_Lok (e_st (I := eI) (er_goto (off := 4) (tg := 111) (x_dk dn_310_0_3_ok 18 rfl) (by decide)) nx_goto))))
  (e_Tok2
  (e_Tok2
  (e_Lok (ps_iconst_0 (x_dk dn_310_0_3_ok 19 rfl)))
  (e_Lok (e_st (I := eI) (er_istore (i := 4) (x_dk dn_310_0_3_ok 20 rfl) (by decide +kernel)) nx_stor)))
  (e_Tok2
  (e_Lok (ld_iload_4 (x_dk dn_310_0_3_ok 21 rfl)))
  (e_Tok2
  (e_Lok (e_st (I := eI) (er_ifeq (off := 63) (tg := 178) (x_dk dn_310_0_3_ok 22 rfl) (by decide)) nx_if1))
  (e_Lok (ld_aload_n_1 (x_dk dn_310_0_3_ok 23 rfl)))))))))
def te_310_99 : Nat → eE := (e_T 134 (e_T 126 (e_T 122 (e_T 120 (e_T 119 (e_L 119 (0, ei_push (0, 0) 120, 0, 0)) (e_L 120 (0, ei_ald elay false 121, 0, 0))) (e_T 121 (e_L 121 (0, ei_un (fun x => (4, x)) 122, 0, 0)) (e_L 122 (0, ei_load 1 2 123, 0, 0)))) (e_T 124 (e_T 123 (e_L 123 (0, ei_push (0, 1) 124, 0, 0)) (e_L 124 (0, ei_ald elay false 125, 0, 0))) (e_T 125 (e_L 125 (0, ei_un (fun x => (4, x)) 126, 0, 0)) (e_L 126 (0, ei_load 1 2 127, 0, 0))))) (e_T 130 (e_T 128 (e_T 127 (e_L 127 (0, ei_push (0, 2) 128, 0, 0)) (e_L 128 (0, ei_ald elay false 129, 0, 0))) (e_T 129 (e_L 129 (0, ei_un (fun x => (4, x)) 130, 0, 0)) (e_L 130 (0, ei_load 1 2 131, 0, 0)))) (e_T 132 (e_T 131 (e_L 131 (0, ei_push (0, 3) 132, 0, 0)) (e_L 132 (0, ei_ald elay false 133, 0, 0))) (e_T 133 (e_L 133 (0, ei_un (fun x => (4, x)) 134, 0, 0)) (e_L 134 (0, ei_load 0 2 135, 0, 0)))))) (e_T 142 (e_T 138 (e_T 136 (e_T 135 (e_L 135 (0, ei_push (0, 0) 136, 0, 0)) (e_L 136 (0, ei_ald elay false 137, 0, 0))) (e_T 137 (e_L 137 (0, ei_un (fun x => (4, x)) 138, 0, 0)) (e_L 138 (0, ei_load 0 2 139, 0, 0)))) (e_T 140 (e_T 139 (e_L 139 (0, ei_push (0, 1) 140, 0, 0)) (e_L 140 (0, ei_ald elay false 141, 0, 0))) (e_T 141 (e_L 141 (0, ei_un (fun x => (4, x)) 142, 0, 0)) (e_L 142 (2, e_nof, 308, 6))))) (e_T 148 (e_T 146 (e_T 145 (e_L 145 (0, ei_load 1 2 146, 0, 0)) (e_L 146 (0, ei_push (0, 0) 147, 0, 0))) (e_T 147 (e_L 147 (0, ei_ald elay false 148, 0, 0)) (e_L 148 (0, ei_un (fun x => (4, x)) 149, 0, 0)))) (e_T 150 (e_T 149 (e_L 149 (0, ei_load 1 2 150, 0, 0)) (e_L 150 (0, ei_push (0, 1) 151, 0, 0))) (e_T 151 (e_L 151 (0, ei_ald elay false 152, 0, 0)) (e_T 152 (e_L 152 (0, ei_un (fun x => (4, x)) 153, 0, 0)) (e_L 153 (0, ei_load 1 2 154, 0, 0))))))))
set_option maxRecDepth 20000 in
set_option maxHeartbeats 4000000 in
theorem te_310_99_ok : ∀ pc, e_EOq eft cls elay eI n_310 pc (te_310_99 pc) :=
  (e_Tok2
  (e_Tok2
  (e_Tok2
  (e_Tok2
  (e_Tok2
  (e_Lok (ps_iconst_0 (x_dk dn_310_0_3_ok 24 rfl)))
  (e_Lok (sm_iaload (x_dk dn_310_1_0_ok 0 rfl))))
  (e_Tok2
  (e_Lok (e_st (I := eI) (er_i2l (x_dk dn_310_1_0_ok 1 rfl)) (nx_un (fun _ => rfl))))
  (e_Lok (ld_aload_n_1 (x_dk dn_310_1_0_ok 2 rfl)))))
  (e_Tok2
  (e_Tok2
  (e_Lok (ps_iconst_1 (x_dk dn_310_1_0_ok 3 rfl)))
  (e_Lok (sm_iaload (x_dk dn_310_1_0_ok 4 rfl))))
  (e_Tok2
  (e_Lok (e_st (I := eI) (er_i2l (x_dk dn_310_1_0_ok 5 rfl)) (nx_un (fun _ => rfl))))
  (e_Lok (ld_aload_n_1 (x_dk dn_310_1_0_ok 6 rfl))))))
  (e_Tok2
  (e_Tok2
  (e_Tok2
  (e_Lok (ps_iconst_2 (x_dk dn_310_1_0_ok 7 rfl)))
  (e_Lok (sm_iaload (x_dk dn_310_1_0_ok 8 rfl))))
  (e_Tok2
  (e_Lok (e_st (I := eI) (er_i2l (x_dk dn_310_1_0_ok 9 rfl)) (nx_un (fun _ => rfl))))
  (e_Lok (ld_aload_n_1 (x_dk dn_310_1_0_ok 10 rfl)))))
  (e_Tok2
  (e_Tok2
  (e_Lok (ps_iconst_3 (x_dk dn_310_1_0_ok 11 rfl)))
  (e_Lok (sm_iaload (x_dk dn_310_1_0_ok 12 rfl))))
  (e_Tok2
  (e_Lok (e_st (I := eI) (er_i2l (x_dk dn_310_1_0_ok 13 rfl)) (nx_un (fun _ => rfl))))
  (e_Lok (ld_aload_n_0 (x_dk dn_310_1_0_ok 14 rfl)))))))
  (e_Tok2
  (e_Tok2
  (e_Tok2
  (e_Tok2
  (e_Lok (ps_iconst_0 (x_dk dn_310_1_0_ok 15 rfl)))
  (e_Lok (sm_iaload (x_dk dn_310_1_0_ok 16 rfl))))
  (e_Tok2
  (e_Lok (e_st (I := eI) (er_i2l (x_dk dn_310_1_0_ok 17 rfl)) (nx_un (fun _ => rfl))))
  (e_Lok (ld_aload_n_0 (x_dk dn_310_1_0_ok 18 rfl)))))
  (e_Tok2
  (e_Tok2
  (e_Lok (ps_iconst_1 (x_dk dn_310_1_0_ok 19 rfl)))
  (e_Lok (sm_iaload (x_dk dn_310_1_0_ok 20 rfl))))
  (e_Tok2
  (e_Lok (e_st (I := eI) (er_i2l (x_dk dn_310_1_0_ok 21 rfl)) (nx_un (fun _ => rfl))))
  (e_Lok (lk_12_420 ho_310 (x_dk dn_310_1_0_ok 22 rfl))))))
  (e_Tok2
  (e_Tok2
  (e_Tok2
  (e_Lok (ld_aload_n_1 (x_dk dn_310_1_0_ok 23 rfl)))
  (e_Lok (ps_iconst_0 (x_dk dn_310_1_0_ok 24 rfl))))
  (e_Tok2
  (e_Lok (sm_iaload (x_dk dn_310_1_1_ok 0 rfl)))
  (e_Lok (e_st (I := eI) (er_i2l (x_dk dn_310_1_1_ok 1 rfl)) (nx_un (fun _ => rfl))))))
  (e_Tok2
  (e_Tok2
  (e_Lok (ld_aload_n_1 (x_dk dn_310_1_1_ok 2 rfl)))
  (e_Lok (ps_iconst_1 (x_dk dn_310_1_1_ok 3 rfl))))
  (e_Tok2
  (e_Lok (sm_iaload (x_dk dn_310_1_1_ok 4 rfl)))
  (e_Tok2
  (e_Lok (e_st (I := eI) (er_i2l (x_dk dn_310_1_1_ok 5 rfl)) (nx_un (fun _ => rfl))))
  (e_Lok (ld_aload_n_1 (x_dk dn_310_1_1_ok 6 rfl)))))))))
def te_310_132 : Nat → eE := (e_T 169 (e_T 161 (e_T 157 (e_T 155 (e_T 154 (e_L 154 (0, ei_push (0, 2) 155, 0, 0)) (e_L 155 (0, ei_ald elay false 156, 0, 0))) (e_T 156 (e_L 156 (0, ei_un (fun x => (4, x)) 157, 0, 0)) (e_L 157 (0, ei_load 1 2 158, 0, 0)))) (e_T 159 (e_T 158 (e_L 158 (0, ei_push (0, 3) 159, 0, 0)) (e_L 159 (0, ei_ald elay false 160, 0, 0))) (e_T 160 (e_L 160 (0, ei_un (fun x => (4, x)) 161, 0, 0)) (e_L 161 (0, ei_load 0 2 162, 0, 0))))) (e_T 165 (e_T 163 (e_T 162 (e_L 162 (0, ei_push (0, 2) 163, 0, 0)) (e_L 163 (0, ei_ald elay false 164, 0, 0))) (e_T 164 (e_L 164 (0, ei_un (fun x => (4, x)) 165, 0, 0)) (e_L 165 (0, ei_load 0 2 166, 0, 0)))) (e_T 167 (e_T 166 (e_L 166 (0, ei_push (0, 3) 167, 0, 0)) (e_L 167 (0, ei_ald elay false 168, 0, 0))) (e_T 168 (e_L 168 (0, ei_un (fun x => (4, x)) 169, 0, 0)) (e_L 169 (2, e_nof, 308, 6)))))) (e_T 181 (e_T 177 (e_T 173 (e_T 172 (e_L 172 (0, ei_bin eF_mul 173, 0, 0)) (e_L 173 (0, ei_if1 3 178 176, 0, 0))) (e_T 176 (e_L 176 (0, ei_push (0, 1) 177, 0, 0)) (e_L 177 (1, e_nof, 4, 0)))) (e_T 179 (e_T 178 (e_L 178 (0, ei_load 0 2 179, 0, 0)) (e_L 179 (0, ei_push (0, 0) 180, 0, 0))) (e_T 180 (e_L 180 (0, ei_ald elay false 181, 0, 0)) (e_L 181 (0, ei_un (fun x => (4, x)) 182, 0, 0))))) (e_T 185 (e_T 183 (e_T 182 (e_L 182 (0, ei_load 0 2 183, 0, 0)) (e_L 183 (0, ei_push (0, 1) 184, 0, 0))) (e_T 184 (e_L 184 (0, ei_ald elay false 185, 0, 0)) (e_L 185 (0, ei_un (fun x => (4, x)) 186, 0, 0)))) (e_T 187 (e_T 186 (e_L 186 (0, ei_load 1 2 187, 0, 0)) (e_L 187 (0, ei_push (0, 0) 188, 0, 0))) (e_T 188 (e_L 188 (0, ei_ald elay false 189, 0, 0)) (e_T 189 (e_L 189 (0, ei_un (fun x => (4, x)) 190, 0, 0)) (e_L 190 (0, ei_load 1 2 191, 0, 0))))))))
set_option maxRecDepth 20000 in
set_option maxHeartbeats 4000000 in
theorem te_310_132_ok : ∀ pc, e_EOq eft cls elay eI n_310 pc (te_310_132 pc) :=
  (e_Tok2
  (e_Tok2
  (e_Tok2
  (e_Tok2
  (e_Tok2
  (e_Lok (ps_iconst_2 (x_dk dn_310_1_1_ok 7 rfl)))
  (e_Lok (sm_iaload (x_dk dn_310_1_1_ok 8 rfl))))
  (e_Tok2
  (e_Lok (e_st (I := eI) (er_i2l (x_dk dn_310_1_1_ok 9 rfl)) (nx_un (fun _ => rfl))))
  (e_Lok (ld_aload_n_1 (x_dk dn_310_1_1_ok 10 rfl)))))
  (e_Tok2
  (e_Tok2
  (e_Lok (ps_iconst_3 (x_dk dn_310_1_1_ok 11 rfl)))
  (e_Lok (sm_iaload (x_dk dn_310_1_1_ok 12 rfl))))
  (e_Tok2
  (e_Lok (e_st (I := eI) (er_i2l (x_dk dn_310_1_1_ok 13 rfl)) (nx_un (fun _ => rfl))))
  (e_Lok (ld_aload_n_0 (x_dk dn_310_1_1_ok 14 rfl))))))
  (e_Tok2
  (e_Tok2
  (e_Tok2
  (e_Lok (ps_iconst_2 (x_dk dn_310_1_1_ok 15 rfl)))
  (e_Lok (sm_iaload (x_dk dn_310_1_1_ok 16 rfl))))
  (e_Tok2
  (e_Lok (e_st (I := eI) (er_i2l (x_dk dn_310_1_1_ok 17 rfl)) (nx_un (fun _ => rfl))))
  (e_Lok (ld_aload_n_0 (x_dk dn_310_1_1_ok 18 rfl)))))
  (e_Tok2
  (e_Tok2
  (e_Lok (ps_iconst_3 (x_dk dn_310_1_1_ok 19 rfl)))
  (e_Lok (sm_iaload (x_dk dn_310_1_1_ok 20 rfl))))
  (e_Tok2
  (e_Lok (e_st (I := eI) (er_i2l (x_dk dn_310_1_1_ok 21 rfl)) (nx_un (fun _ => rfl))))
  (e_Lok (lk_12_420 ho_310 (x_dk dn_310_1_1_ok 22 rfl)))))))
  (e_Tok2
  (e_Tok2
  (e_Tok2
  (e_Tok2
  (e_Lok (sm_imul (x_dk dn_310_1_1_ok 23 rfl)))
  (e_Lok (e_st (I := eI) (er_ifge (off := 5) (tg := 178) (x_dk dn_310_1_1_ok 24 rfl) (by decide)) nx_if1)))
  (e_Tok2
  (e_Lok (ps_iconst_1 (x_dk dn_310_1_2_ok 0 rfl)))
  (e_Lok (e_rt (I := eI) (k := 4) ⟨(x_dk dn_310_1_2_ok 1 rfl), rfl⟩))))
  (e_Tok2
  (e_Tok2
  (e_Lok (ld_aload_n_0 (x_dk dn_310_1_2_ok 2 rfl)))
  (e_Lok (ps_iconst_0 (x_dk dn_310_1_2_ok 3 rfl))))
  (e_Tok2
  (e_Lok (sm_iaload (x_dk dn_310_1_2_ok 4 rfl)))
  (e_Lok (e_st (I := eI) (er_i2l (x_dk dn_310_1_2_ok 5 rfl)) (nx_un (fun _ => rfl)))))))
  (e_Tok2
  (e_Tok2
  (e_Tok2
  (e_Lok (ld_aload_n_0 (x_dk dn_310_1_2_ok 6 rfl)))
  (e_Lok (ps_iconst_1 (x_dk dn_310_1_2_ok 7 rfl))))
  (e_Tok2
  (e_Lok (sm_iaload (x_dk dn_310_1_2_ok 8 rfl)))
  (e_Lok (e_st (I := eI) (er_i2l (x_dk dn_310_1_2_ok 9 rfl)) (nx_un (fun _ => rfl))))))
  (e_Tok2
  (e_Tok2
  (e_Lok (ld_aload_n_1 (x_dk dn_310_1_2_ok 10 rfl)))
  (e_Lok (ps_iconst_0 (x_dk dn_310_1_2_ok 11 rfl))))
  (e_Tok2
  (e_Lok (sm_iaload (x_dk dn_310_1_2_ok 12 rfl)))
  (e_Tok2
  (e_Lok (e_st (I := eI) (er_i2l (x_dk dn_310_1_2_ok 13 rfl)) (nx_un (fun _ => rfl))))
  (e_Lok (ld_aload_n_1 (x_dk dn_310_1_2_ok 14 rfl)))))))))
def te_310_165 : Nat → eE := (e_T 210 (e_T 198 (e_T 194 (e_T 192 (e_T 191 (e_L 191 (0, ei_push (0, 1) 192, 0, 0)) (e_L 192 (0, ei_ald elay false 193, 0, 0))) (e_T 193 (e_L 193 (0, ei_un (fun x => (4, x)) 194, 0, 0)) (e_L 194 (0, ei_load 1 2 195, 0, 0)))) (e_T 196 (e_T 195 (e_L 195 (0, ei_push (0, 2) 196, 0, 0)) (e_L 196 (0, ei_ald elay false 197, 0, 0))) (e_T 197 (e_L 197 (0, ei_un (fun x => (4, x)) 198, 0, 0)) (e_L 198 (0, ei_load 1 2 199, 0, 0))))) (e_T 202 (e_T 200 (e_T 199 (e_L 199 (0, ei_push (0, 3) 200, 0, 0)) (e_L 200 (0, ei_ald elay false 201, 0, 0))) (e_T 201 (e_L 201 (0, ei_un (fun x => (4, x)) 202, 0, 0)) (e_L 202 (0, ei_load 2 1 203, 0, 0)))) (e_T 206 (e_T 203 (e_L 203 (2, e_nof, 307, 7)) (e_L 206 (0, ei_if1 1 302 209, 0, 0))) (e_T 209 (e_L 209 (0, ei_load 0 2 210, 0, 0)) (e_L 210 (0, ei_push (0, 2) 211, 0, 0)))))) (e_T 218 (e_T 214 (e_T 212 (e_T 211 (e_L 211 (0, ei_ald elay false 212, 0, 0)) (e_L 212 (0, ei_un (fun x => (4, x)) 213, 0, 0))) (e_T 213 (e_L 213 (0, ei_load 0 2 214, 0, 0)) (e_L 214 (0, ei_push (0, 3) 215, 0, 0)))) (e_T 216 (e_T 215 (e_L 215 (0, ei_ald elay false 216, 0, 0)) (e_L 216 (0, ei_un (fun x => (4, x)) 217, 0, 0))) (e_T 217 (e_L 217 (0, ei_load 1 2 218, 0, 0)) (e_L 218 (0, ei_push (0, 0) 219, 0, 0))))) (e_T 222 (e_T 220 (e_T 219 (e_L 219 (0, ei_ald elay false 220, 0, 0)) (e_L 220 (0, ei_un (fun x => (4, x)) 221, 0, 0))) (e_T 221 (e_L 221 (0, ei_load 1 2 222, 0, 0)) (e_L 222 (0, ei_push (0, 1) 223, 0, 0)))) (e_T 224 (e_T 223 (e_L 223 (0, ei_ald elay false 224, 0, 0)) (e_L 224 (0, ei_un (fun x => (4, x)) 225, 0, 0))) (e_T 225 (e_L 225 (0, ei_load 1 2 226, 0, 0)) (e_T 226 (e_L 226 (0, ei_push (0, 2) 227, 0, 0)) (e_L 227 (0, ei_ald elay false 228, 0, 0))))))))
set_option maxRecDepth 20000 in
set_option maxHeartbeats 4000000 in
theorem te_310_165_ok : ∀ pc, e_EOq eft cls elay eI n_310 pc (te_310_165 pc) :=
  (e_Tok2
  (e_Tok2
  (e_Tok2
  (e_Tok2
  (e_Tok2
  (e_Lok (ps_iconst_1 (x_dk dn_310_1_2_ok 15 rfl)))
  (e_Lok (sm_iaload (x_dk dn_310_1_2_ok 16 rfl))))
  (e_Tok2
  (e_Lok (e_st (I := eI) (er_i2l (x_dk dn_310_1_2_ok 17 rfl)) (nx_un (fun _ => rfl))))
  (e_Lok (ld_aload_n_1 (x_dk dn_310_1_2_ok 18 rfl)))))
  (e_Tok2
  (e_Tok2
  (e_Lok (ps_iconst_2 (x_dk dn_310_1_2_ok 19 rfl)))
  (e_Lok (sm_iaload (x_dk dn_310_1_2_ok 20 rfl))))
  (e_Tok2
  (e_Lok (e_st (I := eI) (er_i2l (x_dk dn_310_1_2_ok 21 rfl)) (nx_un (fun _ => rfl))))
  (e_Lok (ld_aload_n_1 (x_dk dn_310_1_2_ok 22 rfl))))))
  (e_Tok2
  (e_Tok2
  (e_Tok2
  (e_Lok (ps_iconst_3 (x_dk dn_310_1_2_ok 23 rfl)))
  (e_Lok (sm_iaload (x_dk dn_310_1_2_ok 24 rfl))))
  (e_Tok2
  (e_Lok (e_st (I := eI) (er_i2l (x_dk dn_310_1_3_ok 0 rfl)) (nx_un (fun _ => rfl))))
  (e_Lok (ld_lload_n_2 (x_dk dn_310_1_3_ok 1 rfl)))))
  (e_Tok2
  (e_Tok2
  (e_Lok (lk_12_424 ho_310 (x_dk dn_310_1_3_ok 2 rfl)))
  (e_Lok (e_st (I := eI) (er_ifne (off := 96) (tg := 302) (x_dk dn_310_1_3_ok 3 rfl) (by decide)) nx_if1)))
  (e_Tok2
  (e_Lok (ld_aload_n_0 (x_dk dn_310_1_3_ok 4 rfl)))
  (e_Lok (ps_iconst_2 (x_dk dn_310_1_3_ok 5 rfl)))))))
  (e_Tok2
  (e_Tok2
  (e_Tok2
  (e_Tok2
  (e_Lok (sm_iaload (x_dk dn_310_1_3_ok 6 rfl)))
  (e_Lok (e_st (I := eI) (er_i2l (x_dk dn_310_1_3_ok 7 rfl)) (nx_un (fun _ => rfl)))))
  (e_Tok2
  (e_Lok (ld_aload_n_0 (x_dk dn_310_1_3_ok 8 rfl)))
  (e_Lok (ps_iconst_3 (x_dk dn_310_1_3_ok 9 rfl)))))
  (e_Tok2
  (e_Tok2
  (e_Lok (sm_iaload (x_dk dn_310_1_3_ok 10 rfl)))
  (e_Lok (e_st (I := eI) (er_i2l (x_dk dn_310_1_3_ok 11 rfl)) (nx_un (fun _ => rfl)))))
  (e_Tok2
  (e_Lok (ld_aload_n_1 (x_dk dn_310_1_3_ok 12 rfl)))
  (e_Lok (ps_iconst_0 (x_dk dn_310_1_3_ok 13 rfl))))))
  (e_Tok2
  (e_Tok2
  (e_Tok2
  (e_Lok (sm_iaload (x_dk dn_310_1_3_ok 14 rfl)))
  (e_Lok (e_st (I := eI) (er_i2l (x_dk dn_310_1_3_ok 15 rfl)) (nx_un (fun _ => rfl)))))
  (e_Tok2
  (e_Lok (ld_aload_n_1 (x_dk dn_310_1_3_ok 16 rfl)))
  (e_Lok (ps_iconst_1 (x_dk dn_310_1_3_ok 17 rfl)))))
  (e_Tok2
  (e_Tok2
  (e_Lok (sm_iaload (x_dk dn_310_1_3_ok 18 rfl)))
  (e_Lok (e_st (I := eI) (er_i2l (x_dk dn_310_1_3_ok 19 rfl)) (nx_un (fun _ => rfl)))))
  (e_Tok2
  (e_Lok (ld_aload_n_1 (x_dk dn_310_1_3_ok 20 rfl)))
  (e_Tok2
  (e_Lok (ps_iconst_2 (x_dk dn_310_1_3_ok 21 rfl)))
  (e_Lok (sm_iaload (x_dk dn_310_1_3_ok 22 rfl)))))))))
def te_310_198 : Nat → eE := (e_T 247 (e_T 237 (e_T 231 (e_T 229 (e_T 228 (e_L 228 (0, ei_un (fun x => (4, x)) 229, 0, 0)) (e_L 229 (0, ei_load 1 2 230, 0, 0))) (e_T 230 (e_L 230 (0, ei_push (0, 3) 231, 0, 0)) (e_L 231 (0, ei_ald elay false 232, 0, 0)))) (e_T 233 (e_T 232 (e_L 232 (0, ei_un (fun x => (4, x)) 233, 0, 0)) (e_L 233 (0, ei_load 2 1 234, 0, 0))) (e_T 234 (e_L 234 (2, e_nof, 307, 7)) (e_L 237 (0, ei_if1 1 302 240, 0, 0))))) (e_T 243 (e_T 241 (e_T 240 (e_L 240 (0, ei_load 1 2 241, 0, 0)) (e_L 241 (0, ei_push (0, 0) 242, 0, 0))) (e_T 242 (e_L 242 (0, ei_ald elay false 243, 0, 0)) (e_L 243 (0, ei_un (fun x => (4, x)) 244, 0, 0)))) (e_T 245 (e_T 244 (e_L 244 (0, ei_load 1 2 245, 0, 0)) (e_L 245 (0, ei_push (0, 1) 246, 0, 0))) (e_T 246 (e_L 246 (0, ei_ald elay false 247, 0, 0)) (e_L 247 (0, ei_un (fun x => (4, x)) 248, 0, 0)))))) (e_T 255 (e_T 251 (e_T 249 (e_T 248 (e_L 248 (0, ei_load 0 2 249, 0, 0)) (e_L 249 (0, ei_push (0, 0) 250, 0, 0))) (e_T 250 (e_L 250 (0, ei_ald elay false 251, 0, 0)) (e_L 251 (0, ei_un (fun x => (4, x)) 252, 0, 0)))) (e_T 253 (e_T 252 (e_L 252 (0, ei_load 0 2 253, 0, 0)) (e_L 253 (0, ei_push (0, 1) 254, 0, 0))) (e_T 254 (e_L 254 (0, ei_ald elay false 255, 0, 0)) (e_L 255 (0, ei_un (fun x => (4, x)) 256, 0, 0))))) (e_T 259 (e_T 257 (e_T 256 (e_L 256 (0, ei_load 0 2 257, 0, 0)) (e_L 257 (0, ei_push (0, 2) 258, 0, 0))) (e_T 258 (e_L 258 (0, ei_ald elay false 259, 0, 0)) (e_L 259 (0, ei_un (fun x => (4, x)) 260, 0, 0)))) (e_T 261 (e_T 260 (e_L 260 (0, ei_load 0 2 261, 0, 0)) (e_L 261 (0, ei_push (0, 3) 262, 0, 0))) (e_T 262 (e_L 262 (0, ei_ald elay false 263, 0, 0)) (e_T 263 (e_L 263 (0, ei_un (fun x => (4, x)) 264, 0, 0)) (e_L 264 (0, ei_load 2 1 265, 0, 0))))))))
set_option maxRecDepth 20000 in
set_option maxHeartbeats 4000000 in
theorem te_310_198_ok : ∀ pc, e_EOq eft cls elay eI n_310 pc (te_310_198 pc) :=
  (e_Tok2
  (e_Tok2
  (e_Tok2
  (e_Tok2
  (e_Tok2
  (e_Lok (e_st (I := eI) (er_i2l (x_dk dn_310_1_3_ok 23 rfl)) (nx_un (fun _ => rfl))))
  (e_Lok (ld_aload_n_1 (x_dk dn_310_1_3_ok 24 rfl))))
  (e_Tok2
  (e_Lok (ps_iconst_3 (x_dk dn_310_2_0_ok 0 rfl)))
  (e_Lok (sm_iaload (x_dk dn_310_2_0_ok 1 rfl)))))
  (e_Tok2
  (e_Tok2
  (e_Lok (e_st (I := eI) (er_i2l (x_dk dn_310_2_0_ok 2 rfl)) (nx_un (fun _ => rfl))))
  (e_Lok (ld_lload_n_2 (x_dk dn_310_2_0_ok 3 rfl))))
  (e_Tok2
  (e_Lok (lk_12_424 ho_310 (x_dk dn_310_2_0_ok 4 rfl)))
  (e_Lok (e_st (I := eI) (er_ifne (off := 65) (tg := 302) (x_dk dn_310_2_0_ok 5 rfl) (by decide)) nx_if1)))))
  (e_Tok2
  (e_Tok2
  (e_Tok2
  (e_Lok (ld_aload_n_1 (x_dk dn_310_2_0_ok 6 rfl)))
  (e_Lok (ps_iconst_0 (x_dk dn_310_2_0_ok 7 rfl))))
  (e_Tok2
  (e_Lok (sm_iaload (x_dk dn_310_2_0_ok 8 rfl)))
  (e_Lok (e_st (I := eI) (er_i2l (x_dk dn_310_2_0_ok 9 rfl)) (nx_un (fun _ => rfl))))))
  (e_Tok2
  (e_Tok2
  (e_Lok (ld_aload_n_1 (x_dk dn_310_2_0_ok 10 rfl)))
  (e_Lok (ps_iconst_1 (x_dk dn_310_2_0_ok 11 rfl))))
  (e_Tok2
  (e_Lok (sm_iaload (x_dk dn_310_2_0_ok 12 rfl)))
  (e_Lok (e_st (I := eI) (er_i2l (x_dk dn_310_2_0_ok 13 rfl)) (nx_un (fun _ => rfl))))))))
  (e_Tok2
  (e_Tok2
  (e_Tok2
  (e_Tok2
  (e_Lok (ld_aload_n_0 (x_dk dn_310_2_0_ok 14 rfl)))
  (e_Lok (ps_iconst_0 (x_dk dn_310_2_0_ok 15 rfl))))
  (e_Tok2
  (e_Lok (sm_iaload (x_dk dn_310_2_0_ok 16 rfl)))
  (e_Lok (e_st (I := eI) (er_i2l (x_dk dn_310_2_0_ok 17 rfl)) (nx_un (fun _ => rfl))))))
  (e_Tok2
  (e_Tok2
  (e_Lok (ld_aload_n_0 (x_dk dn_310_2_0_ok 18 rfl)))
  (e_Lok (ps_iconst_1 (x_dk dn_310_2_0_ok 19 rfl))))
  (e_Tok2
  (e_Lok (sm_iaload (x_dk dn_310_2_0_ok 20 rfl)))
  (e_Lok (e_st (I := eI) (er_i2l (x_dk dn_310_2_0_ok 21 rfl)) (nx_un (fun _ => rfl)))))))
  (e_Tok2
  (e_Tok2
  (e_Tok2
  (e_Lok (ld_aload_n_0 (x_dk dn_310_2_0_ok 22 rfl)))
  (e_Lok (ps_iconst_2 (x_dk dn_310_2_0_ok 23 rfl))))
  (e_Tok2
  (e_Lok (sm_iaload (x_dk dn_310_2_0_ok 24 rfl)))
  (e_Lok (e_st (I := eI) (er_i2l (x_dk dn_310_2_1_ok 0 rfl)) (nx_un (fun _ => rfl))))))
  (e_Tok2
  (e_Tok2
  (e_Lok (ld_aload_n_0 (x_dk dn_310_2_1_ok 1 rfl)))
  (e_Lok (ps_iconst_3 (x_dk dn_310_2_1_ok 2 rfl))))
  (e_Tok2
  (e_Lok (sm_iaload (x_dk dn_310_2_1_ok 3 rfl)))
  (e_Tok2
  (e_Lok (e_st (I := eI) (er_i2l (x_dk dn_310_2_1_ok 4 rfl)) (nx_un (fun _ => rfl))))
  (e_Lok (ld_lload_n_2 (x_dk dn_310_2_1_ok 5 rfl)))))))))
def te_310_231 : Nat → eE := (e_T 284 (e_T 276 (e_T 272 (e_T 268 (e_T 265 (e_L 265 (2, e_nof, 307, 7)) (e_L 268 (0, ei_if1 1 302 271, 0, 0))) (e_T 271 (e_L 271 (0, ei_load 1 2 272, 0, 0)) (e_L 272 (0, ei_push (0, 2) 273, 0, 0)))) (e_T 274 (e_T 273 (e_L 273 (0, ei_ald elay false 274, 0, 0)) (e_L 274 (0, ei_un (fun x => (4, x)) 275, 0, 0))) (e_T 275 (e_L 275 (0, ei_load 1 2 276, 0, 0)) (e_L 276 (0, ei_push (0, 3) 277, 0, 0))))) (e_T 280 (e_T 278 (e_T 277 (e_L 277 (0, ei_ald elay false 278, 0, 0)) (e_L 278 (0, ei_un (fun x => (4, x)) 279, 0, 0))) (e_T 279 (e_L 279 (0, ei_load 0 2 280, 0, 0)) (e_L 280 (0, ei_push (0, 0) 281, 0, 0)))) (e_T 282 (e_T 281 (e_L 281 (0, ei_ald elay false 282, 0, 0)) (e_L 282 (0, ei_un (fun x => (4, x)) 283, 0, 0))) (e_T 283 (e_L 283 (0, ei_load 0 2 284, 0, 0)) (e_L 284 (0, ei_push (0, 1) 285, 0, 0)))))) (e_T 292 (e_T 288 (e_T 286 (e_T 285 (e_L 285 (0, ei_ald elay false 286, 0, 0)) (e_L 286 (0, ei_un (fun x => (4, x)) 287, 0, 0))) (e_T 287 (e_L 287 (0, ei_load 0 2 288, 0, 0)) (e_L 288 (0, ei_push (0, 2) 289, 0, 0)))) (e_T 290 (e_T 289 (e_L 289 (0, ei_ald elay false 290, 0, 0)) (e_L 290 (0, ei_un (fun x => (4, x)) 291, 0, 0))) (e_T 291 (e_L 291 (0, ei_load 0 2 292, 0, 0)) (e_L 292 (0, ei_push (0, 3) 293, 0, 0))))) (e_T 296 (e_T 294 (e_T 293 (e_L 293 (0, ei_ald elay false 294, 0, 0)) (e_L 294 (0, ei_un (fun x => (4, x)) 295, 0, 0))) (e_T 295 (e_L 295 (0, ei_load 2 1 296, 0, 0)) (e_L 296 (2, e_nof, 307, 7)))) (e_T 302 (e_T 299 (e_L 299 (0, ei_if1 0 306 302, 0, 0)) (e_L 302 (0, ei_push (0, 1) 303, 0, 0))) (e_T 303 (e_L 303 (0, ei_goto 307, 0, 0)) (e_T 306 (e_L 306 (0, ei_push (0, 0) 307, 0, 0)) (e_L 307 (1, e_nof, 4, 0))))))))
set_option maxRecDepth 20000 in
set_option maxHeartbeats 4000000 in
theorem te_310_231_ok : ∀ pc, e_EOq eft cls elay eI n_310 pc (te_310_231 pc) :=
  (e_Tok2
  (e_Tok2
  (e_Tok2
  (e_Tok2
  (e_Tok2
  (e_Lok (lk_12_424 ho_310 (x_dk dn_310_2_1_ok 6 rfl)))
  (e_Lok (e_st (I := eI) (er_ifne (off := 34) (tg := 302) (x_dk dn_310_2_1_ok 7 rfl) (by decide)) nx_if1)))
  (e_Tok2
  (e_Lok (ld_aload_n_1 (x_dk dn_310_2_1_ok 8 rfl)))
  (e_Lok (ps_iconst_2 (x_dk dn_310_2_1_ok 9 rfl)))))
  (e_Tok2
  (e_Tok2
  (e_Lok (sm_iaload (x_dk dn_310_2_1_ok 10 rfl)))
  (e_Lok (e_st (I := eI) (er_i2l (x_dk dn_310_2_1_ok 11 rfl)) (nx_un (fun _ => rfl)))))
  (e_Tok2
  (e_Lok (ld_aload_n_1 (x_dk dn_310_2_1_ok 12 rfl)))
  (e_Lok (ps_iconst_3 (x_dk dn_310_2_1_ok 13 rfl))))))
  (e_Tok2
  (e_Tok2
  (e_Tok2
  (e_Lok (sm_iaload (x_dk dn_310_2_1_ok 14 rfl)))
  (e_Lok (e_st (I := eI) (er_i2l (x_dk dn_310_2_1_ok 15 rfl)) (nx_un (fun _ => rfl)))))
  (e_Tok2
  (e_Lok (ld_aload_n_0 (x_dk dn_310_2_1_ok 16 rfl)))
  (e_Lok (ps_iconst_0 (x_dk dn_310_2_1_ok 17 rfl)))))
  (e_Tok2
  (e_Tok2
  (e_Lok (sm_iaload (x_dk dn_310_2_1_ok 18 rfl)))
  (e_Lok (e_st (I := eI) (er_i2l (x_dk dn_310_2_1_ok 19 rfl)) (nx_un (fun _ => rfl)))))
  (e_Tok2
  (e_Lok (ld_aload_n_0 (x_dk dn_310_2_1_ok 20 rfl)))
  (e_Lok (ps_iconst_1 (x_dk dn_310_2_1_ok 21 rfl)))))))
  (e_Tok2
  (e_Tok2
  (e_Tok2
  (e_Tok2
  (e_Lok (sm_iaload (x_dk dn_310_2_1_ok 22 rfl)))
  (e_Lok (e_st (I := eI) (er_i2l (x_dk dn_310_2_1_ok 23 rfl)) (nx_un (fun _ => rfl)))))
  (e_Tok2
  (e_Lok (ld_aload_n_0 (x_dk dn_310_2_1_ok 24 rfl)))
  (e_Lok (ps_iconst_2 (x_dk dn_310_2_2_ok 0 rfl)))))
  (e_Tok2
  (e_Tok2
  (e_Lok (sm_iaload (x_dk dn_310_2_2_ok 1 rfl)))
  (e_Lok (e_st (I := eI) (er_i2l (x_dk dn_310_2_2_ok 2 rfl)) (nx_un (fun _ => rfl)))))
  (e_Tok2
  (e_Lok (ld_aload_n_0 (x_dk dn_310_2_2_ok 3 rfl)))
  (e_Lok (ps_iconst_3 (x_dk dn_310_2_2_ok 4 rfl))))))
  (e_Tok2
  (e_Tok2
  (e_Tok2
  (e_Lok (sm_iaload (x_dk dn_310_2_2_ok 5 rfl)))
  (e_Lok (e_st (I := eI) (er_i2l (x_dk dn_310_2_2_ok 6 rfl)) (nx_un (fun _ => rfl)))))
  (e_Tok2
  (e_Lok (ld_lload_n_2 (x_dk dn_310_2_2_ok 7 rfl)))
  (e_Lok (lk_12_424 ho_310 (x_dk dn_310_2_2_ok 8 rfl)))))
  (e_Tok2
  (e_Tok2
  (e_Lok (e_st (I := eI) (er_ifeq (off := 7) (tg := 306) (x_dk dn_310_2_2_ok 9 rfl) (by decide)) nx_if1))
  (e_Lok (ps_iconst_1 (x_dk dn_310_2_2_ok 10 rfl))))
  (e_Tok2
  (e_Lok (e_st (I := eI) (er_goto (off := 4) (tg := 307) (x_dk dn_310_2_2_ok 11 rfl) (by decide)) nx_goto))
  (e_Tok2
  (e_Lok (ps_iconst_0 (x_dk dn_310_2_2_ok 12 rfl)))
  (e_Lok (e_rt (I := eI) (k := 4) ⟨(x_dk dn_310_2_2_ok 13 rfl), rfl⟩))))))))
def te_310 : Nat → eE := (e_T 153 (e_T 75 (e_T 36 te_310_0 te_310_33) (e_T 118 te_310_66 te_310_99)) (e_T 227 (e_T 190 te_310_132 te_310_165) (e_T 264 te_310_198 te_310_231)))
theorem te_310_ok : ∀ pc, e_EOq eft cls elay eI n_310 pc (te_310 pc) := (e_Tok2 ((e_Tok2 ((e_Tok2 (te_310_0_ok) (te_310_33_ok))) ((e_Tok2 (te_310_66_ok) (te_310_99_ok))))) ((e_Tok2 ((e_Tok2 (te_310_132_ok) (te_310_165_ok))) ((e_Tok2 (te_310_198_ok) (te_310_231_ok))))))
theorem ho_311 : (xm_y n_311).cls = "RobotCellHouseModel" := rfl
def dn_311_0_0 : List (Nat × Instr × Nat) := [(0, .aload_n 1, 1), (1, .iconst 0, 1), (2, .iload_n 2, 1), (3, .iastore, 1), (4, .aload_n 1, 1), (5, .iconst 1, 1), (6, .iload_n 3, 1), (7, .iastore, 1), (8, .aload_n 1, 1), (9, .iconst 2, 1), (10, .iload 4, 2), (12, .iastore, 1), (13, .aload_n 1, 1), (14, .iconst 3, 1), (15, .iload 5, 2), (17, .iastore, 1), (18, .return_, 1)]
set_option maxRecDepth 20000 in
theorem dn_311_0_0_ok : dn_311_0_0.all (fun q => decide (decode (xm_b n_311) q.1 = .ok (q.2.1, q.2.2))) = true := xa_g_ok (by decide +kernel)
def te_311_0 : Nat → eE := (e_T 7 (e_T 3 (e_T 1 (e_T 0 (e_L 0 (0, ei_load 1 2 1, 0, 0)) (e_L 1 (0, ei_push (0, 0) 2, 0, 0))) (e_T 2 (e_L 2 (0, ei_load 2 0 3, 0, 0)) (e_L 3 (0, ei_ast elay false 4, 0, 0)))) (e_T 5 (e_T 4 (e_L 4 (0, ei_load 1 2 5, 0, 0)) (e_L 5 (0, ei_push (0, 1) 6, 0, 0))) (e_T 6 (e_L 6 (0, ei_load 3 0 7, 0, 0)) (e_L 7 (0, ei_ast elay false 8, 0, 0))))) (e_T 12 (e_T 9 (e_T 8 (e_L 8 (0, ei_load 1 2 9, 0, 0)) (e_L 9 (0, ei_push (0, 2) 10, 0, 0))) (e_T 10 (e_L 10 (0, ei_load 4 0 12, 0, 0)) (e_L 12 (0, ei_ast elay false 13, 0, 0)))) (e_T 14 (e_T 13 (e_L 13 (0, ei_load 1 2 14, 0, 0)) (e_L 14 (0, ei_push (0, 3) 15, 0, 0))) (e_T 15 (e_L 15 (0, ei_load 5 0 17, 0, 0)) (e_T 17 (e_L 17 (0, ei_ast elay false 18, 0, 0)) (e_L 18 (1, e_nof, 0, 0)))))))
set_option maxRecDepth 20000 in
set_option maxHeartbeats 4000000 in
theorem te_311_0_ok : ∀ pc, e_EOq eft cls elay eI n_311 pc (te_311_0 pc) :=
  (e_Tok2
  (e_Tok2
  (e_Tok2
  (e_Tok2
  (e_Lok (ld_aload_n_1 (x_dk dn_311_0_0_ok 0 rfl)))
  (e_Lok (ps_iconst_0 (x_dk dn_311_0_0_ok 1 rfl))))
  (e_Tok2
  (e_Lok (ld_iload_n_2 (x_dk dn_311_0_0_ok 2 rfl)))
  (e_Lok (sm_iastore (x_dk dn_311_0_0_ok 3 rfl)))))
  (e_Tok2
  (e_Tok2
  (e_Lok (ld_aload_n_1 (x_dk dn_311_0_0_ok 4 rfl)))
  (e_Lok (ps_iconst_1 (x_dk dn_311_0_0_ok 5 rfl))))
  (e_Tok2
  (e_Lok (ld_iload_n_3 (x_dk dn_311_0_0_ok 6 rfl)))
  (e_Lok (sm_iastore (x_dk dn_311_0_0_ok 7 rfl))))))
  (e_Tok2
  (e_Tok2
  (e_Tok2
  (e_Lok (ld_aload_n_1 (x_dk dn_311_0_0_ok 8 rfl)))
  (e_Lok (ps_iconst_2 (x_dk dn_311_0_0_ok 9 rfl))))
  (e_Tok2
  (e_Lok (ld_iload_4 (x_dk dn_311_0_0_ok 10 rfl)))
  (e_Lok (sm_iastore (x_dk dn_311_0_0_ok 11 rfl)))))
  (e_Tok2
  (e_Tok2
  (e_Lok (ld_aload_n_1 (x_dk dn_311_0_0_ok 12 rfl)))
  (e_Lok (ps_iconst_3 (x_dk dn_311_0_0_ok 13 rfl))))
  (e_Tok2
  (e_Lok (ld_iload_5 (x_dk dn_311_0_0_ok 14 rfl)))
  (e_Tok2
  (e_Lok (sm_iastore (x_dk dn_311_0_0_ok 15 rfl)))
  (e_Lok (e_rt (I := eI) (k := 0) ⟨(x_dk dn_311_0_0_ok 16 rfl), rfl⟩)))))))
def te_311 : Nat → eE := te_311_0
theorem te_311_ok : ∀ pc, e_EOq eft cls elay eI n_311 pc (te_311 pc) := te_311_0_ok
end
end
-- part 41aw
section
noncomputable section
theorem ho_312 : (xm_y n_312).cls = "RobotCellHouseModel" := rfl
def dn_312_0_0 : List (Nat × Instr × Nat) := [(0, .aload_n 0, 1), (1, .aload_n 1, 1), (2, .aload_n 0, 1), (3, .getfield 149, 3), (6, .aload_n 0, 1), (7, .getfield 404, 3), (10, .iaload, 1), (11, .aload_n 0, 1), (12, .getfield 152, 3), (15, .aload_n 0, 1), (16, .getfield 404, 3), (19, .iaload, 1), (20, .aload_n 0, 1), (21, .getfield 149, 3), (24, .aload_n 0, 1), (25, .getfield 407, 3), (28, .iaload, 1), (29, .aload_n 0, 1), (30, .getfield 152, 3), (33, .aload_n 0, 1), (34, .getfield 407, 3), (37, .iaload, 1), (38, .invokevirtual 428, 3), (41, .return_, 1)]
set_option maxRecDepth 20000 in
theorem dn_312_0_0_ok : dn_312_0_0.all (fun q => decide (decode (xm_b n_312) q.1 = .ok (q.2.1, q.2.2))) = true := xa_g_ok (by decide +kernel)
def te_312_0 : Nat → eE := (e_T 19 (e_T 7 (e_T 2 (e_T 0 (e_L 0 (0, ei_load 0 2 1, 0, 0)) (e_T 1 (e_L 1 (0, ei_load 1 2 2, 0, 0)) (e_L 2 (0, ei_load 0 2 3, 0, 0)))) (e_T 3 (e_L 3 (0, ei_getf eft elay 12 55 6, 0, 0)) (e_T 6 (e_L 6 (0, ei_load 0 2 7, 0, 0)) (e_L 7 (0, ei_getf eft elay 12 58 10, 0, 0))))) (e_T 12 (e_T 10 (e_L 10 (0, ei_ald elay false 11, 0, 0)) (e_T 11 (e_L 11 (0, ei_load 0 2 12, 0, 0)) (e_L 12 (0, ei_getf eft elay 12 56 15, 0, 0)))) (e_T 15 (e_L 15 (0, ei_load 0 2 16, 0, 0)) (e_T 16 (e_L 16 (0, ei_getf eft elay 12 58 19, 0, 0)) (e_L 19 (0, ei_ald elay false 20, 0, 0)))))) (e_T 29 (e_T 24 (e_T 20 (e_L 20 (0, ei_load 0 2 21, 0, 0)) (e_T 21 (e_L 21 (0, ei_getf eft elay 12 55 24, 0, 0)) (e_L 24 (0, ei_load 0 2 25, 0, 0)))) (e_T 25 (e_L 25 (0, ei_getf eft elay 12 59 28, 0, 0)) (e_T 28 (e_L 28 (0, ei_ald elay false 29, 0, 0)) (e_L 29 (0, ei_load 0 2 30, 0, 0))))) (e_T 34 (e_T 30 (e_L 30 (0, ei_getf eft elay 12 56 33, 0, 0)) (e_T 33 (e_L 33 (0, ei_load 0 2 34, 0, 0)) (e_L 34 (0, ei_getf eft elay 12 59 37, 0, 0)))) (e_T 37 (e_L 37 (0, ei_ald elay false 38, 0, 0)) (e_T 38 (e_L 38 (2, e_nof, 311, 6)) (e_L 41 (1, e_nof, 0, 0)))))))
set_option maxRecDepth 20000 in
set_option maxHeartbeats 4000000 in
theorem te_312_0_ok : ∀ pc, e_EOq eft cls elay eI n_312 pc (te_312_0 pc) :=
  (e_Tok2
  (e_Tok2
  (e_Tok2
  (e_Tok2
  (e_Lok (ld_aload_n_0 (x_dk dn_312_0_0_ok 0 rfl)))
  (e_Tok2
  (e_Lok (ld_aload_n_1 (x_dk dn_312_0_0_ok 1 rfl)))
  (e_Lok (ld_aload_n_0 (x_dk dn_312_0_0_ok 2 rfl)))))
  (e_Tok2
  (e_Lok (lk_12_149g ho_312 (x_dk dn_312_0_0_ok 3 rfl)))
  (e_Tok2
  (e_Lok (ld_aload_n_0 (x_dk dn_312_0_0_ok 4 rfl)))
  (e_Lok (lk_12_404g ho_312 (x_dk dn_312_0_0_ok 5 rfl))))))
  (e_Tok2
  (e_Tok2
  (e_Lok (sm_iaload (x_dk dn_312_0_0_ok 6 rfl)))
  (e_Tok2
  (e_Lok (ld_aload_n_0 (x_dk dn_312_0_0_ok 7 rfl)))
  (e_Lok (lk_12_152g ho_312 (x_dk dn_312_0_0_ok 8 rfl)))))
  (e_Tok2
  (e_Lok (ld_aload_n_0 (x_dk dn_312_0_0_ok 9 rfl)))
  (e_Tok2
  (e_Lok (lk_12_404g ho_312 (x_dk dn_312_0_0_ok 10 rfl)))
  (e_Lok (sm_iaload (x_dk dn_312_0_0_ok 11 rfl)))))))
  (e_Tok2
  (e_Tok2
  (e_Tok2
  (e_Lok (ld_aload_n_0 (x_dk dn_312_0_0_ok 12 rfl)))
  (e_Tok2
  (e_Lok (lk_12_149g ho_312 (x_dk dn_312_0_0_ok 13 rfl)))
  (e_Lok (ld_aload_n_0 (x_dk dn_312_0_0_ok 14 rfl)))))
  (e_Tok2
  (e_Lok (lk_12_407g ho_312 (x_dk dn_312_0_0_ok 15 rfl)))
  (e_Tok2
  (e_Lok (sm_iaload (x_dk dn_312_0_0_ok 16 rfl)))
  (e_Lok (ld_aload_n_0 (x_dk dn_312_0_0_ok 17 rfl))))))
  (e_Tok2
  (e_Tok2
  (e_Lok (lk_12_152g ho_312 (x_dk dn_312_0_0_ok 18 rfl)))
  (e_Tok2
  (e_Lok (ld_aload_n_0 (x_dk dn_312_0_0_ok 19 rfl)))
  (e_Lok (lk_12_407g ho_312 (x_dk dn_312_0_0_ok 20 rfl)))))
  (e_Tok2
  (e_Lok (sm_iaload (x_dk dn_312_0_0_ok 21 rfl)))
  (e_Tok2
  (e_Lok (lk_12_428 ho_312 (x_dk dn_312_0_0_ok 22 rfl)))
  (e_Lok (e_rt (I := eI) (k := 0) ⟨(x_dk dn_312_0_0_ok 23 rfl), rfl⟩)))))))
def te_312 : Nat → eE := te_312_0
theorem te_312_ok : ∀ pc, e_EOq eft cls elay eI n_312 pc (te_312 pc) := te_312_0_ok
theorem ho_313 : (xm_y n_313).cls = "RobotCellHouseModel" := rfl
def dn_313_0_0 : List (Nat × Instr × Nat) := [(0, .aload_n 0, 1), (1, .iload_n 1, 1), (2, .iload_n 2, 1), (3, .iload_n 3, 1), (4, .invokevirtual 432, 3), (7, .aload_n 0, 1), (8, .aload_n 0, 1), (9, .getfield 158, 3), (12, .invokevirtual 435, 3), (15, .aload_n 0, 1), (16, .getfield 410, 3), (19, .istore 8, 2), (21, .aload_n 0, 1), (22, .iload 4, 2), (24, .iload 5, 2), (26, .iload 6, 2), (28, .invokevirtual 432, 3), (31, .aload_n 0, 1), (32, .aload_n 0, 1), (33, .getfield 161, 3), (36, .invokevirtual 435, 3), (39, .aload_n 0, 1), (40, .getfield 158, 3), (43, .aload_n 0, 1), (44, .getfield 161, 3)]
set_option maxRecDepth 20000 in
theorem dn_313_0_0_ok : dn_313_0_0.all (fun q => decide (decode (xm_b n_313) q.1 = .ok (q.2.1, q.2.2))) = true := xa_g_ok (by decide +kernel)
def dn_313_0_1 : List (Nat × Instr × Nat) := [(47, .iload 8, 2), (49, .aload_n 0, 1), (50, .getfield 410, 3), (53, .iadd, 1), (54, .iload 7, 2), (56, .iadd, 1), (57, .i2l, 1), (58, .invokestatic 439, 3), (61, .ireturn, 1)]
set_option maxRecDepth 20000 in
theorem dn_313_0_1_ok : dn_313_0_1.all (fun q => decide (decode (xm_b n_313) q.1 = .ok (q.2.1, q.2.2))) = true := xa_g_ok (by decide +kernel)
def te_313_0 : Nat → eE := (e_T 28 (e_T 9 (e_T 3 (e_T 1 (e_T 0 (e_L 0 (0, ei_load 0 2 1, 0, 0)) (e_L 1 (0, ei_load 1 0 2, 0, 0))) (e_T 2 (e_L 2 (0, ei_load 2 0 3, 0, 0)) (e_L 3 (0, ei_load 3 0 4, 0, 0)))) (e_T 7 (e_T 4 (e_L 4 (2, e_nof, 305, 4)) (e_L 7 (0, ei_load 0 2 8, 0, 0))) (e_T 8 (e_L 8 (0, ei_load 0 2 9, 0, 0)) (e_L 9 (0, ei_getf eft elay 12 61 12, 0, 0))))) (e_T 19 (e_T 15 (e_T 12 (e_L 12 (2, e_nof, 312, 2)) (e_L 15 (0, ei_load 0 2 16, 0, 0))) (e_T 16 (e_L 16 (0, ei_getf eft elay 12 60 19, 0, 0)) (e_L 19 (0, ei_stor 8 0 21, 0, 0)))) (e_T 22 (e_T 21 (e_L 21 (0, ei_load 0 2 22, 0, 0)) (e_L 22 (0, ei_load 4 0 24, 0, 0))) (e_T 24 (e_L 24 (0, ei_load 5 0 26, 0, 0)) (e_T 26 (e_L 26 (0, ei_load 6 0 28, 0, 0)) (e_L 28 (2, e_nof, 305, 4))))))) (e_T 44 (e_T 36 (e_T 32 (e_T 31 (e_L 31 (0, ei_load 0 2 32, 0, 0)) (e_L 32 (0, ei_load 0 2 33, 0, 0))) (e_T 33 (e_L 33 (0, ei_getf eft elay 12 62 36, 0, 0)) (e_L 36 (2, e_nof, 312, 2)))) (e_T 40 (e_T 39 (e_L 39 (0, ei_load 0 2 40, 0, 0)) (e_L 40 (0, ei_getf eft elay 12 61 43, 0, 0))) (e_T 43 (e_L 43 (0, ei_load 0 2 44, 0, 0)) (e_L 44 (0, ei_getf eft elay 12 62 47, 0, 0))))) (e_T 53 (e_T 49 (e_T 47 (e_L 47 (0, ei_load 8 0 49, 0, 0)) (e_L 49 (0, ei_load 0 2 50, 0, 0))) (e_T 50 (e_L 50 (0, ei_getf eft elay 12 60 53, 0, 0)) (e_L 53 (0, ei_bin eF_add 54, 0, 0)))) (e_T 56 (e_T 54 (e_L 54 (0, ei_load 7 0 56, 0, 0)) (e_L 56 (0, ei_bin eF_add 57, 0, 0))) (e_T 57 (e_L 57 (0, ei_un (fun x => (4, x)) 58, 0, 0)) (e_T 58 (e_L 58 (2, e_nof, 310, 3)) (e_L 61 (1, e_nof, 4, 0))))))))
set_option maxRecDepth 20000 in
set_option maxHeartbeats 4000000 in
theorem te_313_0_ok : ∀ pc, e_EOq eft cls elay eI n_313 pc (te_313_0 pc) :=
  (e_Tok2
  (e_Tok2
  (e_Tok2
  (e_Tok2
  (e_Tok2
  (e_Lok (ld_aload_n_0 (x_dk dn_313_0_0_ok 0 rfl)))
  (e_Lok (ld_iload_n_1 (x_dk dn_313_0_0_ok 1 rfl))))
  (e_Tok2
  (e_Lok (ld_iload_n_2 (x_dk dn_313_0_0_ok 2 rfl)))
  (e_Lok (ld_iload_n_3 (x_dk dn_313_0_0_ok 3 rfl)))))
  (e_Tok2
  (e_Tok2
  (e_Lok (lk_12_432 ho_313 (x_dk dn_313_0_0_ok 4 rfl)))
  (e_Lok (ld_aload_n_0 (x_dk dn_313_0_0_ok 5 rfl))))
  (e_Tok2
  (e_Lok (ld_aload_n_0 (x_dk dn_313_0_0_ok 6 rfl)))
  (e_Lok (lk_12_158g ho_313 (x_dk dn_313_0_0_ok 7 rfl))))))
  (e_Tok2
  (e_Tok2
  (e_Tok2
  (e_Lok (lk_12_435 ho_313 (x_dk dn_313_0_0_ok 8 rfl)))
  (e_Lok (ld_aload_n_0 (x_dk dn_313_0_0_ok 9 rfl))))
  (e_Tok2
  (e_Lok (lk_12_410g ho_313 (x_dk dn_313_0_0_ok 10 rfl)))
  (e_Lok (e_st (I := eI) (er_istore (i := 8) (x_dk dn_313_0_0_ok 11 rfl) (by decide +kernel)) nx_stor))))
  (e_Tok2
  (e_Tok2
  (e_Lok (ld_aload_n_0 (x_dk dn_313_0_0_ok 12 rfl)))
  (e_Lok (ld_iload_4 (x_dk dn_313_0_0_ok 13 rfl))))
  (e_Tok2
  (e_Lok (ld_iload_5 (x_dk dn_313_0_0_ok 14 rfl)))
  (e_Tok2
  (e_Lok (ld_iload_6 (x_dk dn_313_0_0_ok 15 rfl)))
  (e_Lok (lk_12_432 ho_313 (x_dk dn_313_0_0_ok 16 rfl))))))))
  (e_Tok2
  (e_Tok2
  (e_Tok2
  (e_Tok2
  (e_Lok (ld_aload_n_0 (x_dk dn_313_0_0_ok 17 rfl)))
  (e_Lok (ld_aload_n_0 (x_dk dn_313_0_0_ok 18 rfl))))
  (e_Tok2
  (e_Lok (lk_12_161g ho_313 (x_dk dn_313_0_0_ok 19 rfl)))
  (e_Lok (lk_12_435 ho_313 (x_dk dn_313_0_0_ok 20 rfl)))))
  (e_Tok2
  (e_Tok2
  (e_Lok (ld_aload_n_0 (x_dk dn_313_0_0_ok 21 rfl)))
  (e_Lok (lk_12_158g ho_313 (x_dk dn_313_0_0_ok 22 rfl))))
  (e_Tok2
  (e_Lok (ld_aload_n_0 (x_dk dn_313_0_0_ok 23 rfl)))
  (e_Lok (lk_12_161g ho_313 (x_dk dn_313_0_0_ok 24 rfl))))))
  (e_Tok2
  (e_Tok2
  (e_Tok2
  (e_Lok (ld_iload_8 (x_dk dn_313_0_1_ok 0 rfl)))
  (e_Lok (ld_aload_n_0 (x_dk dn_313_0_1_ok 1 rfl))))
  (e_Tok2
  (e_Lok (lk_12_410g ho_313 (x_dk dn_313_0_1_ok 2 rfl)))
  (e_Lok (sm_iadd (x_dk dn_313_0_1_ok 3 rfl)))))
  (e_Tok2
  (e_Tok2
  (e_Lok (ld_iload_7 (x_dk dn_313_0_1_ok 4 rfl)))
  (e_Lok (sm_iadd (x_dk dn_313_0_1_ok 5 rfl))))
  (e_Tok2
  (e_Lok (e_st (I := eI) (er_i2l (x_dk dn_313_0_1_ok 6 rfl)) (nx_un (fun _ => rfl))))
  (e_Tok2
  (e_Lok (lk_12_439 ho_313 (x_dk dn_313_0_1_ok 7 rfl)))
  (e_Lok (e_rt (I := eI) (k := 4) ⟨(x_dk dn_313_0_1_ok 8 rfl), rfl⟩))))))))
def te_313 : Nat → eE := te_313_0
theorem te_313_ok : ∀ pc, e_EOq eft cls elay eI n_313 pc (te_313 pc) := te_313_0_ok
theorem ho_314 : (xm_y n_314).cls = "RobotCellHouseModel" := rfl
def dn_314_0_0 : List (Nat × Instr × Nat) := [(0, .aload_n 0, 1), (1, .iload_n 1, 1), (2, .iload_n 2, 1), (3, .iload_n 3, 1), (4, .invokevirtual 432, 3), (7, .aload_n 0, 1), (8, .aload_n 0, 1), (9, .getfield 158, 3), (12, .invokevirtual 435, 3), (15, .aload_n 0, 1), (16, .getfield 410, 3), (19, .iload 5, 2), (21, .iadd, 1), (22, .i2l, 1), (23, .lstore 6, 2), (25, .aload_n 0, 1), (26, .getfield 67, 3), (29, .iload 4, 2), (31, .baload, 1), (32, .ifCond .ne 176, 3), (35, .aload_n 0, 1), (36, .getfield 71, 3), (39, .iload 4, 2), (41, .iaload, 1), (42, .i2l, 1)]
set_option maxRecDepth 20000 in
theorem dn_314_0_0_ok : dn_314_0_0.all (fun q => decide (decode (xm_b n_314) q.1 = .ok (q.2.1, q.2.2))) = true := xa_g_ok (by decide +kernel)
def dn_314_0_1 : List (Nat × Instr × Nat) := [(43, .aload_n 0, 1), (44, .getfield 71, 3), (47, .iload 4, 2), (49, .iaload, 1), (50, .i2l, 1), (51, .aload_n 0, 1), (52, .getfield 158, 3), (55, .iconst 0, 1), (56, .iaload, 1), (57, .i2l, 1), (58, .aload_n 0, 1), (59, .getfield 158, 3), (62, .iconst 2, 1), (63, .iaload, 1), (64, .i2l, 1), (65, .lload 6, 2), (67, .aload_n 0, 1), (68, .getfield 77, 3), (71, .iload 4, 2), (73, .iaload, 1), (74, .i2l, 1), (75, .ladd, 1), (76, .invokestatic 416, 3), (79, .ifCond .ne 50, 3), (82, .aload_n 0, 1)]
set_option maxRecDepth 20000 in
theorem dn_314_0_1_ok : dn_314_0_1.all (fun q => decide (decode (xm_b n_314) q.1 = .ok (q.2.1, q.2.2))) = true := xa_g_ok (by decide +kernel)
def dn_314_0_2 : List (Nat × Instr × Nat) := [(83, .getfield 74, 3), (86, .iload 4, 2), (88, .iaload, 1), (89, .i2l, 1), (90, .aload_n 0, 1), (91, .getfield 74, 3), (94, .iload 4, 2), (96, .iaload, 1), (97, .i2l, 1), (98, .aload_n 0, 1), (99, .getfield 158, 3), (102, .iconst 1, 1), (103, .iaload, 1), (104, .i2l, 1), (105, .aload_n 0, 1), (106, .getfield 158, 3), (109, .iconst 3, 1), (110, .iaload, 1), (111, .i2l, 1), (112, .lload 6, 2), (114, .aload_n 0, 1), (115, .getfield 77, 3), (118, .iload 4, 2), (120, .iaload, 1), (121, .i2l, 1)]
set_option maxRecDepth 20000 in
theorem dn_314_0_2_ok : dn_314_0_2.all (fun q => decide (decode (xm_b n_314) q.1 = .ok (q.2.1, q.2.2))) = true := xa_g_ok (by decide +kernel)
def dn_314_0_3 : List (Nat × Instr × Nat) := [(122, .ladd, 1), (123, .invokestatic 416, 3), (126, .ifCond .eq 7, 3), (129, .iconst 1, 1), (130, .goto 4, 3), (133, .iconst 0, 1), (134, .istore 8, 2), (136, .iload 8, 2), (138, .ifCond .ne 68, 3), (141, .aload_n 0, 1), (142, .getfield 71, 3), (145, .iload 4, 2), (147, .iaload, 1), (148, .i2l, 1), (149, .aload_n 0, 1), (150, .getfield 74, 3), (153, .iload 4, 2), (155, .iaload, 1), (156, .i2l, 1), (157, .aload_n 0, 1), (158, .getfield 158, 3), (161, .iconst 0, 1), (162, .iaload, 1), (163, .i2l, 1), (164, .aload_n 0, 1)]
set_option maxRecDepth 20000 in
theorem dn_314_0_3_ok : dn_314_0_3.all (fun q => decide (decode (xm_b n_314) q.1 = .ok (q.2.1, q.2.2))) = true := xa_g_ok (by decide +kernel)
def dn_314_1_0 : List (Nat × Instr × Nat) := [(165, .getfield 158, 3), (168, .iconst 1, 1), (169, .iaload, 1), (170, .i2l, 1), (171, .aload_n 0, 1), (172, .getfield 158, 3), (175, .iconst 2, 1), (176, .iaload, 1), (177, .i2l, 1), (178, .aload_n 0, 1), (179, .getfield 158, 3), (182, .iconst 3, 1), (183, .iaload, 1), (184, .i2l, 1), (185, .lload 6, 2), (187, .aload_n 0, 1), (188, .getfield 77, 3), (191, .iload 4, 2), (193, .iaload, 1), (194, .i2l, 1), (195, .ladd, 1), (196, .invokestatic 424, 3), (199, .ifCond .eq 7, 3), (202, .iconst 1, 1), (203, .goto 4, 3)]
set_option maxRecDepth 20000 in
theorem dn_314_1_0_ok : dn_314_1_0.all (fun q => decide (decode (xm_b n_314) q.1 = .ok (q.2.1, q.2.2))) = true := xa_g_ok (by decide +kernel)
def dn_314_1_1 : List (Nat × Instr × Nat) := [(206, .iconst 0, 1), (207, .ireturn, 1), (208, .aload_n 0, 1), (209, .getfield 71, 3), (212, .iload 4, 2), (214, .iaload, 1), (215, .istore 8, 2), (217, .aload_n 0, 1), (218, .getfield 74, 3), (221, .iload 4, 2), (223, .iaload, 1), (224, .istore 9, 2), (226, .iload 8, 2), (228, .aload_n 0, 1), (229, .getfield 77, 3), (232, .iload 4, 2), (234, .iaload, 1), (235, .iadd, 1), (236, .istore 10, 2), (238, .iload 9, 2), (240, .aload_n 0, 1), (241, .getfield 80, 3), (244, .iload 4, 2), (246, .iaload, 1), (247, .iadd, 1)]
set_option maxRecDepth 20000 in
theorem dn_314_1_1_ok : dn_314_1_1.all (fun q => decide (decode (xm_b n_314) q.1 = .ok (q.2.1, q.2.2))) = true := xa_g_ok (by decide +kernel)
def dn_314_1_2 : List (Nat × Instr × Nat) := [(248, .istore 11, 2), (250, .aload_n 0, 1), (251, .getfield 158, 3), (254, .iconst 0, 1), (255, .iaload, 1), (256, .i2l, 1), (257, .iload 8, 2), (259, .i2l, 1), (260, .iload 10, 2), (262, .i2l, 1), (263, .invokestatic 301, 3), (266, .ifCond .eq 24, 3), (269, .aload_n 0, 1), (270, .getfield 158, 3), (273, .iconst 1, 1), (274, .iaload, 1), (275, .i2l, 1), (276, .iload 9, 2), (278, .i2l, 1), (279, .iload 11, 2), (281, .i2l, 1), (282, .invokestatic 301, 3), (285, .ifCond .eq 5, 3), (288, .iconst 1, 1), (289, .ireturn, 1)]
set_option maxRecDepth 20000 in
theorem dn_314_1_2_ok : dn_314_1_2.all (fun q => decide (decode (xm_b n_314) q.1 = .ok (q.2.1, q.2.2))) = true := xa_g_ok (by decide +kernel)
def dn_314_1_3 : List (Nat × Instr × Nat) := [(290, .iconst 0, 1), (291, .istore 12, 2), (293, .iconst 0, 1), (294, .istore 13, 2), (296, .iload 13, 2), (298, .iconst 4, 1), (299, .if_icmp .ge 88, 3), (302, .iload 12, 2), (304, .ifCond .ne 83, 3), (307, .aload_n 0, 1), (308, .aload_n 0, 1), (309, .getfield 161, 3), (312, .iload 13, 2), (314, .iconst 3, 1), (315, .if_icmp .ne 8, 3), (318, .iload 10, 2), (320, .goto 5, 3), (323, .iload 8, 2), (325, .iload 13, 2), (327, .iconst 1, 1), (328, .if_icmp .ne 8, 3), (331, .iload 11, 2), (333, .goto 5, 3), (336, .iload 9, 2), (338, .iload 13, 2)]
set_option maxRecDepth 20000 in
theorem dn_314_1_3_ok : dn_314_1_3.all (fun q => decide (decode (xm_b n_314) q.1 = .ok (q.2.1, q.2.2))) = true := xa_g_ok (by decide +kernel)
def dn_314_2_0 : List (Nat × Instr × Nat) := [(340, .iconst 2, 1), (341, .if_icmp .ne 8, 3), (344, .iload 8, 2), (346, .goto 5, 3), (349, .iload 10, 2), (351, .iload 13, 2), (353, .ifCond .ne 8, 3), (356, .iload 9, 2), (358, .goto 5, 3), (361, .iload 11, 2), (363, .invokevirtual 428, 3), (366, .aload_n 0, 1), (367, .getfield 158, 3), (370, .aload_n 0, 1), (371, .getfield 161, 3), (374, .lload 6, 2), (376, .invokestatic 439, 3), (379, .istore 12, 2), (381, .iinc 13 1, 3), (384, .goto (-88), 3), (387, .iload 12, 2), (389, .ireturn, 1)]
set_option maxRecDepth 20000 in
theorem dn_314_2_0_ok : dn_314_2_0.all (fun q => decide (decode (xm_b n_314) q.1 = .ok (q.2.1, q.2.2))) = true := xa_g_ok (by decide +kernel)
def te_314_0 : Nat → eE := (e_T 21 (e_T 7 (e_T 2 (e_T 0 (e_L 0 (0, ei_load 0 2 1, 0, 0)) (e_T 1 (e_L 1 (0, ei_load 1 0 2, 0, 0)) (e_L 2 (0, ei_load 2 0 3, 0, 0)))) (e_T 3 (e_L 3 (0, ei_load 3 0 4, 0, 0)) (e_T 4 (e_L 4 (2, e_nof, 305, 4)) (e_L 7 (0, ei_load 0 2 8, 0, 0))))) (e_T 12 (e_T 8 (e_L 8 (0, ei_load 0 2 9, 0, 0)) (e_T 9 (e_L 9 (0, ei_getf eft elay 12 61 12, 0, 0)) (e_L 12 (2, e_nof, 312, 2)))) (e_T 16 (e_T 15 (e_L 15 (0, ei_load 0 2 16, 0, 0)) (e_L 16 (0, ei_getf eft elay 12 60 19, 0, 0))) (e_T 19 (e_L 19 (0, ei_load 5 0 21, 0, 0)) (e_L 21 (0, ei_bin eF_add 22, 0, 0)))))) (e_T 32 (e_T 25 (e_T 22 (e_L 22 (0, ei_un (fun x => (4, x)) 23, 0, 0)) (e_T 23 (e_L 23 (0, ei_stor 6 1 25, 0, 0)) (e_L 25 (0, ei_load 0 2 26, 0, 0)))) (e_T 29 (e_T 26 (e_L 26 (0, ei_getf eft elay 12 24 29, 0, 0)) (e_L 29 (0, ei_load 4 0 31, 0, 0))) (e_T 31 (e_L 31 (0, ei_ald elay true 32, 0, 0)) (e_L 32 (0, ei_if1 1 208 35, 0, 0))))) (e_T 39 (e_T 35 (e_L 35 (0, ei_load 0 2 36, 0, 0)) (e_T 36 (e_L 36 (0, ei_getf eft elay 12 25 39, 0, 0)) (e_L 39 (0, ei_load 4 0 41, 0, 0)))) (e_T 42 (e_T 41 (e_L 41 (0, ei_ald elay false 42, 0, 0)) (e_L 42 (0, ei_un (fun x => (4, x)) 43, 0, 0))) (e_T 43 (e_L 43 (0, ei_load 0 2 44, 0, 0)) (e_L 44 (0, ei_getf eft elay 12 25 47, 0, 0)))))))
set_option maxRecDepth 20000 in
set_option maxHeartbeats 4000000 in
theorem te_314_0_ok : ∀ pc, e_EOq eft cls elay eI n_314 pc (te_314_0 pc) :=
  (e_Tok2
  (e_Tok2
  (e_Tok2
  (e_Tok2
  (e_Lok (ld_aload_n_0 (x_dk dn_314_0_0_ok 0 rfl)))
  (e_Tok2
  (e_Lok (ld_iload_n_1 (x_dk dn_314_0_0_ok 1 rfl)))
  (e_Lok (ld_iload_n_2 (x_dk dn_314_0_0_ok 2 rfl)))))
  (e_Tok2
  (e_Lok (ld_iload_n_3 (x_dk dn_314_0_0_ok 3 rfl)))
  (e_Tok2
  (e_Lok (lk_12_432 ho_314 (x_dk dn_314_0_0_ok 4 rfl)))
  (e_Lok (ld_aload_n_0 (x_dk dn_314_0_0_ok 5 rfl))))))
  (e_Tok2
  (e_Tok2
  (e_Lok (ld_aload_n_0 (x_dk dn_314_0_0_ok 6 rfl)))
  (e_Tok2
  (e_Lok (lk_12_158g ho_314 (x_dk dn_314_0_0_ok 7 rfl)))
  (e_Lok (lk_12_435 ho_314 (x_dk dn_314_0_0_ok 8 rfl)))))
  (e_Tok2
  (e_Tok2
  (e_Lok (ld_aload_n_0 (x_dk dn_314_0_0_ok 9 rfl)))
  (e_Lok (lk_12_410g ho_314 (x_dk dn_314_0_0_ok 10 rfl))))
  (e_Tok2
  (e_Lok (ld_iload_5 (x_dk dn_314_0_0_ok 11 rfl)))
  (e_Lok (sm_iadd (x_dk dn_314_0_0_ok 12 rfl)))))))
  (e_Tok2
  (e_Tok2
  (e_Tok2
  (e_Lok (e_st (I := eI) (er_i2l (x_dk dn_314_0_0_ok 13 rfl)) (nx_un (fun _ => rfl))))
  (e_Tok2
  (e_Lok (e_st (I := eI) (er_lstore (i := 6) (x_dk dn_314_0_0_ok 14 rfl) (by decide +kernel)) nx_stor))
  (e_Lok (ld_aload_n_0 (x_dk dn_314_0_0_ok 15 rfl)))))
  (e_Tok2
  (e_Tok2
  (e_Lok (lk_12_67g ho_314 (x_dk dn_314_0_0_ok 16 rfl)))
  (e_Lok (ld_iload_4 (x_dk dn_314_0_0_ok 17 rfl))))
  (e_Tok2
  (e_Lok (e_st (I := eI) (er_baload (x_dk dn_314_0_0_ok 18 rfl)) nx_ald))
  (e_Lok (e_st (I := eI) (er_ifne (off := 176) (tg := 208) (x_dk dn_314_0_0_ok 19 rfl) (by decide)) nx_if1)))))
  (e_Tok2
  (e_Tok2
  (e_Lok (ld_aload_n_0 (x_dk dn_314_0_0_ok 20 rfl)))
  (e_Tok2
  (e_Lok (lk_12_71g ho_314 (x_dk dn_314_0_0_ok 21 rfl)))
  (e_Lok (ld_iload_4 (x_dk dn_314_0_0_ok 22 rfl)))))
  (e_Tok2
  (e_Tok2
  (e_Lok (sm_iaload (x_dk dn_314_0_0_ok 23 rfl)))
  (e_Lok (e_st (I := eI) (er_i2l (x_dk dn_314_0_0_ok 24 rfl)) (nx_un (fun _ => rfl)))))
  (e_Tok2
  (e_Lok (ld_aload_n_0 (x_dk dn_314_0_1_ok 0 rfl)))
  (e_Lok (lk_12_71g ho_314 (x_dk dn_314_0_1_ok 1 rfl))))))))
def te_314_27 : Nat → eE := (e_T 65 (e_T 56 (e_T 50 (e_T 47 (e_L 47 (0, ei_load 4 0 49, 0, 0)) (e_T 49 (e_L 49 (0, ei_ald elay false 50, 0, 0)) (e_L 50 (0, ei_un (fun x => (4, x)) 51, 0, 0)))) (e_T 52 (e_T 51 (e_L 51 (0, ei_load 0 2 52, 0, 0)) (e_L 52 (0, ei_getf eft elay 12 61 55, 0, 0))) (e_T 55 (e_L 55 (0, ei_push (0, 0) 56, 0, 0)) (e_L 56 (0, ei_ald elay false 57, 0, 0))))) (e_T 59 (e_T 57 (e_L 57 (0, ei_un (fun x => (4, x)) 58, 0, 0)) (e_T 58 (e_L 58 (0, ei_load 0 2 59, 0, 0)) (e_L 59 (0, ei_getf eft elay 12 61 62, 0, 0)))) (e_T 63 (e_T 62 (e_L 62 (0, ei_push (0, 2) 63, 0, 0)) (e_L 63 (0, ei_ald elay false 64, 0, 0))) (e_T 64 (e_L 64 (0, ei_un (fun x => (4, x)) 65, 0, 0)) (e_L 65 (0, ei_load 6 1 67, 0, 0)))))) (e_T 76 (e_T 71 (e_T 67 (e_L 67 (0, ei_load 0 2 68, 0, 0)) (e_T 68 (e_L 68 (0, ei_getf eft elay 12 27 71, 0, 0)) (e_L 71 (0, ei_load 4 0 73, 0, 0)))) (e_T 74 (e_T 73 (e_L 73 (0, ei_ald elay false 74, 0, 0)) (e_L 74 (0, ei_un (fun x => (4, x)) 75, 0, 0))) (e_T 75 (e_L 75 (0, ei_binL eG_add 76, 0, 0)) (e_L 76 (2, e_nof, 309, 5))))) (e_T 83 (e_T 79 (e_L 79 (0, ei_if1 1 129 82, 0, 0)) (e_T 82 (e_L 82 (0, ei_load 0 2 83, 0, 0)) (e_L 83 (0, ei_getf eft elay 12 26 86, 0, 0)))) (e_T 88 (e_T 86 (e_L 86 (0, ei_load 4 0 88, 0, 0)) (e_L 88 (0, ei_ald elay false 89, 0, 0))) (e_T 89 (e_L 89 (0, ei_un (fun x => (4, x)) 90, 0, 0)) (e_L 90 (0, ei_load 0 2 91, 0, 0)))))))
set_option maxRecDepth 20000 in
set_option maxHeartbeats 4000000 in
theorem te_314_27_ok : ∀ pc, e_EOq eft cls elay eI n_314 pc (te_314_27 pc) :=
  (e_Tok2
  (e_Tok2
  (e_Tok2
  (e_Tok2
  (e_Lok (ld_iload_4 (x_dk dn_314_0_1_ok 2 rfl)))
  (e_Tok2
  (e_Lok (sm_iaload (x_dk dn_314_0_1_ok 3 rfl)))
  (e_Lok (e_st (I := eI) (er_i2l (x_dk dn_314_0_1_ok 4 rfl)) (nx_un (fun _ => rfl))))))
  (e_Tok2
  (e_Tok2
  (e_Lok (ld_aload_n_0 (x_dk dn_314_0_1_ok 5 rfl)))
  (e_Lok (lk_12_158g ho_314 (x_dk dn_314_0_1_ok 6 rfl))))
  (e_Tok2
  (e_Lok (ps_iconst_0 (x_dk dn_314_0_1_ok 7 rfl)))
  (e_Lok (sm_iaload (x_dk dn_314_0_1_ok 8 rfl))))))
  (e_Tok2
  (e_Tok2
  (e_Lok (e_st (I := eI) (er_i2l (x_dk dn_314_0_1_ok 9 rfl)) (nx_un (fun _ => rfl))))
  (e_Tok2
  (e_Lok (ld_aload_n_0 (x_dk dn_314_0_1_ok 10 rfl)))
  (e_Lok (lk_12_158g ho_314 (x_dk dn_314_0_1_ok 11 rfl)))))
  (e_Tok2
  (e_Tok2
  (e_Lok (ps_iconst_2 (x_dk dn_314_0_1_ok 12 rfl)))
  (e_Lok (sm_iaload (x_dk dn_314_0_1_ok 13 rfl))))
  (e_Tok2
  (e_Lok (e_st (I := eI) (er_i2l (x_dk dn_314_0_1_ok 14 rfl)) (nx_un (fun _ => rfl))))
  (e_Lok (ld_lload_6 (x_dk dn_314_0_1_ok 15 rfl)))))))
  (e_Tok2
  (e_Tok2
  (e_Tok2
  (e_Lok (ld_aload_n_0 (x_dk dn_314_0_1_ok 16 rfl)))
  (e_Tok2
  (e_Lok (lk_12_77g ho_314 (x_dk dn_314_0_1_ok 17 rfl)))
  (e_Lok (ld_iload_4 (x_dk dn_314_0_1_ok 18 rfl)))))
  (e_Tok2
  (e_Tok2
  (e_Lok (sm_iaload (x_dk dn_314_0_1_ok 19 rfl)))
  (e_Lok (e_st (I := eI) (er_i2l (x_dk dn_314_0_1_ok 20 rfl)) (nx_un (fun _ => rfl)))))
  (e_Tok2
  (e_Lok (e_st (I := eI) (er_ladd (x_dk dn_314_0_1_ok 21 rfl)) (nx_binL bG_ladd)))
  (e_Lok (lk_12_416 ho_314 (x_dk dn_314_0_1_ok 22 rfl))))))
  (e_Tok2
  (e_Tok2
  (e_Lok (e_st (I := eI) (er_ifne (off := 50) (tg := 129) (x_dk dn_314_0_1_ok 23 rfl) (by decide)) nx_if1))
  (e_Tok2
  (e_Lok (ld_aload_n_0 (x_dk dn_314_0_1_ok 24 rfl)))
  (e_Lok (lk_12_74g ho_314 (x_dk dn_314_0_2_ok 0 rfl)))))
  (e_Tok2
  (e_Tok2
  (e_Lok (ld_iload_4 (x_dk dn_314_0_2_ok 1 rfl)))
  (e_Lok (sm_iaload (x_dk dn_314_0_2_ok 2 rfl))))
  (e_Tok2
  (e_Lok (e_st (I := eI) (er_i2l (x_dk dn_314_0_2_ok 3 rfl)) (nx_un (fun _ => rfl))))
  (e_Lok (ld_aload_n_0 (x_dk dn_314_0_2_ok 4 rfl))))))))
def te_314_55 : Nat → eE := (e_T 111 (e_T 102 (e_T 96 (e_T 91 (e_L 91 (0, ei_getf eft elay 12 26 94, 0, 0)) (e_T 94 (e_L 94 (0, ei_load 4 0 96, 0, 0)) (e_L 96 (0, ei_ald elay false 97, 0, 0)))) (e_T 98 (e_T 97 (e_L 97 (0, ei_un (fun x => (4, x)) 98, 0, 0)) (e_L 98 (0, ei_load 0 2 99, 0, 0))) (e_T 99 (e_L 99 (0, ei_getf eft elay 12 61 102, 0, 0)) (e_L 102 (0, ei_push (0, 1) 103, 0, 0))))) (e_T 105 (e_T 103 (e_L 103 (0, ei_ald elay false 104, 0, 0)) (e_T 104 (e_L 104 (0, ei_un (fun x => (4, x)) 105, 0, 0)) (e_L 105 (0, ei_load 0 2 106, 0, 0)))) (e_T 109 (e_T 106 (e_L 106 (0, ei_getf eft elay 12 61 109, 0, 0)) (e_L 109 (0, ei_push (0, 3) 110, 0, 0))) (e_T 110 (e_L 110 (0, ei_ald elay false 111, 0, 0)) (e_L 111 (0, ei_un (fun x => (4, x)) 112, 0, 0)))))) (e_T 122 (e_T 115 (e_T 112 (e_L 112 (0, ei_load 6 1 114, 0, 0)) (e_T 114 (e_L 114 (0, ei_load 0 2 115, 0, 0)) (e_L 115 (0, ei_getf eft elay 12 27 118, 0, 0)))) (e_T 120 (e_T 118 (e_L 118 (0, ei_load 4 0 120, 0, 0)) (e_L 120 (0, ei_ald elay false 121, 0, 0))) (e_T 121 (e_L 121 (0, ei_un (fun x => (4, x)) 122, 0, 0)) (e_L 122 (0, ei_binL eG_add 123, 0, 0))))) (e_T 129 (e_T 123 (e_L 123 (2, e_nof, 309, 5)) (e_T 126 (e_L 126 (0, ei_if1 0 133 129, 0, 0)) (e_L 129 (0, ei_push (0, 1) 130, 0, 0)))) (e_T 133 (e_T 130 (e_L 130 (0, ei_goto 134, 0, 0)) (e_L 133 (0, ei_push (0, 0) 134, 0, 0))) (e_T 134 (e_L 134 (0, ei_stor 8 0 136, 0, 0)) (e_L 136 (0, ei_load 8 0 138, 0, 0)))))))
set_option maxRecDepth 20000 in
set_option maxHeartbeats 4000000 in
theorem te_314_55_ok : ∀ pc, e_EOq eft cls elay eI n_314 pc (te_314_55 pc) :=
  (e_Tok2
  (e_Tok2
  (e_Tok2
  (e_Tok2
  (e_Lok (lk_12_74g ho_314 (x_dk dn_314_0_2_ok 5 rfl)))
  (e_Tok2
  (e_Lok (ld_iload_4 (x_dk dn_314_0_2_ok 6 rfl)))
  (e_Lok (sm_iaload (x_dk dn_314_0_2_ok 7 rfl)))))
  (e_Tok2
  (e_Tok2
  (e_Lok (e_st (I := eI) (er_i2l (x_dk dn_314_0_2_ok 8 rfl)) (nx_un (fun _ => rfl))))
  (e_Lok (ld_aload_n_0 (x_dk dn_314_0_2_ok 9 rfl))))
  (e_Tok2
  (e_Lok (lk_12_158g ho_314 (x_dk dn_314_0_2_ok 10 rfl)))
  (e_Lok (ps_iconst_1 (x_dk dn_314_0_2_ok 11 rfl))))))
  (e_Tok2
  (e_Tok2
  (e_Lok (sm_iaload (x_dk dn_314_0_2_ok 12 rfl)))
  (e_Tok2
  (e_Lok (e_st (I := eI) (er_i2l (x_dk dn_314_0_2_ok 13 rfl)) (nx_un (fun _ => rfl))))
  (e_Lok (ld_aload_n_0 (x_dk dn_314_0_2_ok 14 rfl)))))
  (e_Tok2
  (e_Tok2
  (e_Lok (lk_12_158g ho_314 (x_dk dn_314_0_2_ok 15 rfl)))
  (e_Lok (ps_iconst_3 (x_dk dn_314_0_2_ok 16 rfl))))
  (e_Tok2
  (e_Lok (sm_iaload (x_dk dn_314_0_2_ok 17 rfl)))
  (e_Lok (e_st (I := eI) (er_i2l (x_dk dn_314_0_2_ok 18 rfl)) (nx_un (fun _ => rfl))))))))
  (e_Tok2
  (e_Tok2
  (e_Tok2
  (e_Lok (ld_lload_6 (x_dk dn_314_0_2_ok 19 rfl)))
  (e_Tok2
  (e_Lok (ld_aload_n_0 (x_dk dn_314_0_2_ok 20 rfl)))
  (e_Lok (lk_12_77g ho_314 (x_dk dn_314_0_2_ok 21 rfl)))))
  (e_Tok2
  (e_Tok2
  (e_Lok (ld_iload_4 (x_dk dn_314_0_2_ok 22 rfl)))
  (e_Lok (sm_iaload (x_dk dn_314_0_2_ok 23 rfl))))
  (e_Tok2
  (e_Lok (e_st (I := eI) (er_i2l (x_dk dn_314_0_2_ok 24 rfl)) (nx_un (fun _ => rfl))))
  (e_Lok (e_st (I := eI) (er_ladd (x_dk dn_314_0_3_ok 0 rfl)) (nx_binL bG_ladd))))))
  (e_Tok2
  (e_Tok2
  (e_Lok (lk_12_416 ho_314 (x_dk dn_314_0_3_ok 1 rfl)))
  (e_Tok2
  (e_Lok (e_st (I := eI) (er_ifeq (off := 7) (tg := 133) (x_dk dn_314_0_3_ok 2 rfl) (by decide)) nx_if1))
  (e_Lok (ps_iconst_1 (x_dk dn_314_0_3_ok 3 rfl)))))
  (e_Tok2
  (e_Tok2
  (e_Lok (e_st (I := eI) (er_goto (off := 4) (tg := 134) (x_dk dn_314_0_3_ok 4 rfl) (by decide)) nx_goto))
  (e_Lok (ps_iconst_0 (x_dk dn_314_0_3_ok 5 rfl))))
  (e_Tok2
  (e_Lok (e_st (I := eI) (er_istore (i := 8) (x_dk dn_314_0_3_ok 6 rfl) (by decide +kernel)) nx_stor))
  (e_Lok (ld_iload_8 (x_dk dn_314_0_3_ok 7 rfl))))))))
def te_314_83 : Nat → eE := (e_T 161 (e_T 149 (e_T 142 (e_T 138 (e_L 138 (0, ei_if1 1 206 141, 0, 0)) (e_T 141 (e_L 141 (0, ei_load 0 2 142, 0, 0)) (e_L 142 (0, ei_getf eft elay 12 25 145, 0, 0)))) (e_T 147 (e_T 145 (e_L 145 (0, ei_load 4 0 147, 0, 0)) (e_L 147 (0, ei_ald elay false 148, 0, 0))) (e_T 148 (e_L 148 (0, ei_un (fun x => (4, x)) 149, 0, 0)) (e_L 149 (0, ei_load 0 2 150, 0, 0))))) (e_T 155 (e_T 150 (e_L 150 (0, ei_getf eft elay 12 26 153, 0, 0)) (e_T 153 (e_L 153 (0, ei_load 4 0 155, 0, 0)) (e_L 155 (0, ei_ald elay false 156, 0, 0)))) (e_T 157 (e_T 156 (e_L 156 (0, ei_un (fun x => (4, x)) 157, 0, 0)) (e_L 157 (0, ei_load 0 2 158, 0, 0))) (e_T 158 (e_L 158 (0, ei_getf eft elay 12 61 161, 0, 0)) (e_L 161 (0, ei_push (0, 0) 162, 0, 0)))))) (e_T 170 (e_T 164 (e_T 162 (e_L 162 (0, ei_ald elay false 163, 0, 0)) (e_T 163 (e_L 163 (0, ei_un (fun x => (4, x)) 164, 0, 0)) (e_L 164 (0, ei_load 0 2 165, 0, 0)))) (e_T 168 (e_T 165 (e_L 165 (0, ei_getf eft elay 12 61 168, 0, 0)) (e_L 168 (0, ei_push (0, 1) 169, 0, 0))) (e_T 169 (e_L 169 (0, ei_ald elay false 170, 0, 0)) (e_L 170 (0, ei_un (fun x => (4, x)) 171, 0, 0))))) (e_T 175 (e_T 171 (e_L 171 (0, ei_load 0 2 172, 0, 0)) (e_T 172 (e_L 172 (0, ei_getf eft elay 12 61 175, 0, 0)) (e_L 175 (0, ei_push (0, 2) 176, 0, 0)))) (e_T 177 (e_T 176 (e_L 176 (0, ei_ald elay false 177, 0, 0)) (e_L 177 (0, ei_un (fun x => (4, x)) 178, 0, 0))) (e_T 178 (e_L 178 (0, ei_load 0 2 179, 0, 0)) (e_L 179 (0, ei_getf eft elay 12 61 182, 0, 0)))))))
set_option maxRecDepth 20000 in
set_option maxHeartbeats 4000000 in
theorem te_314_83_ok : ∀ pc, e_EOq eft cls elay eI n_314 pc (te_314_83 pc) :=
  (e_Tok2
  (e_Tok2
  (e_Tok2
  (e_Tok2
  (e_Lok (e_st (I := eI) (er_ifne (off := 68) (tg := 206) (x_dk dn_314_0_3_ok 8 rfl) (by decide)) nx_if1))
  (e_Tok2
  (e_Lok (ld_aload_n_0 (x_dk dn_314_0_3_ok 9 rfl)))
  (e_Lok (lk_12_71g ho_314 (x_dk dn_314_0_3_ok 10 rfl)))))
  (e_Tok2
  (e_Tok2
  (e_Lok (ld_iload_4 (x_dk dn_314_0_3_ok 11 rfl)))
  (e_Lok (sm_iaload (x_dk dn_314_0_3_ok 12 rfl))))
  (e_Tok2
  (e_Lok (e_st (I := eI) (er_i2l (x_dk dn_314_0_3_ok 13 rfl)) (nx_un (fun _ => rfl))))
  (e_Lok (ld_aload_n_0 (x_dk dn_314_0_3_ok 14 rfl))))))
  (e_Tok2
  (e_Tok2
  (e_Lok (lk_12_74g ho_314 (x_dk dn_314_0_3_ok 15 rfl)))
  (e_Tok2
  (e_Lok (ld_iload_4 (x_dk dn_314_0_3_ok 16 rfl)))
  (e_Lok (sm_iaload (x_dk dn_314_0_3_ok 17 rfl)))))
  (e_Tok2
  (e_Tok2
  (e_Lok (e_st (I := eI) (er_i2l (x_dk dn_314_0_3_ok 18 rfl)) (nx_un (fun _ => rfl))))
  (e_Lok (ld_aload_n_0 (x_dk dn_314_0_3_ok 19 rfl))))
  (e_Tok2
  (e_Lok (lk_12_158g ho_314 (x_dk dn_314_0_3_ok 20 rfl)))
  (e_Lok (ps_iconst_0 (x_dk dn_314_0_3_ok 21 rfl)))))))
  (e_Tok2
  (e_Tok2
  (e_Tok2
  (e_Lok (sm_iaload (x_dk dn_314_0_3_ok 22 rfl)))
  (e_Tok2
  (e_Lok (e_st (I := eI) (er_i2l (x_dk dn_314_0_3_ok 23 rfl)) (nx_un (fun _ => rfl))))
  (e_Lok (ld_aload_n_0 (x_dk dn_314_0_3_ok 24 rfl)))))
  (e_Tok2
  (e_Tok2
  (e_Lok (lk_12_158g ho_314 (x_dk dn_314_1_0_ok 0 rfl)))
  (e_Lok (ps_iconst_1 (x_dk dn_314_1_0_ok 1 rfl))))
  (e_Tok2
  (e_Lok (sm_iaload (x_dk dn_314_1_0_ok 2 rfl)))
  (e_Lok (e_st (I := eI) (er_i2l (x_dk dn_314_1_0_ok 3 rfl)) (nx_un (fun _ => rfl)))))))
  (e_Tok2
  (e_Tok2
  (e_Lok (ld_aload_n_0 (x_dk dn_314_1_0_ok 4 rfl)))
  (e_Tok2
  (e_Lok (lk_12_158g ho_314 (x_dk dn_314_1_0_ok 5 rfl)))
  (e_Lok (ps_iconst_2 (x_dk dn_314_1_0_ok 6 rfl)))))
  (e_Tok2
  (e_Tok2
  (e_Lok (sm_iaload (x_dk dn_314_1_0_ok 7 rfl)))
  (e_Lok (e_st (I := eI) (er_i2l (x_dk dn_314_1_0_ok 8 rfl)) (nx_un (fun _ => rfl)))))
  (e_Tok2
  (e_Lok (ld_aload_n_0 (x_dk dn_314_1_0_ok 9 rfl)))
  (e_Lok (lk_12_158g ho_314 (x_dk dn_314_1_0_ok 10 rfl))))))))
def te_314_111 : Nat → eE := (e_T 202 (e_T 188 (e_T 184 (e_T 182 (e_L 182 (0, ei_push (0, 3) 183, 0, 0)) (e_T 183 (e_L 183 (0, ei_ald elay false 184, 0, 0)) (e_L 184 (0, ei_un (fun x => (4, x)) 185, 0, 0)))) (e_T 185 (e_L 185 (0, ei_load 6 1 187, 0, 0)) (e_T 187 (e_L 187 (0, ei_load 0 2 188, 0, 0)) (e_L 188 (0, ei_getf eft elay 12 27 191, 0, 0))))) (e_T 194 (e_T 191 (e_L 191 (0, ei_load 4 0 193, 0, 0)) (e_T 193 (e_L 193 (0, ei_ald elay false 194, 0, 0)) (e_L 194 (0, ei_un (fun x => (4, x)) 195, 0, 0)))) (e_T 196 (e_T 195 (e_L 195 (0, ei_binL eG_add 196, 0, 0)) (e_L 196 (2, e_nof, 307, 7))) (e_T 199 (e_L 199 (0, ei_if1 0 206 202, 0, 0)) (e_L 202 (0, ei_push (0, 1) 203, 0, 0)))))) (e_T 214 (e_T 207 (e_T 203 (e_L 203 (0, ei_goto 207, 0, 0)) (e_T 206 (e_L 206 (0, ei_push (0, 0) 207, 0, 0)) (e_L 207 (1, e_nof, 4, 0)))) (e_T 209 (e_T 208 (e_L 208 (0, ei_load 0 2 209, 0, 0)) (e_L 209 (0, ei_getf eft elay 12 25 212, 0, 0))) (e_T 212 (e_L 212 (0, ei_load 4 0 214, 0, 0)) (e_L 214 (0, ei_ald elay false 215, 0, 0))))) (e_T 218 (e_T 215 (e_L 215 (0, ei_stor 8 0 217, 0, 0)) (e_T 217 (e_L 217 (0, ei_load 0 2 218, 0, 0)) (e_L 218 (0, ei_getf eft elay 12 26 221, 0, 0)))) (e_T 223 (e_T 221 (e_L 221 (0, ei_load 4 0 223, 0, 0)) (e_L 223 (0, ei_ald elay false 224, 0, 0))) (e_T 224 (e_L 224 (0, ei_stor 9 0 226, 0, 0)) (e_L 226 (0, ei_load 8 0 228, 0, 0)))))))
set_option maxRecDepth 20000 in
set_option maxHeartbeats 4000000 in
theorem te_314_111_ok : ∀ pc, e_EOq eft cls elay eI n_314 pc (te_314_111 pc) :=
  (e_Tok2
  (e_Tok2
  (e_Tok2
  (e_Tok2
  (e_Lok (ps_iconst_3 (x_dk dn_314_1_0_ok 11 rfl)))
  (e_Tok2
  (e_Lok (sm_iaload (x_dk dn_314_1_0_ok 12 rfl)))
  (e_Lok (e_st (I := eI) (er_i2l (x_dk dn_314_1_0_ok 13 rfl)) (nx_un (fun _ => rfl))))))
  (e_Tok2
  (e_Lok (ld_lload_6 (x_dk dn_314_1_0_ok 14 rfl)))
  (e_Tok2
  (e_Lok (ld_aload_n_0 (x_dk dn_314_1_0_ok 15 rfl)))
  (e_Lok (lk_12_77g ho_314 (x_dk dn_314_1_0_ok 16 rfl))))))
  (e_Tok2
  (e_Tok2
  (e_Lok (ld_iload_4 (x_dk dn_314_1_0_ok 17 rfl)))
  (e_Tok2
  (e_Lok (sm_iaload (x_dk dn_314_1_0_ok 18 rfl)))
  (e_Lok (e_st (I := eI) (er_i2l (x_dk dn_314_1_0_ok 19 rfl)) (nx_un (fun _ => rfl))))))
  (e_Tok2
  (e_Tok2
  (e_Lok (e_st (I := eI) (er_ladd (x_dk dn_314_1_0_ok 20 rfl)) (nx_binL bG_ladd)))
  (e_Lok (lk_12_424 ho_314 (x_dk dn_314_1_0_ok 21 rfl))))
  (e_Tok2
  (e_Lok (e_st (I := eI) (er_ifeq (off := 7) (tg := 206) (x_dk dn_314_1_0_ok 22 rfl) (by decide)) nx_if1))
  (e_Lok (ps_iconst_1 (x_dk dn_314_1_0_ok 23 rfl)))))))
  (e_Tok2
  (e_Tok2
  (e_Tok2
  (e_Lok (e_st (I := eI) (er_goto (off := 4) (tg := 207) (x_dk dn_314_1_0_ok 24 rfl) (by decide)) nx_goto))
  (e_Tok2
  (e_Lok (ps_iconst_0 (x_dk dn_314_1_1_ok 0 rfl)))
  (e_Lok (e_rt (I := eI) (k := 4) ⟨(x_dk dn_314_1_1_ok 1 rfl), rfl⟩))))
  (e_Tok2
  (e_Tok2
  (e_Lok (ld_aload_n_0 (x_dk dn_314_1_1_ok 2 rfl)))
  (e_Lok (lk_12_71g ho_314 (x_dk dn_314_1_1_ok 3 rfl))))
  (e_Tok2
  (e_Lok (ld_iload_4 (x_dk dn_314_1_1_ok 4 rfl)))
  (e_Lok (sm_iaload (x_dk dn_314_1_1_ok 5 rfl))))))
  (e_Tok2
  (e_Tok2
  (e_Lok (e_st (I := eI) (er_istore (i := 8) (x_dk dn_314_1_1_ok 6 rfl) (by decide +kernel)) nx_stor))
  (e_Tok2
  (e_Lok (ld_aload_n_0 (x_dk dn_314_1_1_ok 7 rfl)))
  (e_Lok (lk_12_74g ho_314 (x_dk dn_314_1_1_ok 8 rfl)))))
  (e_Tok2
  (e_Tok2
  (e_Lok (ld_iload_4 (x_dk dn_314_1_1_ok 9 rfl)))
  (e_Lok (sm_iaload (x_dk dn_314_1_1_ok 10 rfl))))
  (e_Tok2
  (e_Lok (e_st (I := eI) (er_istore (i := 9) (x_dk dn_314_1_1_ok 11 rfl) (by decide +kernel)) nx_stor))
  (e_Lok (ld_iload_8 (x_dk dn_314_1_1_ok 12 rfl))))))))
def te_314_138 : Nat → eE := (e_T 250 (e_T 238 (e_T 232 (e_T 228 (e_L 228 (0, ei_load 0 2 229, 0, 0)) (e_T 229 (e_L 229 (0, ei_getf eft elay 12 27 232, 0, 0)) (e_L 232 (0, ei_load 4 0 234, 0, 0)))) (e_T 235 (e_T 234 (e_L 234 (0, ei_ald elay false 235, 0, 0)) (e_L 235 (0, ei_bin eF_add 236, 0, 0))) (e_T 236 (e_L 236 (0, ei_stor 10 0 238, 0, 0)) (e_L 238 (0, ei_load 9 0 240, 0, 0))))) (e_T 244 (e_T 240 (e_L 240 (0, ei_load 0 2 241, 0, 0)) (e_T 241 (e_L 241 (0, ei_getf eft elay 12 28 244, 0, 0)) (e_L 244 (0, ei_load 4 0 246, 0, 0)))) (e_T 247 (e_T 246 (e_L 246 (0, ei_ald elay false 247, 0, 0)) (e_L 247 (0, ei_bin eF_add 248, 0, 0))) (e_T 248 (e_L 248 (0, ei_stor 11 0 250, 0, 0)) (e_L 250 (0, ei_load 0 2 251, 0, 0)))))) (e_T 260 (e_T 255 (e_T 251 (e_L 251 (0, ei_getf eft elay 12 61 254, 0, 0)) (e_T 254 (e_L 254 (0, ei_push (0, 0) 255, 0, 0)) (e_L 255 (0, ei_ald elay false 256, 0, 0)))) (e_T 257 (e_T 256 (e_L 256 (0, ei_un (fun x => (4, x)) 257, 0, 0)) (e_L 257 (0, ei_load 8 0 259, 0, 0))) (e_T 259 (e_L 259 (0, ei_un (fun x => (4, x)) 260, 0, 0)) (e_L 260 (0, ei_load 10 0 262, 0, 0))))) (e_T 266 (e_T 262 (e_L 262 (0, ei_un (fun x => (4, x)) 263, 0, 0)) (e_T 263 (e_L 263 (2, e_nof, 266, 3)) (e_L 266 (0, ei_if1 0 290 269, 0, 0)))) (e_T 270 (e_T 269 (e_L 269 (0, ei_load 0 2 270, 0, 0)) (e_L 270 (0, ei_getf eft elay 12 61 273, 0, 0))) (e_T 273 (e_L 273 (0, ei_push (0, 1) 274, 0, 0)) (e_L 274 (0, ei_ald elay false 275, 0, 0)))))))
set_option maxRecDepth 20000 in
set_option maxHeartbeats 4000000 in
theorem te_314_138_ok : ∀ pc, e_EOq eft cls elay eI n_314 pc (te_314_138 pc) :=
  (e_Tok2
  (e_Tok2
  (e_Tok2
  (e_Tok2
  (e_Lok (ld_aload_n_0 (x_dk dn_314_1_1_ok 13 rfl)))
  (e_Tok2
  (e_Lok (lk_12_77g ho_314 (x_dk dn_314_1_1_ok 14 rfl)))
  (e_Lok (ld_iload_4 (x_dk dn_314_1_1_ok 15 rfl)))))
  (e_Tok2
  (e_Tok2
  (e_Lok (sm_iaload (x_dk dn_314_1_1_ok 16 rfl)))
  (e_Lok (sm_iadd (x_dk dn_314_1_1_ok 17 rfl))))
  (e_Tok2
  (e_Lok (e_st (I := eI) (er_istore (i := 10) (x_dk dn_314_1_1_ok 18 rfl) (by decide +kernel)) nx_stor))
  (e_Lok (ld_iload_9 (x_dk dn_314_1_1_ok 19 rfl))))))
  (e_Tok2
  (e_Tok2
  (e_Lok (ld_aload_n_0 (x_dk dn_314_1_1_ok 20 rfl)))
  (e_Tok2
  (e_Lok (lk_12_80g ho_314 (x_dk dn_314_1_1_ok 21 rfl)))
  (e_Lok (ld_iload_4 (x_dk dn_314_1_1_ok 22 rfl)))))
  (e_Tok2
  (e_Tok2
  (e_Lok (sm_iaload (x_dk dn_314_1_1_ok 23 rfl)))
  (e_Lok (sm_iadd (x_dk dn_314_1_1_ok 24 rfl))))
  (e_Tok2
  (e_Lok (e_st (I := eI) (er_istore (i := 11) (x_dk dn_314_1_2_ok 0 rfl) (by decide +kernel)) nx_stor))
  (e_Lok (ld_aload_n_0 (x_dk dn_314_1_2_ok 1 rfl)))))))
  (e_Tok2
  (e_Tok2
  (e_Tok2
  (e_Lok (lk_12_158g ho_314 (x_dk dn_314_1_2_ok 2 rfl)))
  (e_Tok2
  (e_Lok (ps_iconst_0 (x_dk dn_314_1_2_ok 3 rfl)))
  (e_Lok (sm_iaload (x_dk dn_314_1_2_ok 4 rfl)))))
  (e_Tok2
  (e_Tok2
  (e_Lok (e_st (I := eI) (er_i2l (x_dk dn_314_1_2_ok 5 rfl)) (nx_un (fun _ => rfl))))
  (e_Lok (ld_iload_8 (x_dk dn_314_1_2_ok 6 rfl))))
  (e_Tok2
  (e_Lok (e_st (I := eI) (er_i2l (x_dk dn_314_1_2_ok 7 rfl)) (nx_un (fun _ => rfl))))
  (e_Lok (ld_iload_10 (x_dk dn_314_1_2_ok 8 rfl))))))
  (e_Tok2
  (e_Tok2
  (e_Lok (e_st (I := eI) (er_i2l (x_dk dn_314_1_2_ok 9 rfl)) (nx_un (fun _ => rfl))))
  (e_Tok2
  (e_Lok (lk_12_301 ho_314 (x_dk dn_314_1_2_ok 10 rfl)))
  (e_Lok (e_st (I := eI) (er_ifeq (off := 24) (tg := 290) (x_dk dn_314_1_2_ok 11 rfl) (by decide)) nx_if1))))
  (e_Tok2
  (e_Tok2
  (e_Lok (ld_aload_n_0 (x_dk dn_314_1_2_ok 12 rfl)))
  (e_Lok (lk_12_158g ho_314 (x_dk dn_314_1_2_ok 13 rfl))))
  (e_Tok2
  (e_Lok (ps_iconst_1 (x_dk dn_314_1_2_ok 14 rfl)))
  (e_Lok (sm_iaload (x_dk dn_314_1_2_ok 15 rfl))))))))
def te_314_166 : Nat → eE := (e_T 296 (e_T 285 (e_T 278 (e_T 275 (e_L 275 (0, ei_un (fun x => (4, x)) 276, 0, 0)) (e_T 276 (e_L 276 (0, ei_load 9 0 278, 0, 0)) (e_L 278 (0, ei_un (fun x => (4, x)) 279, 0, 0)))) (e_T 281 (e_T 279 (e_L 279 (0, ei_load 11 0 281, 0, 0)) (e_L 281 (0, ei_un (fun x => (4, x)) 282, 0, 0))) (e_T 282 (e_L 282 (2, e_nof, 266, 3)) (e_L 285 (0, ei_if1 0 290 288, 0, 0))))) (e_T 290 (e_T 288 (e_L 288 (0, ei_push (0, 1) 289, 0, 0)) (e_T 289 (e_L 289 (1, e_nof, 4, 0)) (e_L 290 (0, ei_push (0, 0) 291, 0, 0)))) (e_T 293 (e_T 291 (e_L 291 (0, ei_stor 12 0 293, 0, 0)) (e_L 293 (0, ei_push (0, 0) 294, 0, 0))) (e_T 294 (e_L 294 (0, ei_stor 13 0 296, 0, 0)) (e_L 296 (0, ei_load 13 0 298, 0, 0)))))) (e_T 309 (e_T 302 (e_T 298 (e_L 298 (0, ei_push (0, 4) 299, 0, 0)) (e_T 299 (e_L 299 (0, ei_if2 3 387 302, 0, 0)) (e_L 302 (0, ei_load 12 0 304, 0, 0)))) (e_T 307 (e_T 304 (e_L 304 (0, ei_if1 1 387 307, 0, 0)) (e_L 307 (0, ei_load 0 2 308, 0, 0))) (e_T 308 (e_L 308 (0, ei_load 0 2 309, 0, 0)) (e_L 309 (0, ei_getf eft elay 12 62 312, 0, 0))))) (e_T 315 (e_T 312 (e_L 312 (0, ei_load 13 0 314, 0, 0)) (e_T 314 (e_L 314 (0, ei_push (0, 3) 315, 0, 0)) (e_L 315 (0, ei_if2 1 323 318, 0, 0)))) (e_T 320 (e_T 318 (e_L 318 (0, ei_load 10 0 320, 0, 0)) (e_L 320 (0, ei_goto 325, 0, 0))) (e_T 323 (e_L 323 (0, ei_load 8 0 325, 0, 0)) (e_L 325 (0, ei_load 13 0 327, 0, 0)))))))
set_option maxRecDepth 20000 in
set_option maxHeartbeats 4000000 in
theorem te_314_166_ok : ∀ pc, e_EOq eft cls elay eI n_314 pc (te_314_166 pc) :=
  (e_Tok2
  (e_Tok2
  (e_Tok2
  (e_Tok2
  (e_Lok (e_st (I := eI) (er_i2l (x_dk dn_314_1_2_ok 16 rfl)) (nx_un (fun _ => rfl))))
  (e_Tok2
  (e_Lok (ld_iload_9 (x_dk dn_314_1_2_ok 17 rfl)))
  (e_Lok (e_st (I := eI) (er_i2l (x_dk dn_314_1_2_ok 18 rfl)) (nx_un (fun _ => rfl))))))
  (e_Tok2
  (e_Tok2
  (e_Lok (ld_iload_11 (x_dk dn_314_1_2_ok 19 rfl)))
  (e_Lok (e_st (I := eI) (er_i2l (x_dk dn_314_1_2_ok 20 rfl)) (nx_un (fun _ => rfl)))))
  (e_Tok2
  (e_Lok (lk_12_301 ho_314 (x_dk dn_314_1_2_ok 21 rfl)))
  (e_Lok (e_st (I := eI) (er_ifeq (off := 5) (tg := 290) (x_dk dn_314_1_2_ok 22 rfl) (by decide)) nx_if1)))))
  (e_Tok2
  (e_Tok2
  (e_Lok (ps_iconst_1 (x_dk dn_314_1_2_ok 23 rfl)))
  (e_Tok2
  (e_Lok (e_rt (I := eI) (k := 4) ⟨(x_dk dn_314_1_2_ok 24 rfl), rfl⟩))
  (e_Lok (ps_iconst_0 (x_dk dn_314_1_3_ok 0 rfl)))))
  (e_Tok2
  (e_Tok2
  (e_Lok (e_st (I := eI) (er_istore (i := 12) (x_dk dn_314_1_3_ok 1 rfl) (by decide +kernel)) nx_stor))
  (e_Lok (ps_iconst_0 (x_dk dn_314_1_3_ok 2 rfl))))
  (e_Tok2
  (e_Lok (e_st (I := eI) (er_istore (i := 13) (x_dk dn_314_1_3_ok 3 rfl) (by decide +kernel)) nx_stor))
  (e_Lok (ld_iload_13 (x_dk dn_314_1_3_ok 4 rfl)))))))
  (e_Tok2
  (e_Tok2
  (e_Tok2
  (e_Lok (ps_iconst_4 (x_dk dn_314_1_3_ok 5 rfl)))
  (e_Tok2
  (e_Lok (e_st (I := eI) (er_icmpge (off := 88) (tg := 387) (x_dk dn_314_1_3_ok 6 rfl) (by decide)) nx_if2))
  (e_Lok (ld_iload_12 (x_dk dn_314_1_3_ok 7 rfl)))))
  (e_Tok2
  (e_Tok2
  (e_Lok (e_st (I := eI) (er_ifne (off := 83) (tg := 387) (x_dk dn_314_1_3_ok 8 rfl) (by decide)) nx_if1))
  (e_Lok (ld_aload_n_0 (x_dk dn_314_1_3_ok 9 rfl))))
  (e_Tok2
  (e_Lok (ld_aload_n_0 (x_dk dn_314_1_3_ok 10 rfl)))
  (e_Lok (lk_12_161g ho_314 (x_dk dn_314_1_3_ok 11 rfl))))))
  (e_Tok2
  (e_Tok2
  (e_Lok (ld_iload_13 (x_dk dn_314_1_3_ok 12 rfl)))
  (e_Tok2
  (e_Lok (ps_iconst_3 (x_dk dn_314_1_3_ok 13 rfl)))
  (e_Lok (e_st (I := eI) (er_icmpne (off := 8) (tg := 323) (x_dk dn_314_1_3_ok 14 rfl) (by decide)) nx_if2))))
  (e_Tok2
  (e_Tok2
  (e_Lok (ld_iload_10 (x_dk dn_314_1_3_ok 15 rfl)))
  (e_Lok (e_st (I := eI) (er_goto (off := 5) (tg := 325) (x_dk dn_314_1_3_ok 16 rfl) (by decide)) nx_goto)))
  (e_Tok2
  (e_Lok (ld_iload_8 (x_dk dn_314_1_3_ok 17 rfl)))
  (e_Lok (ld_iload_13 (x_dk dn_314_1_3_ok 18 rfl))))))))
def te_314_194 : Nat → eE := (e_T 356 (e_T 340 (e_T 331 (e_T 327 (e_L 327 (0, ei_push (0, 1) 328, 0, 0)) (e_T 328 (e_L 328 (0, ei_if2 1 336 331, 0, 0)) (e_L 331 (0, ei_load 11 0 333, 0, 0)))) (e_T 336 (e_T 333 (e_L 333 (0, ei_goto 338, 0, 0)) (e_L 336 (0, ei_load 9 0 338, 0, 0))) (e_T 338 (e_L 338 (0, ei_load 13 0 340, 0, 0)) (e_L 340 (0, ei_push (0, 2) 341, 0, 0))))) (e_T 346 (e_T 341 (e_L 341 (0, ei_if2 1 349 344, 0, 0)) (e_T 344 (e_L 344 (0, ei_load 8 0 346, 0, 0)) (e_L 346 (0, ei_goto 351, 0, 0)))) (e_T 351 (e_T 349 (e_L 349 (0, ei_load 10 0 351, 0, 0)) (e_L 351 (0, ei_load 13 0 353, 0, 0))) (e_T 353 (e_L 353 (0, ei_if1 1 361 356, 0, 0)) (e_L 356 (0, ei_load 9 0 358, 0, 0)))))) (e_T 371 (e_T 363 (e_T 358 (e_L 358 (0, ei_goto 363, 0, 0)) (e_T 361 (e_L 361 (0, ei_load 11 0 363, 0, 0)) (e_L 363 (2, e_nof, 311, 6)))) (e_T 367 (e_T 366 (e_L 366 (0, ei_load 0 2 367, 0, 0)) (e_L 367 (0, ei_getf eft elay 12 61 370, 0, 0))) (e_T 370 (e_L 370 (0, ei_load 0 2 371, 0, 0)) (e_L 371 (0, ei_getf eft elay 12 62 374, 0, 0))))) (e_T 379 (e_T 374 (e_L 374 (0, ei_load 6 1 376, 0, 0)) (e_T 376 (e_L 376 (2, e_nof, 310, 3)) (e_L 379 (0, ei_stor 12 0 381, 0, 0)))) (e_T 384 (e_T 381 (e_L 381 (0, ei_inc 13 1 384, 0, 0)) (e_L 384 (0, ei_goto 296, 0, 0))) (e_T 387 (e_L 387 (0, ei_load 12 0 389, 0, 0)) (e_L 389 (1, e_nof, 4, 0)))))))
set_option maxRecDepth 20000 in
set_option maxHeartbeats 4000000 in
theorem te_314_194_ok : ∀ pc, e_EOq eft cls elay eI n_314 pc (te_314_194 pc) :=
  (e_Tok2
  (e_Tok2
  (e_Tok2
  (e_Tok2
  (e_Lok (ps_iconst_1 (x_dk dn_314_1_3_ok 19 rfl)))
  (e_Tok2
  (e_Lok (e_st (I := eI) (er_icmpne (off := 8) (tg := 336) (x_dk dn_314_1_3_ok 20 rfl) (by decide)) nx_if2))
  (e_Lok (ld_iload_11 (x_dk dn_314_1_3_ok 21 rfl)))))
  (e_Tok2
  (e_Tok2
  (e_Lok (e_st (I := eI) (er_goto (off := 5) (tg := 338) (x_dk dn_314_1_3_ok 22 rfl) (by decide)) nx_goto))
  (e_Lok (ld_iload_9 (x_dk dn_314_1_3_ok 23 rfl))))
  (e_Tok2
  (e_Lok (ld_iload_13 (x_dk dn_314_1_3_ok 24 rfl)))
  (e_Lok (ps_iconst_2 (x_dk dn_314_2_0_ok 0 rfl))))))
  (e_Tok2
  (e_Tok2
  (e_Lok (e_st (I := eI) (er_icmpne (off := 8) (tg := 349) (x_dk dn_314_2_0_ok 1 rfl) (by decide)) nx_if2))
  (e_Tok2
  (e_Lok (ld_iload_8 (x_dk dn_314_2_0_ok 2 rfl)))
  (e_Lok (e_st (I := eI) (er_goto (off := 5) (tg := 351) (x_dk dn_314_2_0_ok 3 rfl) (by decide)) nx_goto))))
  (e_Tok2
  (e_Tok2
  (e_Lok (ld_iload_10 (x_dk dn_314_2_0_ok 4 rfl)))
  (e_Lok (ld_iload_13 (x_dk dn_314_2_0_ok 5 rfl))))
  (e_Tok2
  (e_Lok (e_st (I := eI) (er_ifne (off := 8) (tg := 361) (x_dk dn_314_2_0_ok 6 rfl) (by decide)) nx_if1))
  (e_Lok (ld_iload_9 (x_dk dn_314_2_0_ok 7 rfl)))))))
  (e_Tok2
  (e_Tok2
  (e_Tok2
  (e_Lok (e_st (I := eI) (er_goto (off := 5) (tg := 363) (x_dk dn_314_2_0_ok 8 rfl) (by decide)) nx_goto))
  (e_Tok2
  (e_Lok (ld_iload_11 (x_dk dn_314_2_0_ok 9 rfl)))
  (e_Lok (lk_12_428 ho_314 (x_dk dn_314_2_0_ok 10 rfl)))))
  (e_Tok2
  (e_Tok2
  (e_Lok (ld_aload_n_0 (x_dk dn_314_2_0_ok 11 rfl)))
  (e_Lok (lk_12_158g ho_314 (x_dk dn_314_2_0_ok 12 rfl))))
  (e_Tok2
  (e_Lok (ld_aload_n_0 (x_dk dn_314_2_0_ok 13 rfl)))
  (e_Lok (lk_12_161g ho_314 (x_dk dn_314_2_0_ok 14 rfl))))))
  (e_Tok2
  (e_Tok2
  (e_Lok (ld_lload_6 (x_dk dn_314_2_0_ok 15 rfl)))
  (e_Tok2
  (e_Lok (lk_12_439 ho_314 (x_dk dn_314_2_0_ok 16 rfl)))
  (e_Lok (e_st (I := eI) (er_istore (i := 12) (x_dk dn_314_2_0_ok 17 rfl) (by decide +kernel)) nx_stor))))
  (e_Tok2
  (e_Tok2
  (e_Lok (e_st (I := eI) (er_iinc (i := 13) (n := 1) (x_dk dn_314_2_0_ok 18 rfl) (by decide +kernel) (by decide)) nx_inc))
  (e_Lok (e_st (I := eI) (er_goto (off := (-88)) (tg := 296) (x_dk dn_314_2_0_ok 19 rfl) (by decide)) nx_goto)))
  (e_Tok2
  (e_Lok (ld_iload_12 (x_dk dn_314_2_0_ok 20 rfl)))
  (e_Lok (e_rt (I := eI) (k := 4) ⟨(x_dk dn_314_2_0_ok 21 rfl), rfl⟩)))))))
def te_314 : Nat → eE := (e_T 179 (e_T 90 (e_T 44 te_314_0 te_314_27) (e_T 136 te_314_55 te_314_83)) (e_T 274 (e_T 226 te_314_111 te_314_138) (e_T 325 te_314_166 te_314_194)))
theorem te_314_ok : ∀ pc, e_EOq eft cls elay eI n_314 pc (te_314 pc) := (e_Tok2 ((e_Tok2 ((e_Tok2 (te_314_0_ok) (te_314_27_ok))) ((e_Tok2 (te_314_55_ok) (te_314_83_ok))))) ((e_Tok2 ((e_Tok2 (te_314_111_ok) (te_314_138_ok))) ((e_Tok2 (te_314_166_ok) (te_314_194_ok))))))
theorem ho_315 : (xm_y n_315).cls = "RobotCellHouseModel" := rfl
def dn_315_0_0 : List (Nat × Instr × Nat) := [(0, .aload_n 0, 1), (1, .iload_n 1, 1), (2, .invokevirtual 443, 3), (5, .istore 4, 2), (7, .iconst 0, 1), (8, .istore 5, 2), (10, .iload 5, 2), (12, .iload 4, 2), (14, .if_icmp .ge 101, 3), (17, .iload 5, 2), (19, .iconst 2, 1), (20, .iadd, 1), (21, .istore 6, 2), (23, .iload 6, 2), (25, .iload 4, 2), (27, .if_icmp .ge 27, 3), (30, .aload_n 0, 1), (31, .iload_n 1, 1), (32, .iload 5, 2), (34, .iload_n 2, 1), (35, .iload_n 1, 1), (36, .iload 6, 2), (38, .iload_n 2, 1), (39, .iload_n 3, 1), (40, .invokevirtual 446, 3)]
set_option maxRecDepth 20000 in
theorem dn_315_0_0_ok : dn_315_0_0.all (fun q => decide (decode (xm_b n_315) q.1 = .ok (q.2.1, q.2.2))) = true := xa_g_ok (by decide +kernel)
def dn_315_0_1 : List (Nat × Instr × Nat) := [(43, .ifCond .eq 5, 3), (46, .iconst 1, 1), (47, .ireturn, 1), (48, .iinc 6 1, 3), (51, .goto (-28), 3), (54, .iconst 0, 1), (55, .istore 6, 2), (57, .iload 6, 2), (59, .aload_n 0, 1), (60, .getfield 273, 3), (63, .if_icmp .ge 46, 3), (66, .aload_n 0, 1), (67, .getfield 83, 3), (70, .bipush 112, 2), (72, .iload_n 1, 1), (73, .imul, 1), (74, .bipush 16, 2), (76, .iload 5, 2), (78, .imul, 1), (79, .iadd, 1), (80, .iload 6, 2), (82, .iadd, 1), (83, .baload, 1), (84, .ifCond .ne 19, 3), (87, .aload_n 0, 1)]
set_option maxRecDepth 20000 in
theorem dn_315_0_1_ok : dn_315_0_1.all (fun q => decide (decode (xm_b n_315) q.1 = .ok (q.2.1, q.2.2))) = true := xa_g_ok (by decide +kernel)
def dn_315_0_2 : List (Nat × Instr × Nat) := [(88, .iload_n 1, 1), (89, .iload 5, 2), (91, .iload_n 2, 1), (92, .iload 6, 2), (94, .iload_n 3, 1), (95, .invokevirtual 450, 3), (98, .ifCond .eq 5, 3), (101, .iconst 1, 1), (102, .ireturn, 1), (103, .iinc 6 1, 3), (106, .goto (-49), 3), (109, .iinc 5 1, 3), (112, .goto (-102), 3), (115, .iconst 0, 1), (116, .ireturn, 1)]
set_option maxRecDepth 20000 in
theorem dn_315_0_2_ok : dn_315_0_2.all (fun q => decide (decode (xm_b n_315) q.1 = .ok (q.2.1, q.2.2))) = true := xa_g_ok (by decide +kernel)
def te_315_0 : Nat → eE := (e_T 27 (e_T 12 (e_T 5 (e_T 1 (e_T 0 (e_L 0 (0, ei_load 0 2 1, 0, 0)) (e_L 1 (0, ei_load 1 0 2, 0, 0))) (e_T 2 (e_L 2 (2, e_nof, 304, 2)) (e_L 5 (0, ei_stor 4 0 7, 0, 0)))) (e_T 8 (e_T 7 (e_L 7 (0, ei_push (0, 0) 8, 0, 0)) (e_L 8 (0, ei_stor 5 0 10, 0, 0))) (e_T 10 (e_L 10 (0, ei_load 5 0 12, 0, 0)) (e_L 12 (0, ei_load 4 0 14, 0, 0))))) (e_T 20 (e_T 17 (e_T 14 (e_L 14 (0, ei_if2 3 115 17, 0, 0)) (e_L 17 (0, ei_load 5 0 19, 0, 0))) (e_T 19 (e_L 19 (0, ei_push (0, 2) 20, 0, 0)) (e_L 20 (0, ei_bin eF_add 21, 0, 0)))) (e_T 23 (e_T 21 (e_L 21 (0, ei_stor 6 0 23, 0, 0)) (e_L 23 (0, ei_load 6 0 25, 0, 0))) (e_T 25 (e_L 25 (0, ei_load 4 0 27, 0, 0)) (e_L 27 (0, ei_if2 3 54 30, 0, 0)))))) (e_T 39 (e_T 34 (e_T 31 (e_T 30 (e_L 30 (0, ei_load 0 2 31, 0, 0)) (e_L 31 (0, ei_load 1 0 32, 0, 0))) (e_T 32 (e_L 32 (0, ei_load 5 0 34, 0, 0)) (e_L 34 (0, ei_load 2 0 35, 0, 0)))) (e_T 36 (e_T 35 (e_L 35 (0, ei_load 1 0 36, 0, 0)) (e_L 36 (0, ei_load 6 0 38, 0, 0))) (e_T 38 (e_L 38 (0, ei_load 2 0 39, 0, 0)) (e_L 39 (0, ei_load 3 0 40, 0, 0))))) (e_T 47 (e_T 43 (e_T 40 (e_L 40 (2, e_nof, 313, 8)) (e_L 43 (0, ei_if1 0 48 46, 0, 0))) (e_T 46 (e_L 46 (0, ei_push (0, 1) 47, 0, 0)) (e_L 47 (1, e_nof, 4, 0)))) (e_T 51 (e_T 48 (e_L 48 (0, ei_inc 6 1 51, 0, 0)) (e_L 51 (0, ei_goto 23, 0, 0))) (e_T 54 (e_L 54 (0, ei_push (0, 0) 55, 0, 0)) (e_L 55 (0, ei_stor 6 0 57, 0, 0)))))))
set_option maxRecDepth 20000 in
set_option maxHeartbeats 4000000 in
theorem te_315_0_ok : ∀ pc, e_EOq eft cls elay eI n_315 pc (te_315_0 pc) :=
  (e_Tok2
  (e_Tok2
  (e_Tok2
  (e_Tok2
  (e_Tok2
  (e_Lok (ld_aload_n_0 (x_dk dn_315_0_0_ok 0 rfl)))
  (e_Lok (ld_iload_n_1 (x_dk dn_315_0_0_ok 1 rfl))))
  (e_Tok2
  (e_Lok (lk_12_443 ho_315 (x_dk dn_315_0_0_ok 2 rfl)))
  (e_Lok (e_st (I := eI) (er_istore (i := 4) (x_dk dn_315_0_0_ok 3 rfl) (by decide +kernel)) nx_stor))))
  (e_Tok2
  (e_Tok2
  (e_Lok (ps_iconst_0 (x_dk dn_315_0_0_ok 4 rfl)))
  (e_Lok (e_st (I := eI) (er_istore (i := 5) (x_dk dn_315_0_0_ok 5 rfl) (by decide +kernel)) nx_stor)))
  (e_Tok2
  (e_Lok (ld_iload_5 (x_dk dn_315_0_0_ok 6 rfl)))
  (e_Lok (ld_iload_4 (x_dk dn_315_0_0_ok 7 rfl))))))
  (e_Tok2
  (e_Tok2
  (e_Tok2
  (e_Lok (e_st (I := eI) (er_icmpge (off := 101) (tg := 115) (x_dk dn_315_0_0_ok 8 rfl) (by decide)) nx_if2))
  (e_Lok (ld_iload_5 (x_dk dn_315_0_0_ok 9 rfl))))
  (e_Tok2
  (e_Lok (ps_iconst_2 (x_dk dn_315_0_0_ok 10 rfl)))
  (e_Lok (sm_iadd (x_dk dn_315_0_0_ok 11 rfl)))))
  (e_Tok2
  (e_Tok2
  (e_Lok (e_st (I := eI) (er_istore (i := 6) (x_dk dn_315_0_0_ok 12 rfl) (by decide +kernel)) nx_stor))
  (e_Lok (ld_iload_6 (x_dk dn_315_0_0_ok 13 rfl))))
  (e_Tok2
  (e_Lok (ld_iload_4 (x_dk dn_315_0_0_ok 14 rfl)))
  (e_Lok (e_st (I := eI) (er_icmpge (off := 27) (tg := 54) (x_dk dn_315_0_0_ok 15 rfl) (by decide)) nx_if2))))))
  (e_Tok2
  (e_Tok2
  (e_Tok2
  (e_Tok2
  (e_Lok (ld_aload_n_0 (x_dk dn_315_0_0_ok 16 rfl)))
  (e_Lok (ld_iload_n_1 (x_dk dn_315_0_0_ok 17 rfl))))
  (e_Tok2
  (e_Lok (ld_iload_5 (x_dk dn_315_0_0_ok 18 rfl)))
  (e_Lok (ld_iload_n_2 (x_dk dn_315_0_0_ok 19 rfl)))))
  (e_Tok2
  (e_Tok2
  (e_Lok (ld_iload_n_1 (x_dk dn_315_0_0_ok 20 rfl)))
  (e_Lok (ld_iload_6 (x_dk dn_315_0_0_ok 21 rfl))))
  (e_Tok2
  (e_Lok (ld_iload_n_2 (x_dk dn_315_0_0_ok 22 rfl)))
  (e_Lok (ld_iload_n_3 (x_dk dn_315_0_0_ok 23 rfl))))))
  (e_Tok2
  (e_Tok2
  (e_Tok2
  (e_Lok (lk_12_446 ho_315 (x_dk dn_315_0_0_ok 24 rfl)))
  (e_Lok (e_st (I := eI) (er_ifeq (off := 5) (tg := 48) (x_dk dn_315_0_1_ok 0 rfl) (by decide)) nx_if1)))
  (e_Tok2
  (e_Lok (ps_iconst_1 (x_dk dn_315_0_1_ok 1 rfl)))
  (e_Lok (e_rt (I := eI) (k := 4) ⟨(x_dk dn_315_0_1_ok 2 rfl), rfl⟩))))
  (e_Tok2
  (e_Tok2
  (e_Lok (e_st (I := eI) (er_iinc (i := 6) (n := 1) (x_dk dn_315_0_1_ok 3 rfl) (by decide +kernel) (by decide)) nx_inc))
  (e_Lok (e_st (I := eI) (er_goto (off := (-28)) (tg := 23) (x_dk dn_315_0_1_ok 4 rfl) (by decide)) nx_goto)))
  (e_Tok2
  (e_Lok (ps_iconst_0 (x_dk dn_315_0_1_ok 5 rfl)))
  (e_Lok (e_st (I := eI) (er_istore (i := 6) (x_dk dn_315_0_1_ok 6 rfl) (by decide +kernel)) nx_stor)))))))
def te_315_32 : Nat → eE := (e_T 83 (e_T 72 (e_T 63 (e_T 59 (e_T 57 (e_L 57 (0, ei_load 6 0 59, 0, 0)) (e_L 59 (0, ei_load 0 2 60, 0, 0))) (e_T 60 (e_L 60 (0, ei_getf eft elay 12 23 63, 0, 0)) (e_L 63 (0, ei_if2 3 109 66, 0, 0)))) (e_T 67 (e_T 66 (e_L 66 (0, ei_load 0 2 67, 0, 0)) (e_L 67 (0, ei_getf eft elay 12 29 70, 0, 0))) (e_T 70 (e_L 70 (0, ei_push (0, 112) 72, 0, 0)) (e_L 72 (0, ei_load 1 0 73, 0, 0))))) (e_T 78 (e_T 74 (e_T 73 (e_L 73 (0, ei_bin eF_mul 74, 0, 0)) (e_L 74 (0, ei_push (0, 16) 76, 0, 0))) (e_T 76 (e_L 76 (0, ei_load 5 0 78, 0, 0)) (e_L 78 (0, ei_bin eF_mul 79, 0, 0)))) (e_T 80 (e_T 79 (e_L 79 (0, ei_bin eF_add 80, 0, 0)) (e_L 80 (0, ei_load 6 0 82, 0, 0))) (e_T 82 (e_L 82 (0, ei_bin eF_add 83, 0, 0)) (e_L 83 (0, ei_ald elay true 84, 0, 0)))))) (e_T 95 (e_T 89 (e_T 87 (e_T 84 (e_L 84 (0, ei_if1 1 103 87, 0, 0)) (e_L 87 (0, ei_load 0 2 88, 0, 0))) (e_T 88 (e_L 88 (0, ei_load 1 0 89, 0, 0)) (e_L 89 (0, ei_load 5 0 91, 0, 0)))) (e_T 92 (e_T 91 (e_L 91 (0, ei_load 2 0 92, 0, 0)) (e_L 92 (0, ei_load 6 0 94, 0, 0))) (e_T 94 (e_L 94 (0, ei_load 3 0 95, 0, 0)) (e_L 95 (2, e_nof, 314, 6))))) (e_T 103 (e_T 101 (e_T 98 (e_L 98 (0, ei_if1 0 103 101, 0, 0)) (e_L 101 (0, ei_push (0, 1) 102, 0, 0))) (e_T 102 (e_L 102 (1, e_nof, 4, 0)) (e_L 103 (0, ei_inc 6 1 106, 0, 0)))) (e_T 109 (e_T 106 (e_L 106 (0, ei_goto 57, 0, 0)) (e_L 109 (0, ei_inc 5 1 112, 0, 0))) (e_T 112 (e_L 112 (0, ei_goto 10, 0, 0)) (e_T 115 (e_L 115 (0, ei_push (0, 0) 116, 0, 0)) (e_L 116 (1, e_nof, 4, 0))))))))
set_option maxRecDepth 20000 in
set_option maxHeartbeats 4000000 in
theorem te_315_32_ok : ∀ pc, e_EOq eft cls elay eI n_315 pc (te_315_32 pc) :=
  (e_Tok2
  (e_Tok2
  (e_Tok2
  (e_Tok2
  (e_Tok2
  (e_Lok (ld_iload_6 (x_dk dn_315_0_1_ok 7 rfl)))
  (e_Lok (ld_aload_n_0 (x_dk dn_315_0_1_ok 8 rfl))))
  (e_Tok2
  (e_Lok (lk_12_273g ho_315 (x_dk dn_315_0_1_ok 9 rfl)))
  (e_Lok (e_st (I := eI) (er_icmpge (off := 46) (tg := 109) (x_dk dn_315_0_1_ok 10 rfl) (by decide)) nx_if2))))
  (e_Tok2
  (e_Tok2
  (e_Lok (ld_aload_n_0 (x_dk dn_315_0_1_ok 11 rfl)))
  (e_Lok (lk_12_83g ho_315 (x_dk dn_315_0_1_ok 12 rfl))))
  (e_Tok2
  (e_Lok (ps_bipush_112 (x_dk dn_315_0_1_ok 13 rfl)))
  (e_Lok (ld_iload_n_1 (x_dk dn_315_0_1_ok 14 rfl))))))
  (e_Tok2
  (e_Tok2
  (e_Tok2
  (e_Lok (sm_imul (x_dk dn_315_0_1_ok 15 rfl)))
  (e_Lok (ps_bipush_16 (x_dk dn_315_0_1_ok 16 rfl))))
  (e_Tok2
  (e_Lok (ld_iload_5 (x_dk dn_315_0_1_ok 17 rfl)))
  (e_Lok (sm_imul (x_dk dn_315_0_1_ok 18 rfl)))))
  (e_Tok2
  (e_Tok2
  (e_Lok (sm_iadd (x_dk dn_315_0_1_ok 19 rfl)))
  (e_Lok (ld_iload_6 (x_dk dn_315_0_1_ok 20 rfl))))
  (e_Tok2
  (e_Lok (sm_iadd (x_dk dn_315_0_1_ok 21 rfl)))
  (e_Lok (e_st (I := eI) (er_baload (x_dk dn_315_0_1_ok 22 rfl)) nx_ald))))))
  (e_Tok2
  (e_Tok2
  (e_Tok2
  (e_Tok2
  (e_Lok (e_st (I := eI) (er_ifne (off := 19) (tg := 103) (x_dk dn_315_0_1_ok 23 rfl) (by decide)) nx_if1))
  (e_Lok (ld_aload_n_0 (x_dk dn_315_0_1_ok 24 rfl))))
  (e_Tok2
  (e_Lok (ld_iload_n_1 (x_dk dn_315_0_2_ok 0 rfl)))
  (e_Lok (ld_iload_5 (x_dk dn_315_0_2_ok 1 rfl)))))
  (e_Tok2
  (e_Tok2
  (e_Lok (ld_iload_n_2 (x_dk dn_315_0_2_ok 2 rfl)))
  (e_Lok (ld_iload_6 (x_dk dn_315_0_2_ok 3 rfl))))
  (e_Tok2
  (e_Lok (ld_iload_n_3 (x_dk dn_315_0_2_ok 4 rfl)))
  (e_Lok (lk_12_450 ho_315 (x_dk dn_315_0_2_ok 5 rfl))))))
  (e_Tok2
  (e_Tok2
  (e_Tok2
  (e_Lok (e_st (I := eI) (er_ifeq (off := 5) (tg := 103) (x_dk dn_315_0_2_ok 6 rfl) (by decide)) nx_if1))
  (e_Lok (ps_iconst_1 (x_dk dn_315_0_2_ok 7 rfl))))
  (e_Tok2
  (e_Lok (e_rt (I := eI) (k := 4) ⟨(x_dk dn_315_0_2_ok 8 rfl), rfl⟩))
  (e_Lok (e_st (I := eI) (er_iinc (i := 6) (n := 1) (x_dk dn_315_0_2_ok 9 rfl) (by decide +kernel) (by decide)) nx_inc))))
  (e_Tok2
  (e_Tok2
  (e_Lok (e_st (I := eI) (er_goto (off := (-49)) (tg := 57) (x_dk dn_315_0_2_ok 10 rfl) (by decide)) nx_goto))
  (e_Lok (e_st (I := eI) (er_iinc (i := 5) (n := 1) (x_dk dn_315_0_2_ok 11 rfl) (by decide +kernel) (by decide)) nx_inc)))
  (e_Tok2
  (e_Lok (e_st (I := eI) (er_goto (off := (-102)) (tg := 10) (x_dk dn_315_0_2_ok 12 rfl) (by decide)) nx_goto))
  (e_Tok2
  (e_Lok (ps_iconst_0 (x_dk dn_315_0_2_ok 13 rfl)))
  (e_Lok (e_rt (I := eI) (k := 4) ⟨(x_dk dn_315_0_2_ok 14 rfl), rfl⟩))))))))
def te_315 : Nat → eE := (e_T 55 te_315_0 te_315_32)
theorem te_315_ok : ∀ pc, e_EOq eft cls elay eI n_315 pc (te_315 pc) := (e_Tok2 (te_315_0_ok) (te_315_32_ok))
theorem ho_316 : (xm_y n_316).cls = "RobotCellHouseModel" := rfl
def dn_316_0_0 : List (Nat × Instr × Nat) := [(0, .iconst 0, 1), (1, .istore 5, 2), (3, .iload 5, 2), (5, .aload_n 0, 1), (6, .iload_n 1, 1), (7, .invokevirtual 443, 3), (10, .if_icmp .ge 50, 3), (13, .iconst 0, 1), (14, .istore 6, 2), (16, .iload 6, 2), (18, .aload_n 0, 1), (19, .iload_n 3, 1), (20, .invokevirtual 443, 3), (23, .if_icmp .ge 31, 3), (26, .aload_n 0, 1), (27, .iload_n 1, 1), (28, .iload 5, 2), (30, .iload_n 2, 1), (31, .iload_n 3, 1), (32, .iload 6, 2), (34, .bipush 7, 2), (36, .iload_n 3, 1), (37, .imul, 1), (38, .iload 4, 2), (40, .invokevirtual 446, 3)]
set_option maxRecDepth 20000 in
theorem dn_316_0_0_ok : dn_316_0_0.all (fun q => decide (decode (xm_b n_316) q.1 = .ok (q.2.1, q.2.2))) = true := xa_g_ok (by decide +kernel)
def dn_316_0_1 : List (Nat × Instr × Nat) := [(43, .ifCond .eq 5, 3), (46, .iconst 1, 1), (47, .ireturn, 1), (48, .iinc 6 1, 3), (51, .goto (-35), 3), (54, .iinc 5 1, 3), (57, .goto (-54), 3), (60, .iconst 0, 1), (61, .ireturn, 1)]
set_option maxRecDepth 20000 in
theorem dn_316_0_1_ok : dn_316_0_1.all (fun q => decide (decode (xm_b n_316) q.1 = .ok (q.2.1, q.2.2))) = true := xa_g_ok (by decide +kernel)
def te_316_0 : Nat → eE := (e_T 28 (e_T 13 (e_T 5 (e_T 1 (e_T 0 (e_L 0 (0, ei_push (0, 0) 1, 0, 0)) (e_L 1 (0, ei_stor 5 0 3, 0, 0))) (e_T 3 (e_L 3 (0, ei_load 5 0 5, 0, 0)) (e_L 5 (0, ei_load 0 2 6, 0, 0)))) (e_T 7 (e_T 6 (e_L 6 (0, ei_load 1 0 7, 0, 0)) (e_L 7 (2, e_nof, 304, 2))) (e_T 10 (e_L 10 (0, ei_if2 3 60 13, 0, 0)) (e_L 13 (0, ei_push (0, 0) 14, 0, 0))))) (e_T 19 (e_T 16 (e_T 14 (e_L 14 (0, ei_stor 6 0 16, 0, 0)) (e_L 16 (0, ei_load 6 0 18, 0, 0))) (e_T 18 (e_L 18 (0, ei_load 0 2 19, 0, 0)) (e_L 19 (0, ei_load 3 0 20, 0, 0)))) (e_T 23 (e_T 20 (e_L 20 (2, e_nof, 304, 2)) (e_L 23 (0, ei_if2 3 54 26, 0, 0))) (e_T 26 (e_L 26 (0, ei_load 0 2 27, 0, 0)) (e_T 27 (e_L 27 (0, ei_load 1 0 28, 0, 0)) (e_L 28 (0, ei_load 5 0 30, 0, 0))))))) (e_T 40 (e_T 34 (e_T 31 (e_T 30 (e_L 30 (0, ei_load 2 0 31, 0, 0)) (e_L 31 (0, ei_load 3 0 32, 0, 0))) (e_T 32 (e_L 32 (0, ei_load 6 0 34, 0, 0)) (e_L 34 (0, ei_push (0, 7) 36, 0, 0)))) (e_T 37 (e_T 36 (e_L 36 (0, ei_load 3 0 37, 0, 0)) (e_L 37 (0, ei_bin eF_mul 38, 0, 0))) (e_T 38 (e_L 38 (0, ei_load 4 0 40, 0, 0)) (e_L 40 (2, e_nof, 313, 8))))) (e_T 48 (e_T 46 (e_T 43 (e_L 43 (0, ei_if1 0 48 46, 0, 0)) (e_L 46 (0, ei_push (0, 1) 47, 0, 0))) (e_T 47 (e_L 47 (1, e_nof, 4, 0)) (e_L 48 (0, ei_inc 6 1 51, 0, 0)))) (e_T 54 (e_T 51 (e_L 51 (0, ei_goto 16, 0, 0)) (e_L 54 (0, ei_inc 5 1 57, 0, 0))) (e_T 57 (e_L 57 (0, ei_goto 3, 0, 0)) (e_T 60 (e_L 60 (0, ei_push (0, 0) 61, 0, 0)) (e_L 61 (1, e_nof, 4, 0))))))))
set_option maxRecDepth 20000 in
set_option maxHeartbeats 4000000 in
theorem te_316_0_ok : ∀ pc, e_EOq eft cls elay eI n_316 pc (te_316_0 pc) :=
  (e_Tok2
  (e_Tok2
  (e_Tok2
  (e_Tok2
  (e_Tok2
  (e_Lok (ps_iconst_0 (x_dk dn_316_0_0_ok 0 rfl)))
  (e_Lok (e_st (I := eI) (er_istore (i := 5) (x_dk dn_316_0_0_ok 1 rfl) (by decide +kernel)) nx_stor)))
  (e_Tok2
  (e_Lok (ld_iload_5 (x_dk dn_316_0_0_ok 2 rfl)))
  (e_Lok (ld_aload_n_0 (x_dk dn_316_0_0_ok 3 rfl)))))
  (e_Tok2
  (e_Tok2
  (e_Lok (ld_iload_n_1 (x_dk dn_316_0_0_ok 4 rfl)))
  (e_Lok (lk_12_443 ho_316 (x_dk dn_316_0_0_ok 5 rfl))))
  (e_Tok2
  (e_Lok (e_st (I := eI) (er_icmpge (off := 50) (tg := 60) (x_dk dn_316_0_0_ok 6 rfl) (by decide)) nx_if2))
  (e_Lok (ps_iconst_0 (x_dk dn_316_0_0_ok 7 rfl))))))
  (e_Tok2
  (e_Tok2
  (e_Tok2
  (e_Lok (e_st (I := eI) (er_istore (i := 6) (x_dk dn_316_0_0_ok 8 rfl) (by decide +kernel)) nx_stor))
  (e_Lok (ld_iload_6 (x_dk dn_316_0_0_ok 9 rfl))))
  (e_Tok2
  (e_Lok (ld_aload_n_0 (x_dk dn_316_0_0_ok 10 rfl)))
  (e_Lok (ld_iload_n_3 (x_dk dn_316_0_0_ok 11 rfl)))))
  (e_Tok2
  (e_Tok2
  (e_Lok (lk_12_443 ho_316 (x_dk dn_316_0_0_ok 12 rfl)))
  (e_Lok (e_st (I := eI) (er_icmpge (off := 31) (tg := 54) (x_dk dn_316_0_0_ok 13 rfl) (by decide)) nx_if2)))
  (e_Tok2
  (e_Lok (ld_aload_n_0 (x_dk dn_316_0_0_ok 14 rfl)))
  (e_Tok2
  (e_Lok (ld_iload_n_1 (x_dk dn_316_0_0_ok 15 rfl)))
  (e_Lok (ld_iload_5 (x_dk dn_316_0_0_ok 16 rfl))))))))
  (e_Tok2
  (e_Tok2
  (e_Tok2
  (e_Tok2
  (e_Lok (ld_iload_n_2 (x_dk dn_316_0_0_ok 17 rfl)))
  (e_Lok (ld_iload_n_3 (x_dk dn_316_0_0_ok 18 rfl))))
  (e_Tok2
  (e_Lok (ld_iload_6 (x_dk dn_316_0_0_ok 19 rfl)))
  (e_Lok (ps_bipush_7 (x_dk dn_316_0_0_ok 20 rfl)))))
  (e_Tok2
  (e_Tok2
  (e_Lok (ld_iload_n_3 (x_dk dn_316_0_0_ok 21 rfl)))
  (e_Lok (sm_imul (x_dk dn_316_0_0_ok 22 rfl))))
  (e_Tok2
  (e_Lok (ld_iload_4 (x_dk dn_316_0_0_ok 23 rfl)))
  (e_Lok (lk_12_446 ho_316 (x_dk dn_316_0_0_ok 24 rfl))))))
  (e_Tok2
  (e_Tok2
  (e_Tok2
  (e_Lok (e_st (I := eI) (er_ifeq (off := 5) (tg := 48) (x_dk dn_316_0_1_ok 0 rfl) (by decide)) nx_if1))
  (e_Lok (ps_iconst_1 (x_dk dn_316_0_1_ok 1 rfl))))
  (e_Tok2
  (e_Lok (e_rt (I := eI) (k := 4) ⟨(x_dk dn_316_0_1_ok 2 rfl), rfl⟩))
  (e_Lok (e_st (I := eI) (er_iinc (i := 6) (n := 1) (x_dk dn_316_0_1_ok 3 rfl) (by decide +kernel) (by decide)) nx_inc))))
  (e_Tok2
  (e_Tok2
  (e_Lok (e_st (I := eI) (er_goto (off := (-35)) (tg := 16) (x_dk dn_316_0_1_ok 4 rfl) (by decide)) nx_goto))
  (e_Lok (e_st (I := eI) (er_iinc (i := 5) (n := 1) (x_dk dn_316_0_1_ok 5 rfl) (by decide +kernel) (by decide)) nx_inc)))
  (e_Tok2
  (e_Lok (e_st (I := eI) (er_goto (off := (-54)) (tg := 3) (x_dk dn_316_0_1_ok 6 rfl) (by decide)) nx_goto))
  (e_Tok2
  (e_Lok (ps_iconst_0 (x_dk dn_316_0_1_ok 7 rfl)))
  (e_Lok (e_rt (I := eI) (k := 4) ⟨(x_dk dn_316_0_1_ok 8 rfl), rfl⟩))))))))
def te_316 : Nat → eE := te_316_0
theorem te_316_ok : ∀ pc, e_EOq eft cls elay eI n_316 pc (te_316 pc) := te_316_0_ok
theorem ho_317 : (xm_y n_317).cls = "RobotCellHouseModel" := rfl
def dn_317_0_0 : List (Nat × Instr × Nat) := [(0, .aload_n 0, 1), (1, .iload_n 1, 1), (2, .iload_n 2, 1), (3, .iload_n 3, 1), (4, .invokevirtual 454, 3), (7, .istore 4, 2), (9, .iconst 0, 1), (10, .istore 5, 2), (12, .iload 5, 2), (14, .aload_n 0, 1), (15, .getfield 269, 3), (18, .if_icmp .ge 39, 3), (21, .iload 4, 2), (23, .ifCond .ne 34, 3), (26, .iload 5, 2), (28, .iload_n 1, 1), (29, .if_icmp .eq 19, 3), (32, .aload_n 0, 1), (33, .iload_n 1, 1), (34, .iload_n 2, 1), (35, .iload 5, 2), (37, .iload_n 3, 1), (38, .invokevirtual 458, 3), (41, .ifCond .eq 7, 3), (44, .iconst 1, 1)]
set_option maxRecDepth 20000 in
theorem dn_317_0_0_ok : dn_317_0_0.all (fun q => decide (decode (xm_b n_317) q.1 = .ok (q.2.1, q.2.2))) = true := xa_g_ok (by decide +kernel)
def dn_317_0_1 : List (Nat × Instr × Nat) := [(45, .goto 4, 3), (48, .iconst 0, 1), (49, .istore 4, 2), (51, .iinc 5 1, 3), (54, .goto (-42), 3), (57, .iload 4, 2), (59, .ireturn, 1)]
set_option maxRecDepth 20000 in
theorem dn_317_0_1_ok : dn_317_0_1.all (fun q => decide (decode (xm_b n_317) q.1 = .ok (q.2.1, q.2.2))) = true := xa_g_ok (by decide +kernel)
def te_317_0 : Nat → eE := (e_T 28 (e_T 10 (e_T 3 (e_T 1 (e_T 0 (e_L 0 (0, ei_load 0 2 1, 0, 0)) (e_L 1 (0, ei_load 1 0 2, 0, 0))) (e_T 2 (e_L 2 (0, ei_load 2 0 3, 0, 0)) (e_L 3 (0, ei_load 3 0 4, 0, 0)))) (e_T 7 (e_T 4 (e_L 4 (2, e_nof, 315, 4)) (e_L 7 (0, ei_stor 4 0 9, 0, 0))) (e_T 9 (e_L 9 (0, ei_push (0, 0) 10, 0, 0)) (e_L 10 (0, ei_stor 5 0 12, 0, 0))))) (e_T 18 (e_T 14 (e_T 12 (e_L 12 (0, ei_load 5 0 14, 0, 0)) (e_L 14 (0, ei_load 0 2 15, 0, 0))) (e_T 15 (e_L 15 (0, ei_getf eft elay 12 10 18, 0, 0)) (e_L 18 (0, ei_if2 3 57 21, 0, 0)))) (e_T 23 (e_T 21 (e_L 21 (0, ei_load 4 0 23, 0, 0)) (e_L 23 (0, ei_if1 1 57 26, 0, 0))) (e_T 26 (e_L 26 (0, ei_load 5 0 28, 0, 0)) (e_L 28 (0, ei_load 1 0 29, 0, 0)))))) (e_T 41 (e_T 34 (e_T 32 (e_T 29 (e_L 29 (0, ei_if2 0 48 32, 0, 0)) (e_L 32 (0, ei_load 0 2 33, 0, 0))) (e_T 33 (e_L 33 (0, ei_load 1 0 34, 0, 0)) (e_L 34 (0, ei_load 2 0 35, 0, 0)))) (e_T 37 (e_T 35 (e_L 35 (0, ei_load 5 0 37, 0, 0)) (e_L 37 (0, ei_load 3 0 38, 0, 0))) (e_T 38 (e_L 38 (2, e_nof, 316, 5)) (e_L 41 (0, ei_if1 0 48 44, 0, 0))))) (e_T 49 (e_T 45 (e_T 44 (e_L 44 (0, ei_push (0, 1) 45, 0, 0)) (e_L 45 (0, ei_goto 49, 0, 0))) (e_T 48 (e_L 48 (0, ei_push (0, 0) 49, 0, 0)) (e_L 49 (0, ei_stor 4 0 51, 0, 0)))) (e_T 54 (e_T 51 (e_L 51 (0, ei_inc 5 1 54, 0, 0)) (e_L 54 (0, ei_goto 12, 0, 0))) (e_T 57 (e_L 57 (0, ei_load 4 0 59, 0, 0)) (e_L 59 (1, e_nof, 4, 0)))))))
set_option maxRecDepth 20000 in
set_option maxHeartbeats 4000000 in
theorem te_317_0_ok : ∀ pc, e_EOq eft cls elay eI n_317 pc (te_317_0 pc) :=
  (e_Tok2
  (e_Tok2
  (e_Tok2
  (e_Tok2
  (e_Tok2
  (e_Lok (ld_aload_n_0 (x_dk dn_317_0_0_ok 0 rfl)))
  (e_Lok (ld_iload_n_1 (x_dk dn_317_0_0_ok 1 rfl))))
  (e_Tok2
  (e_Lok (ld_iload_n_2 (x_dk dn_317_0_0_ok 2 rfl)))
  (e_Lok (ld_iload_n_3 (x_dk dn_317_0_0_ok 3 rfl)))))
  (e_Tok2
  (e_Tok2
  (e_Lok (lk_12_454 ho_317 (x_dk dn_317_0_0_ok 4 rfl)))
  (e_Lok (e_st (I := eI) (er_istore (i := 4) (x_dk dn_317_0_0_ok 5 rfl) (by decide +kernel)) nx_stor)))
  (e_Tok2
  (e_Lok (ps_iconst_0 (x_dk dn_317_0_0_ok 6 rfl)))
  (e_Lok (e_st (I := eI) (er_istore (i := 5) (x_dk dn_317_0_0_ok 7 rfl) (by decide +kernel)) nx_stor)))))
  (e_Tok2
  (e_Tok2
  (e_Tok2
  (e_Lok (ld_iload_5 (x_dk dn_317_0_0_ok 8 rfl)))
  (e_Lok (ld_aload_n_0 (x_dk dn_317_0_0_ok 9 rfl))))
  (e_Tok2
  (e_Lok (lk_12_269g ho_317 (x_dk dn_317_0_0_ok 10 rfl)))
  (e_Lok (e_st (I := eI) (er_icmpge (off := 39) (tg := 57) (x_dk dn_317_0_0_ok 11 rfl) (by decide)) nx_if2))))
  (e_Tok2
  (e_Tok2
  (e_Lok (ld_iload_4 (x_dk dn_317_0_0_ok 12 rfl)))
  (e_Lok (e_st (I := eI) (er_ifne (off := 34) (tg := 57) (x_dk dn_317_0_0_ok 13 rfl) (by decide)) nx_if1)))
  (e_Tok2
  (e_Lok (ld_iload_5 (x_dk dn_317_0_0_ok 14 rfl)))
  (e_Lok (ld_iload_n_1 (x_dk dn_317_0_0_ok 15 rfl)))))))
  (e_Tok2
  (e_Tok2
  (e_Tok2
  (e_Tok2
  (e_Lok (e_st (I := eI) (er_icmpeq (off := 19) (tg := 48) (x_dk dn_317_0_0_ok 16 rfl) (by decide)) nx_if2))
  (e_Lok (ld_aload_n_0 (x_dk dn_317_0_0_ok 17 rfl))))
  (e_Tok2
  (e_Lok (ld_iload_n_1 (x_dk dn_317_0_0_ok 18 rfl)))
  (e_Lok (ld_iload_n_2 (x_dk dn_317_0_0_ok 19 rfl)))))
  (e_Tok2
  (e_Tok2
  (e_Lok (ld_iload_5 (x_dk dn_317_0_0_ok 20 rfl)))
  (e_Lok (ld_iload_n_3 (x_dk dn_317_0_0_ok 21 rfl))))
  (e_Tok2
  (e_Lok (lk_12_458 ho_317 (x_dk dn_317_0_0_ok 22 rfl)))
  (e_Lok (e_st (I := eI) (er_ifeq (off := 7) (tg := 48) (x_dk dn_317_0_0_ok 23 rfl) (by decide)) nx_if1)))))
  (e_Tok2
  (e_Tok2
  (e_Tok2
  (e_Lok (ps_iconst_1 (x_dk dn_317_0_0_ok 24 rfl)))
  (e_Lok (e_st (I := eI) (er_goto (off := 4) (tg := 49) (x_dk dn_317_0_1_ok 0 rfl) (by decide)) nx_goto)))
  (e_Tok2
  (e_Lok (ps_iconst_0 (x_dk dn_317_0_1_ok 1 rfl)))
  (e_Lok (e_st (I := eI) (er_istore (i := 4) (x_dk dn_317_0_1_ok 2 rfl) (by decide +kernel)) nx_stor))))
  (e_Tok2
  (e_Tok2
  (e_Lok (e_st (I := eI) (er_iinc (i := 5) (n := 1) (x_dk dn_317_0_1_ok 3 rfl) (by decide +kernel) (by decide)) nx_inc))
  (e_Lok (e_st (I := eI) (er_goto (off := (-42)) (tg := 12) (x_dk dn_317_0_1_ok 4 rfl) (by decide)) nx_goto)))
  (e_Tok2
  (e_Lok (ld_iload_4 (x_dk dn_317_0_1_ok 5 rfl)))
  (e_Lok (e_rt (I := eI) (k := 4) ⟨(x_dk dn_317_0_1_ok 6 rfl), rfl⟩)))))))
def te_317 : Nat → eE := te_317_0
theorem te_317_ok : ∀ pc, e_EOq eft cls elay eI n_317 pc (te_317 pc) := te_317_0_ok
theorem ho_318 : (xm_y n_318).cls = "RobotCellHouseModel" := rfl
def dn_318_0_0 : List (Nat × Instr × Nat) := [(0, .aload_n 0, 1), (1, .iload_n 1, 1), (2, .invokevirtual 305, 3), (5, .ifCond .eq 15, 3), (8, .iload_n 2, 1), (9, .i2l, 1), (10, .lconst 0, 1), (11, .ldc2_w 336, 3), (14, .invokestatic 301, 3), (17, .ifCond .ne 5, 3), (20, .iconst (-1), 1), (21, .ireturn, 1), (22, .aload_n 0, 1), (23, .invokevirtual 401, 3), (26, .aload_n 0, 1), (27, .iload_n 1, 1), (28, .bipush 7, 2), (30, .iload_n 1, 1), (31, .imul, 1), (32, .iload_n 2, 1), (33, .invokevirtual 461, 3), (36, .ifCond .eq 7, 3), (39, .iconst 1, 1), (40, .goto 4, 3), (43, .iconst 0, 1)]
set_option maxRecDepth 20000 in
theorem dn_318_0_0_ok : dn_318_0_0.all (fun q => decide (decode (xm_b n_318) q.1 = .ok (q.2.1, q.2.2))) = true := xa_g_ok (by decide +kernel)
def dn_318_0_1 : List (Nat × Instr × Nat) := [(44, .ireturn, 1)]
set_option maxRecDepth 20000 in
theorem dn_318_0_1_ok : dn_318_0_1.all (fun q => decide (decode (xm_b n_318) q.1 = .ok (q.2.1, q.2.2))) = true := xa_g_ok (by decide +kernel)
def te_318_0 : Nat → eE := (e_T 22 (e_T 9 (e_T 2 (e_T 0 (e_L 0 (0, ei_load 0 2 1, 0, 0)) (e_T 1 (e_L 1 (0, ei_load 1 0 2, 0, 0)) (e_L 2 (2, e_nof, 270, 2)))) (e_T 5 (e_L 5 (0, ei_if1 0 20 8, 0, 0)) (e_T 8 (e_L 8 (0, ei_load 2 0 9, 0, 0)) (e_L 9 (0, ei_un (fun x => (4, x)) 10, 0, 0))))) (e_T 14 (e_T 10 (e_L 10 (0, ei_push (4, 0) 11, 0, 0)) (e_T 11 (e_L 11 (0, ei_push (4, 2000) 14, 0, 0)) (e_L 14 (2, e_nof, 266, 3)))) (e_T 20 (e_T 17 (e_L 17 (0, ei_if1 1 22 20, 0, 0)) (e_L 20 (0, ei_push (0, (-1)) 21, 0, 0))) (e_T 21 (e_L 21 (1, e_nof, 1, 0)) (e_L 22 (0, ei_load 0 2 23, 0, 0)))))) (e_T 31 (e_T 27 (e_T 23 (e_L 23 (2, e_nof, 302, 1)) (e_T 26 (e_L 26 (0, ei_load 0 2 27, 0, 0)) (e_L 27 (0, ei_load 1 0 28, 0, 0)))) (e_T 28 (e_L 28 (0, ei_push (0, 7) 30, 0, 0)) (e_T 30 (e_L 30 (0, ei_load 1 0 31, 0, 0)) (e_L 31 (0, ei_bin eF_mul 32, 0, 0))))) (e_T 36 (e_T 32 (e_L 32 (0, ei_load 2 0 33, 0, 0)) (e_T 33 (e_L 33 (2, e_nof, 317, 4)) (e_L 36 (0, ei_if1 0 43 39, 0, 0)))) (e_T 40 (e_T 39 (e_L 39 (0, ei_push (0, 1) 40, 0, 0)) (e_L 40 (0, ei_goto 44, 0, 0))) (e_T 43 (e_L 43 (0, ei_push (0, 0) 44, 0, 0)) (e_L 44 (1, e_nof, 1, 0)))))))
set_option maxRecDepth 20000 in
set_option maxHeartbeats 4000000 in
theorem te_318_0_ok : ∀ pc, e_EOq eft cls elay eI n_318 pc (te_318_0 pc) :=
  (e_Tok2
  (e_Tok2
  (e_Tok2
  (e_Tok2
  (e_Lok (ld_aload_n_0 (x_dk dn_318_0_0_ok 0 rfl)))
  (e_Tok2
  (e_Lok (ld_iload_n_1 (x_dk dn_318_0_0_ok 1 rfl)))
  (e_Lok (lk_12_305 ho_318 (x_dk dn_318_0_0_ok 2 rfl)))))
  (e_Tok2
  (e_Lok (e_st (I := eI) (er_ifeq (off := 15) (tg := 20) (x_dk dn_318_0_0_ok 3 rfl) (by decide)) nx_if1))
  (e_Tok2
  (e_Lok (ld_iload_n_2 (x_dk dn_318_0_0_ok 4 rfl)))
  (e_Lok (e_st (I := eI) (er_i2l (x_dk dn_318_0_0_ok 5 rfl)) (nx_un (fun _ => rfl)))))))
  (e_Tok2
  (e_Tok2
  (e_Lok (ps_lconst_0 (x_dk dn_318_0_0_ok 6 rfl)))
  (e_Tok2
  (e_Lok (e_st (I := eI) (er_ldc2 (ix := 336) (z := 2000) (v := 2000) (x_dk dn_318_0_0_ok 7 rfl) (in_t11 (List.mem_of_getElem? (i := 41) rfl) rfl) (by decide)) (nx_push (Or.inl rfl))))
  (e_Lok (lk_12_301 ho_318 (x_dk dn_318_0_0_ok 8 rfl)))))
  (e_Tok2
  (e_Tok2
  (e_Lok (e_st (I := eI) (er_ifne (off := 5) (tg := 22) (x_dk dn_318_0_0_ok 9 rfl) (by decide)) nx_if1))
  (e_Lok (ps_iconst_m1 (x_dk dn_318_0_0_ok 10 rfl))))
  (e_Tok2
  (e_Lok (e_rt (I := eI) (k := 1) ⟨(x_dk dn_318_0_0_ok 11 rfl), rfl⟩))
  (e_Lok (ld_aload_n_0 (x_dk dn_318_0_0_ok 12 rfl)))))))
  (e_Tok2
  (e_Tok2
  (e_Tok2
  (e_Lok (lk_12_401 ho_318 (x_dk dn_318_0_0_ok 13 rfl)))
  (e_Tok2
  (e_Lok (ld_aload_n_0 (x_dk dn_318_0_0_ok 14 rfl)))
  (e_Lok (ld_iload_n_1 (x_dk dn_318_0_0_ok 15 rfl)))))
  (e_Tok2
  (e_Lok (ps_bipush_7 (x_dk dn_318_0_0_ok 16 rfl)))
  (e_Tok2
  (e_Lok (ld_iload_n_1 (x_dk dn_318_0_0_ok 17 rfl)))
  (e_Lok (sm_imul (x_dk dn_318_0_0_ok 18 rfl))))))
  (e_Tok2
  (e_Tok2
  (e_Lok (ld_iload_n_2 (x_dk dn_318_0_0_ok 19 rfl)))
  (e_Tok2
  (e_Lok (lk_12_461 ho_318 (x_dk dn_318_0_0_ok 20 rfl)))
  (e_Lok (e_st (I := eI) (er_ifeq (off := 7) (tg := 43) (x_dk dn_318_0_0_ok 21 rfl) (by decide)) nx_if1))))
  (e_Tok2
  (e_Tok2
  (e_Lok (ps_iconst_1 (x_dk dn_318_0_0_ok 22 rfl)))
  (e_Lok (e_st (I := eI) (er_goto (off := 4) (tg := 44) (x_dk dn_318_0_0_ok 23 rfl) (by decide)) nx_goto)))
  (e_Tok2
  (e_Lok (ps_iconst_0 (x_dk dn_318_0_0_ok 24 rfl)))
  (e_Lok (e_rt (I := eI) (k := 1) ⟨(x_dk dn_318_0_1_ok 0 rfl), rfl⟩)))))))
def te_318 : Nat → eE := te_318_0
theorem te_318_ok : ∀ pc, e_EOq eft cls elay eI n_318 pc (te_318 pc) := te_318_0_ok
theorem ho_319 : (xm_y n_319).cls = "RobotCellHouseModel" := rfl
def dn_319_0_0 : List (Nat × Instr × Nat) := [(0, .aload_n 0, 1), (1, .getfield 8, 3), (4, .iconst 5, 1), (5, .iaload, 1), (6, .sipush 2000, 3), (9, .if_icmp .ge 60, 3), (12, .sipush 25060, 3), (15, .iconst 4, 1), (16, .aload_n 0, 1), (17, .getfield 8, 3), (20, .iconst 5, 1), (21, .iaload, 1), (22, .imul, 1), (23, .iadd, 1), (24, .istore 4, 2), (26, .aload_n 0, 1), (27, .getfield 8, 3), (30, .iload 4, 2), (32, .aload_n 0, 1), (33, .getfield 8, 3), (36, .iconst 0, 1), (37, .iaload, 1), (38, .iastore, 1), (39, .aload_n 0, 1), (40, .getfield 8, 3)]
set_option maxRecDepth 20000 in
theorem dn_319_0_0_ok : dn_319_0_0.all (fun q => decide (decode (xm_b n_319) q.1 = .ok (q.2.1, q.2.2))) = true := xa_g_ok (by decide +kernel)
def dn_319_0_1 : List (Nat × Instr × Nat) := [(43, .iload 4, 2), (45, .iconst 1, 1), (46, .iadd, 1), (47, .iload_n 1, 1), (48, .iastore, 1), (49, .aload_n 0, 1), (50, .getfield 8, 3), (53, .iload 4, 2), (55, .iconst 2, 1), (56, .iadd, 1), (57, .iload_n 2, 1), (58, .iastore, 1), (59, .aload_n 0, 1), (60, .getfield 8, 3), (63, .iload 4, 2), (65, .iconst 3, 1), (66, .iadd, 1), (67, .iload_n 3, 1), (68, .iastore, 1), (69, .aload_n 0, 1), (70, .getfield 8, 3), (73, .iconst 5, 1), (74, .dup2, 1), (75, .iaload, 1), (76, .iconst 1, 1)]
set_option maxRecDepth 20000 in
theorem dn_319_0_1_ok : dn_319_0_1.all (fun q => decide (decode (xm_b n_319) q.1 = .ok (q.2.1, q.2.2))) = true := xa_g_ok (by decide +kernel)
def dn_319_0_2 : List (Nat × Instr × Nat) := [(77, .iadd, 1), (78, .iastore, 1), (79, .return_, 1)]
set_option maxRecDepth 20000 in
theorem dn_319_0_2_ok : dn_319_0_2.all (fun q => decide (decode (xm_b n_319) q.1 = .ok (q.2.1, q.2.2))) = true := xa_g_ok (by decide +kernel)
def te_319_0 : Nat → eE := (e_T 22 (e_T 9 (e_T 4 (e_T 0 (e_L 0 (0, ei_load 0 2 1, 0, 0)) (e_T 1 (e_L 1 (0, ei_getf eft elay 12 0 4, 0, 0)) (e_L 4 (0, ei_push (0, 5) 5, 0, 0)))) (e_T 5 (e_L 5 (0, ei_ald elay false 6, 0, 0)) (e_T 6 (e_L 6 (0, ei_push (0, 2000) 9, 0, 0)) (e_L 9 (0, ei_if2 3 69 12, 0, 0))))) (e_T 16 (e_T 12 (e_L 12 (0, ei_push (0, 25060) 15, 0, 0)) (e_T 15 (e_L 15 (0, ei_push (0, 4) 16, 0, 0)) (e_L 16 (0, ei_load 0 2 17, 0, 0)))) (e_T 20 (e_T 17 (e_L 17 (0, ei_getf eft elay 12 0 20, 0, 0)) (e_L 20 (0, ei_push (0, 5) 21, 0, 0))) (e_T 21 (e_L 21 (0, ei_ald elay false 22, 0, 0)) (e_L 22 (0, ei_bin eF_mul 23, 0, 0)))))) (e_T 32 (e_T 26 (e_T 23 (e_L 23 (0, ei_bin eF_add 24, 0, 0)) (e_T 24 (e_L 24 (0, ei_stor 4 0 26, 0, 0)) (e_L 26 (0, ei_load 0 2 27, 0, 0)))) (e_T 27 (e_L 27 (0, ei_getf eft elay 12 0 30, 0, 0)) (e_T 30 (e_L 30 (0, ei_load 4 0 32, 0, 0)) (e_L 32 (0, ei_load 0 2 33, 0, 0))))) (e_T 37 (e_T 33 (e_L 33 (0, ei_getf eft elay 12 0 36, 0, 0)) (e_T 36 (e_L 36 (0, ei_push (0, 0) 37, 0, 0)) (e_L 37 (0, ei_ald elay false 38, 0, 0)))) (e_T 39 (e_T 38 (e_L 38 (0, ei_ast elay false 39, 0, 0)) (e_L 39 (0, ei_load 0 2 40, 0, 0))) (e_T 40 (e_L 40 (0, ei_getf eft elay 12 0 43, 0, 0)) (e_L 43 (0, ei_load 4 0 45, 0, 0)))))))
set_option maxRecDepth 20000 in
set_option maxHeartbeats 4000000 in
theorem te_319_0_ok : ∀ pc, e_EOq eft cls elay eI n_319 pc (te_319_0 pc) :=
  (e_Tok2
  (e_Tok2
  (e_Tok2
  (e_Tok2
  (e_Lok (ld_aload_n_0 (x_dk dn_319_0_0_ok 0 rfl)))
  (e_Tok2
  (e_Lok (lk_12_8g ho_319 (x_dk dn_319_0_0_ok 1 rfl)))
  (e_Lok (ps_iconst_5 (x_dk dn_319_0_0_ok 2 rfl)))))
  (e_Tok2
  (e_Lok (sm_iaload (x_dk dn_319_0_0_ok 3 rfl)))
  (e_Tok2
  (e_Lok (ps_sipush_2000 (x_dk dn_319_0_0_ok 4 rfl)))
  (e_Lok (e_st (I := eI) (er_icmpge (off := 60) (tg := 69) (x_dk dn_319_0_0_ok 5 rfl) (by decide)) nx_if2)))))
  (e_Tok2
  (e_Tok2
  (e_Lok (ps_sipush_25060 (x_dk dn_319_0_0_ok 6 rfl)))
  (e_Tok2
  (e_Lok (ps_iconst_4 (x_dk dn_319_0_0_ok 7 rfl)))
  (e_Lok (ld_aload_n_0 (x_dk dn_319_0_0_ok 8 rfl)))))
  (e_Tok2
  (e_Tok2
  (e_Lok (lk_12_8g ho_319 (x_dk dn_319_0_0_ok 9 rfl)))
  (e_Lok (ps_iconst_5 (x_dk dn_319_0_0_ok 10 rfl))))
  (e_Tok2
  (e_Lok (sm_iaload (x_dk dn_319_0_0_ok 11 rfl)))
  (e_Lok (sm_imul (x_dk dn_319_0_0_ok 12 rfl)))))))
  (e_Tok2
  (e_Tok2
  (e_Tok2
  (e_Lok (sm_iadd (x_dk dn_319_0_0_ok 13 rfl)))
  (e_Tok2
  (e_Lok (e_st (I := eI) (er_istore (i := 4) (x_dk dn_319_0_0_ok 14 rfl) (by decide +kernel)) nx_stor))
  (e_Lok (ld_aload_n_0 (x_dk dn_319_0_0_ok 15 rfl)))))
  (e_Tok2
  (e_Lok (lk_12_8g ho_319 (x_dk dn_319_0_0_ok 16 rfl)))
  (e_Tok2
  (e_Lok (ld_iload_4 (x_dk dn_319_0_0_ok 17 rfl)))
  (e_Lok (ld_aload_n_0 (x_dk dn_319_0_0_ok 18 rfl))))))
  (e_Tok2
  (e_Tok2
  (e_Lok (lk_12_8g ho_319 (x_dk dn_319_0_0_ok 19 rfl)))
  (e_Tok2
  (e_Lok (ps_iconst_0 (x_dk dn_319_0_0_ok 20 rfl)))
  (e_Lok (sm_iaload (x_dk dn_319_0_0_ok 21 rfl)))))
  (e_Tok2
  (e_Tok2
  (e_Lok (sm_iastore (x_dk dn_319_0_0_ok 22 rfl)))
  (e_Lok (ld_aload_n_0 (x_dk dn_319_0_0_ok 23 rfl))))
  (e_Tok2
  (e_Lok (lk_12_8g ho_319 (x_dk dn_319_0_0_ok 24 rfl)))
  (e_Lok (ld_iload_4 (x_dk dn_319_0_1_ok 0 rfl))))))))
def te_319_26 : Nat → eE := (e_T 60 (e_T 50 (e_T 47 (e_T 45 (e_L 45 (0, ei_push (0, 1) 46, 0, 0)) (e_T 46 (e_L 46 (0, ei_bin eF_add 47, 0, 0)) (e_L 47 (0, ei_load 1 0 48, 0, 0)))) (e_T 48 (e_L 48 (0, ei_ast elay false 49, 0, 0)) (e_T 49 (e_L 49 (0, ei_load 0 2 50, 0, 0)) (e_L 50 (0, ei_getf eft elay 12 0 53, 0, 0))))) (e_T 56 (e_T 53 (e_L 53 (0, ei_load 4 0 55, 0, 0)) (e_T 55 (e_L 55 (0, ei_push (0, 2) 56, 0, 0)) (e_L 56 (0, ei_bin eF_add 57, 0, 0)))) (e_T 58 (e_T 57 (e_L 57 (0, ei_load 2 0 58, 0, 0)) (e_L 58 (0, ei_ast elay false 59, 0, 0))) (e_T 59 (e_L 59 (0, ei_load 0 2 60, 0, 0)) (e_L 60 (0, ei_getf eft elay 12 0 63, 0, 0)))))) (e_T 70 (e_T 66 (e_T 63 (e_L 63 (0, ei_load 4 0 65, 0, 0)) (e_T 65 (e_L 65 (0, ei_push (0, 3) 66, 0, 0)) (e_L 66 (0, ei_bin eF_add 67, 0, 0)))) (e_T 68 (e_T 67 (e_L 67 (0, ei_load 3 0 68, 0, 0)) (e_L 68 (0, ei_ast elay false 69, 0, 0))) (e_T 69 (e_L 69 (0, ei_load 0 2 70, 0, 0)) (e_L 70 (0, ei_getf eft elay 12 0 73, 0, 0))))) (e_T 75 (e_T 73 (e_L 73 (0, ei_push (0, 5) 74, 0, 0)) (e_T 74 (e_L 74 (0, ei_stk ef_dup2 75, 0, 0)) (e_L 75 (0, ei_ald elay false 76, 0, 0)))) (e_T 77 (e_T 76 (e_L 76 (0, ei_push (0, 1) 77, 0, 0)) (e_L 77 (0, ei_bin eF_add 78, 0, 0))) (e_T 78 (e_L 78 (0, ei_ast elay false 79, 0, 0)) (e_L 79 (1, e_nof, 0, 0)))))))
set_option maxRecDepth 20000 in
set_option maxHeartbeats 4000000 in
theorem te_319_26_ok : ∀ pc, e_EOq eft cls elay eI n_319 pc (te_319_26 pc) :=
  (e_Tok2
  (e_Tok2
  (e_Tok2
  (e_Tok2
  (e_Lok (ps_iconst_1 (x_dk dn_319_0_1_ok 1 rfl)))
  (e_Tok2
  (e_Lok (sm_iadd (x_dk dn_319_0_1_ok 2 rfl)))
  (e_Lok (ld_iload_n_1 (x_dk dn_319_0_1_ok 3 rfl)))))
  (e_Tok2
  (e_Lok (sm_iastore (x_dk dn_319_0_1_ok 4 rfl)))
  (e_Tok2
  (e_Lok (ld_aload_n_0 (x_dk dn_319_0_1_ok 5 rfl)))
  (e_Lok (lk_12_8g ho_319 (x_dk dn_319_0_1_ok 6 rfl))))))
  (e_Tok2
  (e_Tok2
  (e_Lok (ld_iload_4 (x_dk dn_319_0_1_ok 7 rfl)))
  (e_Tok2
  (e_Lok (ps_iconst_2 (x_dk dn_319_0_1_ok 8 rfl)))
  (e_Lok (sm_iadd (x_dk dn_319_0_1_ok 9 rfl)))))
  (e_Tok2
  (e_Tok2
  (e_Lok (ld_iload_n_2 (x_dk dn_319_0_1_ok 10 rfl)))
  (e_Lok (sm_iastore (x_dk dn_319_0_1_ok 11 rfl))))
  (e_Tok2
  (e_Lok (ld_aload_n_0 (x_dk dn_319_0_1_ok 12 rfl)))
  (e_Lok (lk_12_8g ho_319 (x_dk dn_319_0_1_ok 13 rfl)))))))
  (e_Tok2
  (e_Tok2
  (e_Tok2
  (e_Lok (ld_iload_4 (x_dk dn_319_0_1_ok 14 rfl)))
  (e_Tok2
  (e_Lok (ps_iconst_3 (x_dk dn_319_0_1_ok 15 rfl)))
  (e_Lok (sm_iadd (x_dk dn_319_0_1_ok 16 rfl)))))
  (e_Tok2
  (e_Tok2
  (e_Lok (ld_iload_n_3 (x_dk dn_319_0_1_ok 17 rfl)))
  (e_Lok (sm_iastore (x_dk dn_319_0_1_ok 18 rfl))))
  (e_Tok2
  (e_Lok (ld_aload_n_0 (x_dk dn_319_0_1_ok 19 rfl)))
  (e_Lok (lk_12_8g ho_319 (x_dk dn_319_0_1_ok 20 rfl))))))
  (e_Tok2
  (e_Tok2
  (e_Lok (ps_iconst_5 (x_dk dn_319_0_1_ok 21 rfl)))
  (e_Tok2
  (e_Lok (e_st (I := eI) (er_dup2 (x_dk dn_319_0_1_ok 22 rfl)) (nx_stk bf_dup2)))
  (e_Lok (sm_iaload (x_dk dn_319_0_1_ok 23 rfl)))))
  (e_Tok2
  (e_Tok2
  (e_Lok (ps_iconst_1 (x_dk dn_319_0_1_ok 24 rfl)))
  (e_Lok (sm_iadd (x_dk dn_319_0_2_ok 0 rfl))))
  (e_Tok2
  (e_Lok (sm_iastore (x_dk dn_319_0_2_ok 1 rfl)))
  (e_Lok (e_rt (I := eI) (k := 0) ⟨(x_dk dn_319_0_2_ok 2 rfl), rfl⟩)))))))
def te_319 : Nat → eE := (e_T 43 te_319_0 te_319_26)
theorem te_319_ok : ∀ pc, e_EOq eft cls elay eI n_319 pc (te_319 pc) := (e_Tok2 (te_319_0_ok) (te_319_26_ok))
theorem ho_320 : (xm_y n_320).cls = "RobotCellHouseModel" := rfl
def dn_320_0_0 : List (Nat × Instr × Nat) := [(0, .iconst 0, 1), (1, .istore_n 2, 1), (2, .iload_n 1, 1), (3, .istore_n 3, 1), (4, .aload_n 0, 1), (5, .getfield 8, 3), (8, .sipush 224, 3), (11, .iload_n 3, 1), (12, .iadd, 1), (13, .iaload, 1), (14, .ifCond .ne 32, 3), (17, .aload_n 0, 1), (18, .getfield 140, 3), (21, .iload_n 3, 1), (22, .iaload, 1), (23, .ifCond .lt 23, 3), (26, .aload_n 0, 1), (27, .getfield 164, 3), (30, .iload_n 2, 1), (31, .iload_n 3, 1), (32, .iastore, 1), (33, .iinc 2 1, 3), (36, .aload_n 0, 1), (37, .getfield 140, 3), (40, .iload_n 3, 1)]
set_option maxRecDepth 20000 in
theorem dn_320_0_0_ok : dn_320_0_0.all (fun q => decide (decode (xm_b n_320) q.1 = .ok (q.2.1, q.2.2))) = true := xa_g_ok (by decide +kernel)
def dn_320_0_1 : List (Nat × Instr × Nat) := [(41, .iaload, 1), (42, .istore_n 3, 1), (43, .goto (-39), 3), (46, .aload_n 0, 1), (47, .getfield 8, 3), (50, .sipush 224, 3), (53, .iload_n 3, 1), (54, .iadd, 1), (55, .iaload, 1), (56, .iconst 1, 1), (57, .if_icmp .ne 16, 3), (60, .aload_n 0, 1), (61, .getfield 8, 3), (64, .sipush 288, 3), (67, .iload_n 3, 1), (68, .iadd, 1), (69, .iaload, 1), (70, .goto 13, 3), (73, .aload_n 0, 1), (74, .getfield 8, 3), (77, .sipush 160, 3), (80, .iload_n 3, 1), (81, .iadd, 1), (82, .iaload, 1), (83, .istore 4, 2)]
set_option maxRecDepth 20000 in
theorem dn_320_0_1_ok : dn_320_0_1.all (fun q => decide (decode (xm_b n_320) q.1 = .ok (q.2.1, q.2.2))) = true := xa_g_ok (by decide +kernel)
def dn_320_0_2 : List (Nat × Instr × Nat) := [(85, .iload_n 2, 1), (86, .iconst 1, 1), (87, .isub, 1), (88, .istore 5, 2), (90, .iload 5, 2), (92, .ifCond .lt 41, 3), (95, .aload_n 0, 1), (96, .getfield 143, 3), (99, .aload_n 0, 1), (100, .getfield 164, 3), (103, .iload 5, 2), (105, .iaload, 1), (106, .baload, 1), (107, .ifCond .ne 8, 3), (110, .iload 4, 2), (112, .goto 13, 3), (115, .iload 4, 2), (117, .ifCond .ne 7, 3), (120, .iconst 1, 1), (121, .goto 4, 3), (124, .iconst 0, 1), (125, .istore 4, 2), (127, .iinc 5 (-1), 3), (130, .goto (-40), 3), (133, .iload 4, 2)]
set_option maxRecDepth 20000 in
theorem dn_320_0_2_ok : dn_320_0_2.all (fun q => decide (decode (xm_b n_320) q.1 = .ok (q.2.1, q.2.2))) = true := xa_g_ok (by decide +kernel)
def dn_320_0_3 : List (Nat × Instr × Nat) := [(135, .ireturn, 1)]
set_option maxRecDepth 20000 in
theorem dn_320_0_3_ok : dn_320_0_3.all (fun q => decide (decode (xm_b n_320) q.1 = .ok (q.2.1, q.2.2))) = true := xa_g_ok (by decide +kernel)
def te_320_0 : Nat → eE := (e_T 30 (e_T 12 (e_T 3 (e_T 1 (e_T 0 (e_L 0 (0, ei_push (0, 0) 1, 0, 0)) (e_L 1 (0, ei_stor 2 0 2, 0, 0))) (e_T 2 (e_L 2 (0, ei_load 1 0 3, 0, 0)) (e_L 3 (0, ei_stor 3 0 4, 0, 0)))) (e_T 5 (e_T 4 (e_L 4 (0, ei_load 0 2 5, 0, 0)) (e_L 5 (0, ei_getf eft elay 12 0 8, 0, 0))) (e_T 8 (e_L 8 (0, ei_push (0, 224) 11, 0, 0)) (e_T 11 (e_L 11 (0, ei_load 3 0 12, 0, 0)) (e_L 12 (0, ei_bin eF_add 13, 0, 0)))))) (e_T 21 (e_T 14 (e_T 13 (e_L 13 (0, ei_ald elay false 14, 0, 0)) (e_L 14 (0, ei_if1 1 46 17, 0, 0))) (e_T 17 (e_L 17 (0, ei_load 0 2 18, 0, 0)) (e_T 18 (e_L 18 (0, ei_getf eft elay 12 52 21, 0, 0)) (e_L 21 (0, ei_load 3 0 22, 0, 0))))) (e_T 23 (e_T 22 (e_L 22 (0, ei_ald elay false 23, 0, 0)) (e_L 23 (0, ei_if1 2 46 26, 0, 0))) (e_T 26 (e_L 26 (0, ei_load 0 2 27, 0, 0)) (e_T 27 (e_L 27 (0, ei_getf eft elay 12 63 30, 0, 0)) (e_L 30 (0, ei_load 2 0 31, 0, 0))))))) (e_T 43 (e_T 36 (e_T 32 (e_T 31 (e_L 31 (0, ei_load 3 0 32, 0, 0)) (e_L 32 (0, ei_ast elay false 33, 0, 0))) (e_T 33 (e_L 33 (0, ei_inc 2 1 36, 0, 0)) (e_L 36 (0, ei_load 0 2 37, 0, 0)))) (e_T 40 (e_T 37 (e_L 37 (0, ei_getf eft elay 12 52 40, 0, 0)) (e_L 40 (0, ei_load 3 0 41, 0, 0))) (e_T 41 (e_L 41 (0, ei_ald elay false 42, 0, 0)) (e_T 42 (e_L 42 (0, ei_stor 3 0 43, 0, 0)) (e_L 43 (0, ei_goto 4, 0, 0)))))) (e_T 54 (e_T 47 (e_T 46 (e_L 46 (0, ei_load 0 2 47, 0, 0)) (e_L 47 (0, ei_getf eft elay 12 0 50, 0, 0))) (e_T 50 (e_L 50 (0, ei_push (0, 224) 53, 0, 0)) (e_T 53 (e_L 53 (0, ei_load 3 0 54, 0, 0)) (e_L 54 (0, ei_bin eF_add 55, 0, 0))))) (e_T 56 (e_T 55 (e_L 55 (0, ei_ald elay false 56, 0, 0)) (e_L 56 (0, ei_push (0, 1) 57, 0, 0))) (e_T 57 (e_L 57 (0, ei_if2 1 73 60, 0, 0)) (e_T 60 (e_L 60 (0, ei_load 0 2 61, 0, 0)) (e_L 61 (0, ei_getf eft elay 12 0 64, 0, 0))))))))
set_option maxRecDepth 20000 in
set_option maxHeartbeats 4000000 in
theorem te_320_0_ok : ∀ pc, e_EOq eft cls elay eI n_320 pc (te_320_0 pc) :=
  (e_Tok2
  (e_Tok2
  (e_Tok2
  (e_Tok2
  (e_Tok2
  (e_Lok (ps_iconst_0 (x_dk dn_320_0_0_ok 0 rfl)))
  (e_Lok (e_st (I := eI) (er_istore_n (i := 2) (x_dk dn_320_0_0_ok 1 rfl) (by decide +kernel)) nx_stor)))
  (e_Tok2
  (e_Lok (ld_iload_n_1 (x_dk dn_320_0_0_ok 2 rfl)))
  (e_Lok (e_st (I := eI) (er_istore_n (i := 3) (x_dk dn_320_0_0_ok 3 rfl) (by decide +kernel)) nx_stor))))
  (e_Tok2
  (e_Tok2
  (e_Lok (ld_aload_n_0 (x_dk dn_320_0_0_ok 4 rfl)))
  (e_Lok (lk_12_8g ho_320 (x_dk dn_320_0_0_ok 5 rfl))))
  (e_Tok2
  (e_Lok (ps_sipush_224 (x_dk dn_320_0_0_ok 6 rfl)))
  (e_Tok2
  (e_Lok (ld_iload_n_3 (x_dk dn_320_0_0_ok 7 rfl)))
  (e_Lok (sm_iadd (x_dk dn_320_0_0_ok 8 rfl)))))))
  (e_Tok2
  (e_Tok2
  (e_Tok2
  (e_Lok (sm_iaload (x_dk dn_320_0_0_ok 9 rfl)))
  (e_Lok (e_st (I := eI) (er_ifne (off := 32) (tg := 46) (x_dk dn_320_0_0_ok 10 rfl) (by decide)) nx_if1)))
  (e_Tok2
  (e_Lok (ld_aload_n_0 (x_dk dn_320_0_0_ok 11 rfl)))
  (e_Tok2
  (e_Lok (lk_12_140g ho_320 (x_dk dn_320_0_0_ok 12 rfl)))
  (e_Lok (ld_iload_n_3 (x_dk dn_320_0_0_ok 13 rfl))))))
  (e_Tok2
  (e_Tok2
  (e_Lok (sm_iaload (x_dk dn_320_0_0_ok 14 rfl)))
  (e_Lok (e_st (I := eI) (er_iflt (off := 23) (tg := 46) (x_dk dn_320_0_0_ok 15 rfl) (by decide)) nx_if1)))
  (e_Tok2
  (e_Lok (ld_aload_n_0 (x_dk dn_320_0_0_ok 16 rfl)))
  (e_Tok2
  (e_Lok (lk_12_164g ho_320 (x_dk dn_320_0_0_ok 17 rfl)))
  (e_Lok (ld_iload_n_2 (x_dk dn_320_0_0_ok 18 rfl))))))))
  (e_Tok2
  (e_Tok2
  (e_Tok2
  (e_Tok2
  (e_Lok (ld_iload_n_3 (x_dk dn_320_0_0_ok 19 rfl)))
  (e_Lok (sm_iastore (x_dk dn_320_0_0_ok 20 rfl))))
  (e_Tok2
  (e_Lok (e_st (I := eI) (er_iinc (i := 2) (n := 1) (x_dk dn_320_0_0_ok 21 rfl) (by decide +kernel) (by decide)) nx_inc))
  (e_Lok (ld_aload_n_0 (x_dk dn_320_0_0_ok 22 rfl)))))
  (e_Tok2
  (e_Tok2
  (e_Lok (lk_12_140g ho_320 (x_dk dn_320_0_0_ok 23 rfl)))
  (e_Lok (ld_iload_n_3 (x_dk dn_320_0_0_ok 24 rfl))))
  (e_Tok2
  (e_Lok (sm_iaload (x_dk dn_320_0_1_ok 0 rfl)))
  (e_Tok2
  (e_Lok (e_st (I := eI) (er_istore_n (i := 3) (x_dk dn_320_0_1_ok 1 rfl) (by decide +kernel)) nx_stor))
  (e_Lok (e_st (I := eI) (er_goto (off := (-39)) (tg := 4) (x_dk dn_320_0_1_ok 2 rfl) (by decide)) nx_goto))))))
  (e_Tok2
  (e_Tok2
  (e_Tok2
  (e_Lok (ld_aload_n_0 (x_dk dn_320_0_1_ok 3 rfl)))
  (e_Lok (lk_12_8g ho_320 (x_dk dn_320_0_1_ok 4 rfl))))
  (e_Tok2
  (e_Lok (ps_sipush_224 (x_dk dn_320_0_1_ok 5 rfl)))
  (e_Tok2
  (e_Lok (ld_iload_n_3 (x_dk dn_320_0_1_ok 6 rfl)))
  (e_Lok (sm_iadd (x_dk dn_320_0_1_ok 7 rfl))))))
  (e_Tok2
  (e_Tok2
  (e_Lok (sm_iaload (x_dk dn_320_0_1_ok 8 rfl)))
  (e_Lok (ps_iconst_1 (x_dk dn_320_0_1_ok 9 rfl))))
  (e_Tok2
  (e_Lok (e_st (I := eI) (er_icmpne (off := 16) (tg := 73) (x_dk dn_320_0_1_ok 10 rfl) (by decide)) nx_if2))
  (e_Tok2
  (e_Lok (ld_aload_n_0 (x_dk dn_320_0_1_ok 11 rfl)))
  (e_Lok (lk_12_8g ho_320 (x_dk dn_320_0_1_ok 12 rfl)))))))))
def te_320_38 : Nat → eE := (e_T 95 (e_T 80 (e_T 69 (e_T 67 (e_T 64 (e_L 64 (0, ei_push (0, 288) 67, 0, 0)) (e_L 67 (0, ei_load 3 0 68, 0, 0))) (e_T 68 (e_L 68 (0, ei_bin eF_add 69, 0, 0)) (e_L 69 (0, ei_ald elay false 70, 0, 0)))) (e_T 73 (e_T 70 (e_L 70 (0, ei_goto 83, 0, 0)) (e_L 73 (0, ei_load 0 2 74, 0, 0))) (e_T 74 (e_L 74 (0, ei_getf eft elay 12 0 77, 0, 0)) (e_T 77 (e_L 77 (0, ei_push (0, 160) 80, 0, 0)) (e_L 80 (0, ei_load 3 0 81, 0, 0)))))) (e_T 86 (e_T 82 (e_T 81 (e_L 81 (0, ei_bin eF_add 82, 0, 0)) (e_L 82 (0, ei_ald elay false 83, 0, 0))) (e_T 83 (e_L 83 (0, ei_stor 4 0 85, 0, 0)) (e_T 85 (e_L 85 (0, ei_load 2 0 86, 0, 0)) (e_L 86 (0, ei_push (0, 1) 87, 0, 0))))) (e_T 88 (e_T 87 (e_L 87 (0, ei_bin eF_sub 88, 0, 0)) (e_L 88 (0, ei_stor 5 0 90, 0, 0))) (e_T 90 (e_L 90 (0, ei_load 5 0 92, 0, 0)) (e_T 92 (e_L 92 (0, ei_if1 2 133 95, 0, 0)) (e_L 95 (0, ei_load 0 2 96, 0, 0))))))) (e_T 112 (e_T 103 (e_T 99 (e_T 96 (e_L 96 (0, ei_getf eft elay 12 53 99, 0, 0)) (e_L 99 (0, ei_load 0 2 100, 0, 0))) (e_T 100 (e_L 100 (0, ei_getf eft elay 12 63 103, 0, 0)) (e_L 103 (0, ei_load 5 0 105, 0, 0)))) (e_T 106 (e_T 105 (e_L 105 (0, ei_ald elay false 106, 0, 0)) (e_L 106 (0, ei_ald elay true 107, 0, 0))) (e_T 107 (e_L 107 (0, ei_if1 1 115 110, 0, 0)) (e_T 110 (e_L 110 (0, ei_load 4 0 112, 0, 0)) (e_L 112 (0, ei_goto 125, 0, 0)))))) (e_T 124 (e_T 117 (e_T 115 (e_L 115 (0, ei_load 4 0 117, 0, 0)) (e_L 117 (0, ei_if1 1 124 120, 0, 0))) (e_T 120 (e_L 120 (0, ei_push (0, 1) 121, 0, 0)) (e_T 121 (e_L 121 (0, ei_goto 125, 0, 0)) (e_L 124 (0, ei_push (0, 0) 125, 0, 0))))) (e_T 127 (e_T 125 (e_L 125 (0, ei_stor 4 0 127, 0, 0)) (e_L 127 (0, ei_inc 5 (-1) 130, 0, 0))) (e_T 130 (e_L 130 (0, ei_goto 90, 0, 0)) (e_T 133 (e_L 133 (0, ei_load 4 0 135, 0, 0)) (e_L 135 (1, e_nof, 1, 0))))))))
set_option maxRecDepth 20000 in
set_option maxHeartbeats 4000000 in
theorem te_320_38_ok : ∀ pc, e_EOq eft cls elay eI n_320 pc (te_320_38 pc) :=
  (e_Tok2
  (e_Tok2
  (e_Tok2
  (e_Tok2
  (e_Tok2
  (e_Lok (ps_sipush_288 (x_dk dn_320_0_1_ok 13 rfl)))
  (e_Lok (ld_iload_n_3 (x_dk dn_320_0_1_ok 14 rfl))))
  (e_Tok2
  (e_Lok (sm_iadd (x_dk dn_320_0_1_ok 15 rfl)))
  (e_Lok (sm_iaload (x_dk dn_320_0_1_ok 16 rfl)))))
  (e_Tok2
  (e_Tok2
  (e_Lok (e_st (I := eI) (er_goto (off := 13) (tg := 83) (x_dk dn_320_0_1_ok 17 rfl) (by decide)) nx_goto))
  (e_Lok (ld_aload_n_0 (x_dk dn_320_0_1_ok 18 rfl))))
  (e_Tok2
  (e_Lok (lk_12_8g ho_320 (x_dk dn_320_0_1_ok 19 rfl)))
  (e_Tok2
  (e_Lok (ps_sipush_160 (x_dk dn_320_0_1_ok 20 rfl)))
  (e_Lok (ld_iload_n_3 (x_dk dn_320_0_1_ok 21 rfl)))))))
  (e_Tok2
  (e_Tok2
  (e_Tok2
  (e_Lok (sm_iadd (x_dk dn_320_0_1_ok 22 rfl)))
  (e_Lok (sm_iaload (x_dk dn_320_0_1_ok 23 rfl))))
  (e_Tok2
  (e_Lok (e_st (I := eI) (er_istore (i := 4) (x_dk dn_320_0_1_ok 24 rfl) (by decide +kernel)) nx_stor))
  (e_Tok2
  (e_Lok (ld_iload_n_2 (x_dk dn_320_0_2_ok 0 rfl)))
  (e_Lok (ps_iconst_1 (x_dk dn_320_0_2_ok 1 rfl))))))
  (e_Tok2
  (e_Tok2
  (e_Lok (sm_isub (x_dk dn_320_0_2_ok 2 rfl)))
  (e_Lok (e_st (I := eI) (er_istore (i := 5) (x_dk dn_320_0_2_ok 3 rfl) (by decide +kernel)) nx_stor)))
  (e_Tok2
  (e_Lok (ld_iload_5 (x_dk dn_320_0_2_ok 4 rfl)))
  (e_Tok2
  (e_Lok (e_st (I := eI) (er_iflt (off := 41) (tg := 133) (x_dk dn_320_0_2_ok 5 rfl) (by decide)) nx_if1))
  (e_Lok (ld_aload_n_0 (x_dk dn_320_0_2_ok 6 rfl))))))))
  (e_Tok2
  (e_Tok2
  (e_Tok2
  (e_Tok2
  (e_Lok (lk_12_143g ho_320 (x_dk dn_320_0_2_ok 7 rfl)))
  (e_Lok (ld_aload_n_0 (x_dk dn_320_0_2_ok 8 rfl))))
  (e_Tok2
  (e_Lok (lk_12_164g ho_320 (x_dk dn_320_0_2_ok 9 rfl)))
  (e_Lok (ld_iload_5 (x_dk dn_320_0_2_ok 10 rfl)))))
  (e_Tok2
  (e_Tok2
  (e_Lok (sm_iaload (x_dk dn_320_0_2_ok 11 rfl)))
  (e_Lok (e_st (I := eI) (er_baload (x_dk dn_320_0_2_ok 12 rfl)) nx_ald)))
  (e_Tok2
  (e_Lok (e_st (I := eI) (er_ifne (off := 8) (tg := 115) (x_dk dn_320_0_2_ok 13 rfl) (by decide)) nx_if1))
  (e_Tok2
  (e_Lok (ld_iload_4 (x_dk dn_320_0_2_ok 14 rfl)))
  (e_Lok (e_st (I := eI) (er_goto (off := 13) (tg := 125) (x_dk dn_320_0_2_ok 15 rfl) (by decide)) nx_goto))))))
  (e_Tok2
  (e_Tok2
  (e_Tok2
  (e_Lok (ld_iload_4 (x_dk dn_320_0_2_ok 16 rfl)))
  (e_Lok (e_st (I := eI) (er_ifne (off := 7) (tg := 124) (x_dk dn_320_0_2_ok 17 rfl) (by decide)) nx_if1)))
  (e_Tok2
  (e_Lok (ps_iconst_1 (x_dk dn_320_0_2_ok 18 rfl)))
  (e_Tok2
  (e_Lok (e_st (I := eI) (er_goto (off := 4) (tg := 125) (x_dk dn_320_0_2_ok 19 rfl) (by decide)) nx_goto))
  (e_Lok (ps_iconst_0 (x_dk dn_320_0_2_ok 20 rfl))))))
  (e_Tok2
  (e_Tok2
  (e_Lok (e_st (I := eI) (er_istore (i := 4) (x_dk dn_320_0_2_ok 21 rfl) (by decide +kernel)) nx_stor))
  (e_Lok (e_st (I := eI) (er_iinc (i := 5) (n := (-1)) (x_dk dn_320_0_2_ok 22 rfl) (by decide +kernel) (by decide)) nx_inc)))
  (e_Tok2
  (e_Lok (e_st (I := eI) (er_goto (off := (-40)) (tg := 90) (x_dk dn_320_0_2_ok 23 rfl) (by decide)) nx_goto))
  (e_Tok2
  (e_Lok (ld_iload_4 (x_dk dn_320_0_2_ok 24 rfl)))
  (e_Lok (e_rt (I := eI) (k := 1) ⟨(x_dk dn_320_0_3_ok 0 rfl), rfl⟩))))))))
def te_320 : Nat → eE := (e_T 61 te_320_0 te_320_38)
theorem te_320_ok : ∀ pc, e_EOq eft cls elay eI n_320 pc (te_320 pc) := (e_Tok2 (te_320_0_ok) (te_320_38_ok))
end
end
-- part 41ax
section
noncomputable section
theorem ho_321 : (xm_y n_321).cls = "RobotCellHouseModel" := rfl
def dn_321_0_0 : List (Nat × Instr × Nat) := [(0, .iconst 0, 1), (1, .istore_n 1, 1), (2, .iload_n 1, 1), (3, .bipush 64, 2), (5, .if_icmp .ge 28, 3), (8, .aload_n 0, 1), (9, .getfield 167, 3), (12, .iload_n 1, 1), (13, .aload_n 0, 1), (14, .iload_n 1, 1), (15, .invokevirtual 464, 3), (18, .ifCond .ne 7, 3), (21, .iconst 1, 1), (22, .goto 4, 3), (25, .iconst 0, 1), (26, .bastore, 1), (27, .iinc 1 1, 3), (30, .goto (-28), 3), (33, .return_, 1)]
set_option maxRecDepth 20000 in
theorem dn_321_0_0_ok : dn_321_0_0.all (fun q => decide (decode (xm_b n_321) q.1 = .ok (q.2.1, q.2.2))) = true := xa_g_ok (by decide +kernel)
def te_321_0 : Nat → eE := (e_T 13 (e_T 3 (e_T 1 (e_T 0 (e_L 0 (0, ei_push (0, 0) 1, 0, 0)) (e_L 1 (0, ei_stor 1 0 2, 0, 0))) (e_T 2 (e_L 2 (0, ei_load 1 0 3, 0, 0)) (e_L 3 (0, ei_push (0, 64) 5, 0, 0)))) (e_T 8 (e_T 5 (e_L 5 (0, ei_if2 3 33 8, 0, 0)) (e_L 8 (0, ei_load 0 2 9, 0, 0))) (e_T 9 (e_L 9 (0, ei_getf eft elay 12 64 12, 0, 0)) (e_T 12 (e_L 12 (0, ei_load 1 0 13, 0, 0)) (e_L 13 (0, ei_load 0 2 14, 0, 0)))))) (e_T 22 (e_T 15 (e_T 14 (e_L 14 (0, ei_load 1 0 15, 0, 0)) (e_L 15 (2, e_nof, 320, 2))) (e_T 18 (e_L 18 (0, ei_if1 1 25 21, 0, 0)) (e_T 21 (e_L 21 (0, ei_push (0, 1) 22, 0, 0)) (e_L 22 (0, ei_goto 26, 0, 0))))) (e_T 26 (e_T 25 (e_L 25 (0, ei_push (0, 0) 26, 0, 0)) (e_L 26 (0, ei_ast elay true 27, 0, 0))) (e_T 27 (e_L 27 (0, ei_inc 1 1 30, 0, 0)) (e_T 30 (e_L 30 (0, ei_goto 2, 0, 0)) (e_L 33 (1, e_nof, 0, 0)))))))
set_option maxRecDepth 20000 in
set_option maxHeartbeats 4000000 in
theorem te_321_0_ok : ∀ pc, e_EOq eft cls elay eI n_321 pc (te_321_0 pc) :=
  (e_Tok2
  (e_Tok2
  (e_Tok2
  (e_Tok2
  (e_Lok (ps_iconst_0 (x_dk dn_321_0_0_ok 0 rfl)))
  (e_Lok (e_st (I := eI) (er_istore_n (i := 1) (x_dk dn_321_0_0_ok 1 rfl) (by decide +kernel)) nx_stor)))
  (e_Tok2
  (e_Lok (ld_iload_n_1 (x_dk dn_321_0_0_ok 2 rfl)))
  (e_Lok (ps_bipush_64 (x_dk dn_321_0_0_ok 3 rfl)))))
  (e_Tok2
  (e_Tok2
  (e_Lok (e_st (I := eI) (er_icmpge (off := 28) (tg := 33) (x_dk dn_321_0_0_ok 4 rfl) (by decide)) nx_if2))
  (e_Lok (ld_aload_n_0 (x_dk dn_321_0_0_ok 5 rfl))))
  (e_Tok2
  (e_Lok (lk_12_167g ho_321 (x_dk dn_321_0_0_ok 6 rfl)))
  (e_Tok2
  (e_Lok (ld_iload_n_1 (x_dk dn_321_0_0_ok 7 rfl)))
  (e_Lok (ld_aload_n_0 (x_dk dn_321_0_0_ok 8 rfl)))))))
  (e_Tok2
  (e_Tok2
  (e_Tok2
  (e_Lok (ld_iload_n_1 (x_dk dn_321_0_0_ok 9 rfl)))
  (e_Lok (lk_12_464 ho_321 (x_dk dn_321_0_0_ok 10 rfl))))
  (e_Tok2
  (e_Lok (e_st (I := eI) (er_ifne (off := 7) (tg := 25) (x_dk dn_321_0_0_ok 11 rfl) (by decide)) nx_if1))
  (e_Tok2
  (e_Lok (ps_iconst_1 (x_dk dn_321_0_0_ok 12 rfl)))
  (e_Lok (e_st (I := eI) (er_goto (off := 4) (tg := 26) (x_dk dn_321_0_0_ok 13 rfl) (by decide)) nx_goto)))))
  (e_Tok2
  (e_Tok2
  (e_Lok (ps_iconst_0 (x_dk dn_321_0_0_ok 14 rfl)))
  (e_Lok (e_st (I := eI) (er_bastore (x_dk dn_321_0_0_ok 15 rfl)) nx_ast)))
  (e_Tok2
  (e_Lok (e_st (I := eI) (er_iinc (i := 1) (n := 1) (x_dk dn_321_0_0_ok 16 rfl) (by decide +kernel) (by decide)) nx_inc))
  (e_Tok2
  (e_Lok (e_st (I := eI) (er_goto (off := (-28)) (tg := 2) (x_dk dn_321_0_0_ok 17 rfl) (by decide)) nx_goto))
  (e_Lok (e_rt (I := eI) (k := 0) ⟨(x_dk dn_321_0_0_ok 18 rfl), rfl⟩)))))))
def te_321 : Nat → eE := te_321_0
theorem te_321_ok : ∀ pc, e_EOq eft cls elay eI n_321 pc (te_321 pc) := te_321_0_ok
theorem ho_322 : (xm_y n_322).cls = "RobotCellHouseModel" := rfl
def dn_322_0_0 : List (Nat × Instr × Nat) := [(0, .iconst 0, 1), (1, .istore_n 1, 1), (2, .iload_n 1, 1), (3, .bipush 64, 2), (5, .if_icmp .ge 44, 3), (8, .aload_n 0, 1), (9, .getfield 8, 3), (12, .sipush 352, 3), (15, .iload_n 1, 1), (16, .iadd, 1), (17, .dup2, 1), (18, .iaload, 1), (19, .aload_n 0, 1), (20, .getfield 167, 3), (23, .iload_n 1, 1), (24, .baload, 1), (25, .ifCond .eq 15, 3), (28, .aload_n 0, 1), (29, .iload_n 1, 1), (30, .invokevirtual 464, 3), (33, .ifCond .eq 7, 3), (36, .iconst 1, 1), (37, .goto 4, 3), (40, .iconst 0, 1), (41, .iadd, 1)]
set_option maxRecDepth 20000 in
theorem dn_322_0_0_ok : dn_322_0_0.all (fun q => decide (decode (xm_b n_322) q.1 = .ok (q.2.1, q.2.2))) = true := xa_g_ok (by decide +kernel)
def dn_322_0_1 : List (Nat × Instr × Nat) := [(42, .iastore, 1), (43, .iinc 1 1, 3), (46, .goto (-44), 3), (49, .return_, 1)]
set_option maxRecDepth 20000 in
theorem dn_322_0_1_ok : dn_322_0_1.all (fun q => decide (decode (xm_b n_322) q.1 = .ok (q.2.1, q.2.2))) = true := xa_g_ok (by decide +kernel)
def te_322_0 : Nat → eE := (e_T 20 (e_T 9 (e_T 2 (e_T 0 (e_L 0 (0, ei_push (0, 0) 1, 0, 0)) (e_T 1 (e_L 1 (0, ei_stor 1 0 2, 0, 0)) (e_L 2 (0, ei_load 1 0 3, 0, 0)))) (e_T 5 (e_T 3 (e_L 3 (0, ei_push (0, 64) 5, 0, 0)) (e_L 5 (0, ei_if2 3 49 8, 0, 0))) (e_T 8 (e_L 8 (0, ei_load 0 2 9, 0, 0)) (e_L 9 (0, ei_getf eft elay 12 0 12, 0, 0))))) (e_T 16 (e_T 12 (e_L 12 (0, ei_push (0, 352) 15, 0, 0)) (e_T 15 (e_L 15 (0, ei_load 1 0 16, 0, 0)) (e_L 16 (0, ei_bin eF_add 17, 0, 0)))) (e_T 18 (e_T 17 (e_L 17 (0, ei_stk ef_dup2 18, 0, 0)) (e_L 18 (0, ei_ald elay false 19, 0, 0))) (e_T 19 (e_L 19 (0, ei_load 0 2 20, 0, 0)) (e_L 20 (0, ei_getf eft elay 12 64 23, 0, 0)))))) (e_T 33 (e_T 25 (e_T 23 (e_L 23 (0, ei_load 1 0 24, 0, 0)) (e_T 24 (e_L 24 (0, ei_ald elay true 25, 0, 0)) (e_L 25 (0, ei_if1 0 40 28, 0, 0)))) (e_T 29 (e_T 28 (e_L 28 (0, ei_load 0 2 29, 0, 0)) (e_L 29 (0, ei_load 1 0 30, 0, 0))) (e_T 30 (e_L 30 (2, e_nof, 320, 2)) (e_L 33 (0, ei_if1 0 40 36, 0, 0))))) (e_T 41 (e_T 37 (e_T 36 (e_L 36 (0, ei_push (0, 1) 37, 0, 0)) (e_L 37 (0, ei_goto 41, 0, 0))) (e_T 40 (e_L 40 (0, ei_push (0, 0) 41, 0, 0)) (e_L 41 (0, ei_bin eF_add 42, 0, 0)))) (e_T 43 (e_T 42 (e_L 42 (0, ei_ast elay false 43, 0, 0)) (e_L 43 (0, ei_inc 1 1 46, 0, 0))) (e_T 46 (e_L 46 (0, ei_goto 2, 0, 0)) (e_L 49 (1, e_nof, 0, 0)))))))
set_option maxRecDepth 20000 in
set_option maxHeartbeats 4000000 in
theorem te_322_0_ok : ∀ pc, e_EOq eft cls elay eI n_322 pc (te_322_0 pc) :=
  (e_Tok2
  (e_Tok2
  (e_Tok2
  (e_Tok2
  (e_Lok (ps_iconst_0 (x_dk dn_322_0_0_ok 0 rfl)))
  (e_Tok2
  (e_Lok (e_st (I := eI) (er_istore_n (i := 1) (x_dk dn_322_0_0_ok 1 rfl) (by decide +kernel)) nx_stor))
  (e_Lok (ld_iload_n_1 (x_dk dn_322_0_0_ok 2 rfl)))))
  (e_Tok2
  (e_Tok2
  (e_Lok (ps_bipush_64 (x_dk dn_322_0_0_ok 3 rfl)))
  (e_Lok (e_st (I := eI) (er_icmpge (off := 44) (tg := 49) (x_dk dn_322_0_0_ok 4 rfl) (by decide)) nx_if2)))
  (e_Tok2
  (e_Lok (ld_aload_n_0 (x_dk dn_322_0_0_ok 5 rfl)))
  (e_Lok (lk_12_8g ho_322 (x_dk dn_322_0_0_ok 6 rfl))))))
  (e_Tok2
  (e_Tok2
  (e_Lok (ps_sipush_352 (x_dk dn_322_0_0_ok 7 rfl)))
  (e_Tok2
  (e_Lok (ld_iload_n_1 (x_dk dn_322_0_0_ok 8 rfl)))
  (e_Lok (sm_iadd (x_dk dn_322_0_0_ok 9 rfl)))))
  (e_Tok2
  (e_Tok2
  (e_Lok (e_st (I := eI) (er_dup2 (x_dk dn_322_0_0_ok 10 rfl)) (nx_stk bf_dup2)))
  (e_Lok (sm_iaload (x_dk dn_322_0_0_ok 11 rfl))))
  (e_Tok2
  (e_Lok (ld_aload_n_0 (x_dk dn_322_0_0_ok 12 rfl)))
  (e_Lok (lk_12_167g ho_322 (x_dk dn_322_0_0_ok 13 rfl)))))))
  (e_Tok2
  (e_Tok2
  (e_Tok2
  (e_Lok (ld_iload_n_1 (x_dk dn_322_0_0_ok 14 rfl)))
  (e_Tok2
  (e_Lok (e_st (I := eI) (er_baload (x_dk dn_322_0_0_ok 15 rfl)) nx_ald))
  (e_Lok (e_st (I := eI) (er_ifeq (off := 15) (tg := 40) (x_dk dn_322_0_0_ok 16 rfl) (by decide)) nx_if1))))
  (e_Tok2
  (e_Tok2
  (e_Lok (ld_aload_n_0 (x_dk dn_322_0_0_ok 17 rfl)))
  (e_Lok (ld_iload_n_1 (x_dk dn_322_0_0_ok 18 rfl))))
  (e_Tok2
  (e_Lok (lk_12_464 ho_322 (x_dk dn_322_0_0_ok 19 rfl)))
  (e_Lok (e_st (I := eI) (er_ifeq (off := 7) (tg := 40) (x_dk dn_322_0_0_ok 20 rfl) (by decide)) nx_if1)))))
  (e_Tok2
  (e_Tok2
  (e_Tok2
  (e_Lok (ps_iconst_1 (x_dk dn_322_0_0_ok 21 rfl)))
  (e_Lok (e_st (I := eI) (er_goto (off := 4) (tg := 41) (x_dk dn_322_0_0_ok 22 rfl) (by decide)) nx_goto)))
  (e_Tok2
  (e_Lok (ps_iconst_0 (x_dk dn_322_0_0_ok 23 rfl)))
  (e_Lok (sm_iadd (x_dk dn_322_0_0_ok 24 rfl)))))
  (e_Tok2
  (e_Tok2
  (e_Lok (sm_iastore (x_dk dn_322_0_1_ok 0 rfl)))
  (e_Lok (e_st (I := eI) (er_iinc (i := 1) (n := 1) (x_dk dn_322_0_1_ok 1 rfl) (by decide +kernel) (by decide)) nx_inc)))
  (e_Tok2
  (e_Lok (e_st (I := eI) (er_goto (off := (-44)) (tg := 2) (x_dk dn_322_0_1_ok 2 rfl) (by decide)) nx_goto))
  (e_Lok (e_rt (I := eI) (k := 0) ⟨(x_dk dn_322_0_1_ok 3 rfl), rfl⟩)))))))
def te_322 : Nat → eE := te_322_0
theorem te_322_ok : ∀ pc, e_EOq eft cls elay eI n_322 pc (te_322 pc) := te_322_0_ok
theorem ho_323 : (xm_y n_323).cls = "RobotCellHouseModel" := rfl
def dn_323_0_0 : List (Nat × Instr × Nat) := [(0, .aload_n 0, 1), (1, .getfield 8, 3), (4, .sipush 160, 3), (7, .iload_n 1, 1), (8, .iadd, 1), (9, .iaload, 1), (10, .iload_n 2, 1), (11, .if_icmp .eq 22, 3), (14, .aload_n 0, 1), (15, .invokevirtual 467, 3), (18, .aload_n 0, 1), (19, .getfield 8, 3), (22, .sipush 160, 3), (25, .iload_n 1, 1), (26, .iadd, 1), (27, .iload_n 2, 1), (28, .iastore, 1), (29, .aload_n 0, 1), (30, .invokevirtual 470, 3), (33, .return_, 1)]
set_option maxRecDepth 20000 in
theorem dn_323_0_0_ok : dn_323_0_0.all (fun q => decide (decode (xm_b n_323) q.1 = .ok (q.2.1, q.2.2))) = true := xa_g_ok (by decide +kernel)
def te_323_0 : Nat → eE := (e_T 15 (e_T 8 (e_T 1 (e_T 0 (e_L 0 (0, ei_load 0 2 1, 0, 0)) (e_L 1 (0, ei_getf eft elay 12 0 4, 0, 0))) (e_T 4 (e_L 4 (0, ei_push (0, 160) 7, 0, 0)) (e_T 7 (e_L 7 (0, ei_load 1 0 8, 0, 0)) (e_L 8 (0, ei_bin eF_add 9, 0, 0))))) (e_T 10 (e_T 9 (e_L 9 (0, ei_ald elay false 10, 0, 0)) (e_L 10 (0, ei_load 2 0 11, 0, 0))) (e_T 11 (e_L 11 (0, ei_if2 0 33 14, 0, 0)) (e_T 14 (e_L 14 (0, ei_load 0 2 15, 0, 0)) (e_L 15 (2, e_nof, 321, 1)))))) (e_T 26 (e_T 19 (e_T 18 (e_L 18 (0, ei_load 0 2 19, 0, 0)) (e_L 19 (0, ei_getf eft elay 12 0 22, 0, 0))) (e_T 22 (e_L 22 (0, ei_push (0, 160) 25, 0, 0)) (e_T 25 (e_L 25 (0, ei_load 1 0 26, 0, 0)) (e_L 26 (0, ei_bin eF_add 27, 0, 0))))) (e_T 28 (e_T 27 (e_L 27 (0, ei_load 2 0 28, 0, 0)) (e_L 28 (0, ei_ast elay false 29, 0, 0))) (e_T 29 (e_L 29 (0, ei_load 0 2 30, 0, 0)) (e_T 30 (e_L 30 (2, e_nof, 322, 1)) (e_L 33 (1, e_nof, 0, 0)))))))
set_option maxRecDepth 20000 in
set_option maxHeartbeats 4000000 in
theorem te_323_0_ok : ∀ pc, e_EOq eft cls elay eI n_323 pc (te_323_0 pc) :=
  (e_Tok2
  (e_Tok2
  (e_Tok2
  (e_Tok2
  (e_Lok (ld_aload_n_0 (x_dk dn_323_0_0_ok 0 rfl)))
  (e_Lok (lk_12_8g ho_323 (x_dk dn_323_0_0_ok 1 rfl))))
  (e_Tok2
  (e_Lok (ps_sipush_160 (x_dk dn_323_0_0_ok 2 rfl)))
  (e_Tok2
  (e_Lok (ld_iload_n_1 (x_dk dn_323_0_0_ok 3 rfl)))
  (e_Lok (sm_iadd (x_dk dn_323_0_0_ok 4 rfl))))))
  (e_Tok2
  (e_Tok2
  (e_Lok (sm_iaload (x_dk dn_323_0_0_ok 5 rfl)))
  (e_Lok (ld_iload_n_2 (x_dk dn_323_0_0_ok 6 rfl))))
  (e_Tok2
  (e_Lok (e_st (I := eI) (er_icmpeq (off := 22) (tg := 33) (x_dk dn_323_0_0_ok 7 rfl) (by decide)) nx_if2))
  (e_Tok2
  (e_Lok (ld_aload_n_0 (x_dk dn_323_0_0_ok 8 rfl)))
  (e_Lok (lk_12_467 ho_323 (x_dk dn_323_0_0_ok 9 rfl)))))))
  (e_Tok2
  (e_Tok2
  (e_Tok2
  (e_Lok (ld_aload_n_0 (x_dk dn_323_0_0_ok 10 rfl)))
  (e_Lok (lk_12_8g ho_323 (x_dk dn_323_0_0_ok 11 rfl))))
  (e_Tok2
  (e_Lok (ps_sipush_160 (x_dk dn_323_0_0_ok 12 rfl)))
  (e_Tok2
  (e_Lok (ld_iload_n_1 (x_dk dn_323_0_0_ok 13 rfl)))
  (e_Lok (sm_iadd (x_dk dn_323_0_0_ok 14 rfl))))))
  (e_Tok2
  (e_Tok2
  (e_Lok (ld_iload_n_2 (x_dk dn_323_0_0_ok 15 rfl)))
  (e_Lok (sm_iastore (x_dk dn_323_0_0_ok 16 rfl))))
  (e_Tok2
  (e_Lok (ld_aload_n_0 (x_dk dn_323_0_0_ok 17 rfl)))
  (e_Tok2
  (e_Lok (lk_12_470 ho_323 (x_dk dn_323_0_0_ok 18 rfl)))
  (e_Lok (e_rt (I := eI) (k := 0) ⟨(x_dk dn_323_0_0_ok 19 rfl), rfl⟩)))))))
def te_323 : Nat → eE := te_323_0
theorem te_323_ok : ∀ pc, e_EOq eft cls elay eI n_323 pc (te_323 pc) := te_323_0_ok
theorem ho_324 : (xm_y n_324).cls = "RobotCellHouseModel" := rfl
def dn_324_0_0 : List (Nat × Instr × Nat) := [(0, .iload_n 0, 1), (1, .i2l, 1), (2, .ldc2_w 473, 3), (5, .ldc2_w 475, 3), (8, .invokestatic 301, 3), (11, .ifCond .ne 17, 3), (14, .iload_n 0, 1), (15, .i2l, 1), (16, .ldc2_w 477, 3), (19, .ldc2_w 479, 3), (22, .invokestatic 301, 3), (25, .ifCond .eq 7, 3), (28, .iconst 1, 1), (29, .goto 4, 3), (32, .iconst 0, 1), (33, .ireturn, 1)]
set_option maxRecDepth 20000 in
theorem dn_324_0_0_ok : dn_324_0_0.all (fun q => decide (decode (xm_b n_324) q.1 = .ok (q.2.1, q.2.2))) = true := xa_g_ok (by decide +kernel)
def te_324_0 : Nat → eE := (e_T 15 (e_T 5 (e_T 1 (e_T 0 (e_L 0 (0, ei_load 0 0 1, 0, 0)) (e_L 1 (0, ei_un (fun x => (4, x)) 2, 0, 0))) (e_T 2 (e_L 2 (0, ei_push (4, 97) 5, 0, 0)) (e_L 5 (0, ei_push (4, 122) 8, 0, 0)))) (e_T 11 (e_T 8 (e_L 8 (2, e_nof, 266, 3)) (e_L 11 (0, ei_if1 1 28 14, 0, 0))) (e_T 14 (e_L 14 (0, ei_load 0 0 15, 0, 0)) (e_L 15 (0, ei_un (fun x => (4, x)) 16, 0, 0))))) (e_T 25 (e_T 19 (e_T 16 (e_L 16 (0, ei_push (4, 65) 19, 0, 0)) (e_L 19 (0, ei_push (4, 90) 22, 0, 0))) (e_T 22 (e_L 22 (2, e_nof, 266, 3)) (e_L 25 (0, ei_if1 0 32 28, 0, 0)))) (e_T 29 (e_T 28 (e_L 28 (0, ei_push (0, 1) 29, 0, 0)) (e_L 29 (0, ei_goto 33, 0, 0))) (e_T 32 (e_L 32 (0, ei_push (0, 0) 33, 0, 0)) (e_L 33 (1, e_nof, 4, 0))))))
set_option maxRecDepth 20000 in
set_option maxHeartbeats 4000000 in
theorem te_324_0_ok : ∀ pc, e_EOq eft cls elay eI n_324 pc (te_324_0 pc) :=
  (e_Tok2
  (e_Tok2
  (e_Tok2
  (e_Tok2
  (e_Lok (ld_iload_n_0 (x_dk dn_324_0_0_ok 0 rfl)))
  (e_Lok (e_st (I := eI) (er_i2l (x_dk dn_324_0_0_ok 1 rfl)) (nx_un (fun _ => rfl)))))
  (e_Tok2
  (e_Lok (e_st (I := eI) (er_ldc2 (ix := 473) (z := 97) (v := 97) (x_dk dn_324_0_0_ok 2 rfl) (in_t11 (List.mem_of_getElem? (i := 217) rfl) rfl) (by decide)) (nx_push (Or.inl rfl))))
  (e_Lok (e_st (I := eI) (er_ldc2 (ix := 475) (z := 122) (v := 122) (x_dk dn_324_0_0_ok 3 rfl) (in_t11 (List.mem_of_getElem? (i := 218) rfl) rfl) (by decide)) (nx_push (Or.inl rfl))))))
  (e_Tok2
  (e_Tok2
  (e_Lok (lk_12_301 ho_324 (x_dk dn_324_0_0_ok 4 rfl)))
  (e_Lok (e_st (I := eI) (er_ifne (off := 17) (tg := 28) (x_dk dn_324_0_0_ok 5 rfl) (by decide)) nx_if1)))
  (e_Tok2
  (e_Lok (ld_iload_n_0 (x_dk dn_324_0_0_ok 6 rfl)))
  (e_Lok (e_st (I := eI) (er_i2l (x_dk dn_324_0_0_ok 7 rfl)) (nx_un (fun _ => rfl)))))))
  (e_Tok2
  (e_Tok2
  (e_Tok2
  (e_Lok (e_st (I := eI) (er_ldc2 (ix := 477) (z := 65) (v := 65) (x_dk dn_324_0_0_ok 8 rfl) (in_t11 (List.mem_of_getElem? (i := 219) rfl) rfl) (by decide)) (nx_push (Or.inl rfl))))
  (e_Lok (e_st (I := eI) (er_ldc2 (ix := 479) (z := 90) (v := 90) (x_dk dn_324_0_0_ok 9 rfl) (in_t11 (List.mem_of_getElem? (i := 220) rfl) rfl) (by decide)) (nx_push (Or.inl rfl)))))
  (e_Tok2
  (e_Lok (lk_12_301 ho_324 (x_dk dn_324_0_0_ok 10 rfl)))
  (e_Lok (e_st (I := eI) (er_ifeq (off := 7) (tg := 32) (x_dk dn_324_0_0_ok 11 rfl) (by decide)) nx_if1))))
  (e_Tok2
  (e_Tok2
  (e_Lok (ps_iconst_1 (x_dk dn_324_0_0_ok 12 rfl)))
  (e_Lok (e_st (I := eI) (er_goto (off := 4) (tg := 33) (x_dk dn_324_0_0_ok 13 rfl) (by decide)) nx_goto)))
  (e_Tok2
  (e_Lok (ps_iconst_0 (x_dk dn_324_0_0_ok 14 rfl)))
  (e_Lok (e_rt (I := eI) (k := 4) ⟨(x_dk dn_324_0_0_ok 15 rfl), rfl⟩))))))
def te_324 : Nat → eE := te_324_0
theorem te_324_ok : ∀ pc, e_EOq eft cls elay eI n_324 pc (te_324 pc) := te_324_0_ok
theorem ho_325 : (xm_y n_325).cls = "RobotCellHouseModel" := rfl
def dn_325_0_0 : List (Nat × Instr × Nat) := [(0, .iload_n 0, 1), (1, .i2l, 1), (2, .ldc2_w 481, 3), (5, .ldc2_w 483, 3), (8, .invokestatic 301, 3), (11, .ireturn, 1)]
set_option maxRecDepth 20000 in
theorem dn_325_0_0_ok : dn_325_0_0.all (fun q => decide (decode (xm_b n_325) q.1 = .ok (q.2.1, q.2.2))) = true := xa_g_ok (by decide +kernel)
def te_325_0 : Nat → eE := (e_T 2 (e_T 0 (e_L 0 (0, ei_load 0 0 1, 0, 0)) (e_T 1 (e_L 1 (0, ei_un (fun x => (4, x)) 2, 0, 0)) (e_L 2 (0, ei_push (4, 48) 5, 0, 0)))) (e_T 5 (e_L 5 (0, ei_push (4, 57) 8, 0, 0)) (e_T 8 (e_L 8 (2, e_nof, 266, 3)) (e_L 11 (1, e_nof, 4, 0)))))
set_option maxRecDepth 20000 in
set_option maxHeartbeats 4000000 in
theorem te_325_0_ok : ∀ pc, e_EOq eft cls elay eI n_325 pc (te_325_0 pc) :=
  (e_Tok2
  (e_Tok2
  (e_Lok (ld_iload_n_0 (x_dk dn_325_0_0_ok 0 rfl)))
  (e_Tok2
  (e_Lok (e_st (I := eI) (er_i2l (x_dk dn_325_0_0_ok 1 rfl)) (nx_un (fun _ => rfl))))
  (e_Lok (e_st (I := eI) (er_ldc2 (ix := 481) (z := 48) (v := 48) (x_dk dn_325_0_0_ok 2 rfl) (in_t11 (List.mem_of_getElem? (i := 228) rfl) rfl) (by decide)) (nx_push (Or.inl rfl))))))
  (e_Tok2
  (e_Lok (e_st (I := eI) (er_ldc2 (ix := 483) (z := 57) (v := 57) (x_dk dn_325_0_0_ok 3 rfl) (in_t11 (List.mem_of_getElem? (i := 229) rfl) rfl) (by decide)) (nx_push (Or.inl rfl))))
  (e_Tok2
  (e_Lok (lk_12_301 ho_325 (x_dk dn_325_0_0_ok 4 rfl)))
  (e_Lok (e_rt (I := eI) (k := 4) ⟨(x_dk dn_325_0_0_ok 5 rfl), rfl⟩)))))
def te_325 : Nat → eE := te_325_0
theorem te_325_ok : ∀ pc, e_EOq eft cls elay eI n_325 pc (te_325 pc) := te_325_0_ok
theorem ho_326 : (xm_y n_326).cls = "RobotCellHouseModel" := rfl
def dn_326_0_0 : List (Nat × Instr × Nat) := [(0, .iload_n 1, 1), (1, .aload_n 0, 1), (2, .getfield 317, 3), (5, .if_icmp .ge 12, 3), (8, .aload_n 0, 1), (9, .getfield 27, 3), (12, .iload_n 1, 1), (13, .baload, 1), (14, .goto 6, 3), (17, .sipush (-1000), 3), (20, .ireturn, 1)]
set_option maxRecDepth 20000 in
theorem dn_326_0_0_ok : dn_326_0_0.all (fun q => decide (decode (xm_b n_326) q.1 = .ok (q.2.1, q.2.2))) = true := xa_g_ok (by decide +kernel)
def te_326_0 : Nat → eE := (e_T 8 (e_T 1 (e_T 0 (e_L 0 (0, ei_load 1 0 1, 0, 0)) (e_L 1 (0, ei_load 0 2 2, 0, 0))) (e_T 2 (e_L 2 (0, ei_getf eft elay 12 9 5, 0, 0)) (e_T 5 (e_L 5 (0, ei_if2 3 17 8, 0, 0)) (e_L 8 (0, ei_load 0 2 9, 0, 0))))) (e_T 13 (e_T 9 (e_L 9 (0, ei_getf eft elay 12 8 12, 0, 0)) (e_T 12 (e_L 12 (0, ei_load 1 0 13, 0, 0)) (e_L 13 (0, ei_ald elay true 14, 0, 0)))) (e_T 14 (e_L 14 (0, ei_goto 20, 0, 0)) (e_T 17 (e_L 17 (0, ei_push (0, (-1000)) 20, 0, 0)) (e_L 20 (1, e_nof, 1, 0))))))
set_option maxRecDepth 20000 in
set_option maxHeartbeats 4000000 in
theorem te_326_0_ok : ∀ pc, e_EOq eft cls elay eI n_326 pc (te_326_0 pc) :=
  (e_Tok2
  (e_Tok2
  (e_Tok2
  (e_Lok (ld_iload_n_1 (x_dk dn_326_0_0_ok 0 rfl)))
  (e_Lok (ld_aload_n_0 (x_dk dn_326_0_0_ok 1 rfl))))
  (e_Tok2
  (e_Lok (lk_12_317g ho_326 (x_dk dn_326_0_0_ok 2 rfl)))
  (e_Tok2
  (e_Lok (e_st (I := eI) (er_icmpge (off := 12) (tg := 17) (x_dk dn_326_0_0_ok 3 rfl) (by decide)) nx_if2))
  (e_Lok (ld_aload_n_0 (x_dk dn_326_0_0_ok 4 rfl))))))
  (e_Tok2
  (e_Tok2
  (e_Lok (lk_12_27g ho_326 (x_dk dn_326_0_0_ok 5 rfl)))
  (e_Tok2
  (e_Lok (ld_iload_n_1 (x_dk dn_326_0_0_ok 6 rfl)))
  (e_Lok (e_st (I := eI) (er_baload (x_dk dn_326_0_0_ok 7 rfl)) nx_ald))))
  (e_Tok2
  (e_Lok (e_st (I := eI) (er_goto (off := 6) (tg := 20) (x_dk dn_326_0_0_ok 8 rfl) (by decide)) nx_goto))
  (e_Tok2
  (e_Lok (ps_sipush_m1000 (x_dk dn_326_0_0_ok 9 rfl)))
  (e_Lok (e_rt (I := eI) (k := 1) ⟨(x_dk dn_326_0_0_ok 10 rfl), rfl⟩))))))
def te_326 : Nat → eE := te_326_0
theorem te_326_ok : ∀ pc, e_EOq eft cls elay eI n_326 pc (te_326 pc) := te_326_0_ok
theorem ho_327 : (xm_y n_327).cls = "RobotCellHouseModel" := rfl
def dn_327_0_0 : List (Nat × Instr × Nat) := [(0, .aload_n 0, 1), (1, .getfield 485, 3), (4, .istore_n 1, 1), (5, .iconst 1, 1), (6, .istore_n 2, 1), (7, .iload_n 2, 1), (8, .ifCond .eq 77, 3), (11, .iload_n 1, 1), (12, .aload_n 0, 1), (13, .getfield 317, 3), (16, .if_icmp .ge 29, 3), (19, .aload_n 0, 1), (20, .getfield 27, 3), (23, .iload_n 1, 1), (24, .baload, 1), (25, .ifCond .lt 20, 3), (28, .aload_n 0, 1), (29, .getfield 27, 3), (32, .iload_n 1, 1), (33, .baload, 1), (34, .bipush 32, 2), (36, .if_icmp .gt 9, 3), (39, .iinc 1 1, 3), (42, .goto (-35), 3), (45, .aload_n 0, 1)]
set_option maxRecDepth 20000 in
theorem dn_327_0_0_ok : dn_327_0_0.all (fun q => decide (decode (xm_b n_327) q.1 = .ok (q.2.1, q.2.2))) = true := xa_g_ok (by decide +kernel)
def dn_327_0_1 : List (Nat × Instr × Nat) := [(46, .iload_n 1, 1), (47, .invokevirtual 488, 3), (50, .bipush 35, 2), (52, .if_icmp .ne 28, 3), (55, .iload_n 1, 1), (56, .aload_n 0, 1), (57, .getfield 317, 3), (60, .if_icmp .ge (-53), 3), (63, .aload_n 0, 1), (64, .getfield 27, 3), (67, .iload_n 1, 1), (68, .baload, 1), (69, .bipush 10, 2), (71, .if_icmp .eq (-64), 3), (74, .iinc 1 1, 3), (77, .goto (-22), 3), (80, .iconst 0, 1), (81, .istore_n 2, 1), (82, .goto (-75), 3), (85, .aload_n 0, 1), (86, .iload_n 1, 1), (87, .putfield 491, 3), (90, .aload_n 0, 1), (91, .iload_n 1, 1), (92, .iconst 1, 1)]
set_option maxRecDepth 20000 in
theorem dn_327_0_1_ok : dn_327_0_1.all (fun q => decide (decode (xm_b n_327) q.1 = .ok (q.2.1, q.2.2))) = true := xa_g_ok (by decide +kernel)
def dn_327_0_2 : List (Nat × Instr × Nat) := [(93, .iadd, 1), (94, .putfield 485, 3), (97, .aload_n 0, 1), (98, .iconst 0, 1), (99, .putfield 494, 3), (102, .aload_n 0, 1), (103, .iload_n 1, 1), (104, .invokevirtual 488, 3), (107, .istore_n 3, 1), (108, .iload_n 1, 1), (109, .aload_n 0, 1), (110, .getfield 317, 3), (113, .if_icmp .ne 16, 3), (116, .aload_n 0, 1), (117, .iconst 0, 1), (118, .putfield 497, 3), (121, .aload_n 0, 1), (122, .iload_n 1, 1), (123, .putfield 485, 3), (126, .goto 36, 3), (129, .iload_n 3, 1), (130, .invokestatic 500, 3), (133, .ifCond .eq 10, 3), (136, .aload_n 0, 1), (137, .invokevirtual 503, 3)]
set_option maxRecDepth 20000 in
theorem dn_327_0_2_ok : dn_327_0_2.all (fun q => decide (decode (xm_b n_327) q.1 = .ok (q.2.1, q.2.2))) = true := xa_g_ok (by decide +kernel)
def dn_327_0_3 : List (Nat × Instr × Nat) := [(140, .goto 22, 3), (143, .iload_n 3, 1), (144, .invokestatic 506, 3), (147, .ifCond .eq 10, 3), (150, .aload_n 0, 1), (151, .invokevirtual 509, 3), (154, .goto 8, 3), (157, .aload_n 0, 1), (158, .iload_n 3, 1), (159, .invokevirtual 512, 3), (162, .return_, 1)]
set_option maxRecDepth 20000 in
theorem dn_327_0_3_ok : dn_327_0_3.all (fun q => decide (decode (xm_b n_327) q.1 = .ok (q.2.1, q.2.2))) = true := xa_g_ok (by decide +kernel)
def te_327_0 : Nat → eE := (e_T 13 (e_T 6 (e_T 1 (e_T 0 (e_L 0 (0, ei_load 0 2 1, 0, 0)) (e_L 1 (0, ei_getf eft elay 12 87 4, 0, 0))) (e_T 4 (e_L 4 (0, ei_stor 1 0 5, 0, 0)) (e_T 5 (e_L 5 (0, ei_push (0, 1) 6, 0, 0)) (e_L 6 (0, ei_stor 2 0 7, 0, 0))))) (e_T 8 (e_T 7 (e_L 7 (0, ei_load 2 0 8, 0, 0)) (e_L 8 (0, ei_if1 0 85 11, 0, 0))) (e_T 11 (e_L 11 (0, ei_load 1 0 12, 0, 0)) (e_T 12 (e_L 12 (0, ei_load 0 2 13, 0, 0)) (e_L 13 (0, ei_getf eft elay 12 9 16, 0, 0)))))) (e_T 24 (e_T 19 (e_T 16 (e_L 16 (0, ei_if2 3 45 19, 0, 0)) (e_L 19 (0, ei_load 0 2 20, 0, 0))) (e_T 20 (e_L 20 (0, ei_getf eft elay 12 8 23, 0, 0)) (e_T 23 (e_L 23 (0, ei_load 1 0 24, 0, 0)) (e_L 24 (0, ei_ald elay true 25, 0, 0))))) (e_T 29 (e_T 25 (e_L 25 (0, ei_if1 2 45 28, 0, 0)) (e_T 28 (e_L 28 (0, ei_load 0 2 29, 0, 0)) (e_L 29 (0, ei_getf eft elay 12 8 32, 0, 0)))) (e_T 32 (e_L 32 (0, ei_load 1 0 33, 0, 0)) (e_T 33 (e_L 33 (0, ei_ald elay true 34, 0, 0)) (e_L 34 (0, ei_push (0, 32) 36, 0, 0)))))))
set_option maxRecDepth 20000 in
set_option maxHeartbeats 4000000 in
theorem te_327_0_ok : ∀ pc, e_EOq eft cls elay eI n_327 pc (te_327_0 pc) :=
  (e_Tok2
  (e_Tok2
  (e_Tok2
  (e_Tok2
  (e_Lok (ld_aload_n_0 (x_dk dn_327_0_0_ok 0 rfl)))
  (e_Lok (lk_12_485g ho_327 (x_dk dn_327_0_0_ok 1 rfl))))
  (e_Tok2
  (e_Lok (e_st (I := eI) (er_istore_n (i := 1) (x_dk dn_327_0_0_ok 2 rfl) (by decide +kernel)) nx_stor))
  (e_Tok2
  (e_Lok (ps_iconst_1 (x_dk dn_327_0_0_ok 3 rfl)))
  (e_Lok (e_st (I := eI) (er_istore_n (i := 2) (x_dk dn_327_0_0_ok 4 rfl) (by decide +kernel)) nx_stor)))))
  (e_Tok2
  (e_Tok2
  (e_Lok (ld_iload_n_2 (x_dk dn_327_0_0_ok 5 rfl)))
  (e_Lok (e_st (I := eI) (er_ifeq (off := 77) (tg := 85) (x_dk dn_327_0_0_ok 6 rfl) (by decide)) nx_if1)))
  (e_Tok2
  (e_Lok (ld_iload_n_1 (x_dk dn_327_0_0_ok 7 rfl)))
  (e_Tok2
  (e_Lok (ld_aload_n_0 (x_dk dn_327_0_0_ok 8 rfl)))
  (e_Lok (lk_12_317g ho_327 (x_dk dn_327_0_0_ok 9 rfl)))))))
  (e_Tok2
  (e_Tok2
  (e_Tok2
  (e_Lok (e_st (I := eI) (er_icmpge (off := 29) (tg := 45) (x_dk dn_327_0_0_ok 10 rfl) (by decide)) nx_if2))
  (e_Lok (ld_aload_n_0 (x_dk dn_327_0_0_ok 11 rfl))))
  (e_Tok2
  (e_Lok (lk_12_27g ho_327 (x_dk dn_327_0_0_ok 12 rfl)))
  (e_Tok2
  (e_Lok (ld_iload_n_1 (x_dk dn_327_0_0_ok 13 rfl)))
  (e_Lok (e_st (I := eI) (er_baload (x_dk dn_327_0_0_ok 14 rfl)) nx_ald)))))
  (e_Tok2
  (e_Tok2
  (e_Lok (e_st (I := eI) (er_iflt (off := 20) (tg := 45) (x_dk dn_327_0_0_ok 15 rfl) (by decide)) nx_if1))
  (e_Tok2
  (e_Lok (ld_aload_n_0 (x_dk dn_327_0_0_ok 16 rfl)))
  (e_Lok (lk_12_27g ho_327 (x_dk dn_327_0_0_ok 17 rfl)))))
  (e_Tok2
  (e_Lok (ld_iload_n_1 (x_dk dn_327_0_0_ok 18 rfl)))
  (e_Tok2
  (e_Lok (e_st (I := eI) (er_baload (x_dk dn_327_0_0_ok 19 rfl)) nx_ald))
  (e_Lok (ps_bipush_32 (x_dk dn_327_0_0_ok 20 rfl))))))))
def te_327_21 : Nat → eE := (e_T 57 (e_T 46 (e_T 39 (e_T 36 (e_L 36 (0, ei_if2 4 45 39, 0, 0)) (e_L 39 (0, ei_inc 1 1 42, 0, 0))) (e_T 42 (e_L 42 (0, ei_goto 7, 0, 0)) (e_T 45 (e_L 45 (0, ei_load 0 2 46, 0, 0)) (e_L 46 (0, ei_load 1 0 47, 0, 0))))) (e_T 52 (e_T 47 (e_L 47 (2, e_nof, 326, 2)) (e_T 50 (e_L 50 (0, ei_push (0, 35) 52, 0, 0)) (e_L 52 (0, ei_if2 1 80 55, 0, 0)))) (e_T 55 (e_L 55 (0, ei_load 1 0 56, 0, 0)) (e_T 56 (e_L 56 (0, ei_load 0 2 57, 0, 0)) (e_L 57 (0, ei_getf eft elay 12 9 60, 0, 0)))))) (e_T 68 (e_T 63 (e_T 60 (e_L 60 (0, ei_if2 3 7 63, 0, 0)) (e_L 63 (0, ei_load 0 2 64, 0, 0))) (e_T 64 (e_L 64 (0, ei_getf eft elay 12 8 67, 0, 0)) (e_T 67 (e_L 67 (0, ei_load 1 0 68, 0, 0)) (e_L 68 (0, ei_ald elay true 69, 0, 0))))) (e_T 74 (e_T 69 (e_L 69 (0, ei_push (0, 10) 71, 0, 0)) (e_T 71 (e_L 71 (0, ei_if2 0 7 74, 0, 0)) (e_L 74 (0, ei_inc 1 1 77, 0, 0)))) (e_T 77 (e_L 77 (0, ei_goto 55, 0, 0)) (e_T 80 (e_L 80 (0, ei_push (0, 0) 81, 0, 0)) (e_L 81 (0, ei_stor 2 0 82, 0, 0)))))))
set_option maxRecDepth 20000 in
set_option maxHeartbeats 4000000 in
theorem te_327_21_ok : ∀ pc, e_EOq eft cls elay eI n_327 pc (te_327_21 pc) :=
  (e_Tok2
  (e_Tok2
  (e_Tok2
  (e_Tok2
  (e_Lok (e_st (I := eI) (er_icmpgt (off := 9) (tg := 45) (x_dk dn_327_0_0_ok 21 rfl) (by decide)) nx_if2))
  (e_Lok (e_st (I := eI) (er_iinc (i := 1) (n := 1) (x_dk dn_327_0_0_ok 22 rfl) (by decide +kernel) (by decide)) nx_inc)))
  (e_Tok2
  (e_Lok (e_st (I := eI) (er_goto (off := (-35)) (tg := 7) (x_dk dn_327_0_0_ok 23 rfl) (by decide)) nx_goto))
  (e_Tok2
  (e_Lok (ld_aload_n_0 (x_dk dn_327_0_0_ok 24 rfl)))
  (e_Lok (ld_iload_n_1 (x_dk dn_327_0_1_ok 0 rfl))))))
  (e_Tok2
  (e_Tok2
  (e_Lok (lk_12_488 ho_327 (x_dk dn_327_0_1_ok 1 rfl)))
  (e_Tok2
  (e_Lok (ps_bipush_35 (x_dk dn_327_0_1_ok 2 rfl)))
  (e_Lok (e_st (I := eI) (er_icmpne (off := 28) (tg := 80) (x_dk dn_327_0_1_ok 3 rfl) (by decide)) nx_if2))))
  (e_Tok2
  (e_Lok (ld_iload_n_1 (x_dk dn_327_0_1_ok 4 rfl)))
  (e_Tok2
  (e_Lok (ld_aload_n_0 (x_dk dn_327_0_1_ok 5 rfl)))
  (e_Lok (lk_12_317g ho_327 (x_dk dn_327_0_1_ok 6 rfl)))))))
  (e_Tok2
  (e_Tok2
  (e_Tok2
  (e_Lok (e_st (I := eI) (er_icmpge (off := (-53)) (tg := 7) (x_dk dn_327_0_1_ok 7 rfl) (by decide)) nx_if2))
  (e_Lok (ld_aload_n_0 (x_dk dn_327_0_1_ok 8 rfl))))
  (e_Tok2
  (e_Lok (lk_12_27g ho_327 (x_dk dn_327_0_1_ok 9 rfl)))
  (e_Tok2
  (e_Lok (ld_iload_n_1 (x_dk dn_327_0_1_ok 10 rfl)))
  (e_Lok (e_st (I := eI) (er_baload (x_dk dn_327_0_1_ok 11 rfl)) nx_ald)))))
  (e_Tok2
  (e_Tok2
  (e_Lok (ps_bipush_10 (x_dk dn_327_0_1_ok 12 rfl)))
  (e_Tok2
  (e_Lok (e_st (I := eI) (er_icmpeq (off := (-64)) (tg := 7) (x_dk dn_327_0_1_ok 13 rfl) (by decide)) nx_if2))
  (e_Lok (e_st (I := eI) (er_iinc (i := 1) (n := 1) (x_dk dn_327_0_1_ok 14 rfl) (by decide +kernel) (by decide)) nx_inc))))
  (e_Tok2
  (e_Lok (e_st (I := eI) (er_goto (off := (-22)) (tg := 55) (x_dk dn_327_0_1_ok 15 rfl) (by decide)) nx_goto))
  (e_Tok2
  (e_Lok (ps_iconst_0 (x_dk dn_327_0_1_ok 16 rfl)))
  (e_Lok (e_st (I := eI) (er_istore_n (i := 2) (x_dk dn_327_0_1_ok 17 rfl) (by decide +kernel)) nx_stor)))))))
def te_327_43 : Nat → eE := (e_T 97 (e_T 90 (e_T 85 (e_T 82 (e_L 82 (0, ei_goto 7, 0, 0)) (e_L 85 (0, ei_load 0 2 86, 0, 0))) (e_T 86 (e_L 86 (0, ei_load 1 0 87, 0, 0)) (e_T 87 (e_L 87 (0, ei_putf eft elay 12 86 0 90, 0, 0)) (e_L 90 (0, ei_load 0 2 91, 0, 0))))) (e_T 92 (e_T 91 (e_L 91 (0, ei_load 1 0 92, 0, 0)) (e_L 92 (0, ei_push (0, 1) 93, 0, 0))) (e_T 93 (e_L 93 (0, ei_bin eF_add 94, 0, 0)) (e_T 94 (e_L 94 (0, ei_putf eft elay 12 87 0 97, 0, 0)) (e_L 97 (0, ei_load 0 2 98, 0, 0)))))) (e_T 104 (e_T 99 (e_T 98 (e_L 98 (0, ei_push (0, 0) 99, 0, 0)) (e_L 99 (0, ei_putf eft elay 12 85 0 102, 0, 0))) (e_T 102 (e_L 102 (0, ei_load 0 2 103, 0, 0)) (e_T 103 (e_L 103 (0, ei_load 1 0 104, 0, 0)) (e_L 104 (2, e_nof, 326, 2))))) (e_T 109 (e_T 107 (e_L 107 (0, ei_stor 3 0 108, 0, 0)) (e_T 108 (e_L 108 (0, ei_load 1 0 109, 0, 0)) (e_L 109 (0, ei_load 0 2 110, 0, 0)))) (e_T 110 (e_L 110 (0, ei_getf eft elay 12 9 113, 0, 0)) (e_T 113 (e_L 113 (0, ei_if2 1 129 116, 0, 0)) (e_L 116 (0, ei_load 0 2 117, 0, 0)))))))
set_option maxRecDepth 20000 in
set_option maxHeartbeats 4000000 in
theorem te_327_43_ok : ∀ pc, e_EOq eft cls elay eI n_327 pc (te_327_43 pc) :=
  (e_Tok2
  (e_Tok2
  (e_Tok2
  (e_Tok2
  (e_Lok (e_st (I := eI) (er_goto (off := (-75)) (tg := 7) (x_dk dn_327_0_1_ok 18 rfl) (by decide)) nx_goto))
  (e_Lok (ld_aload_n_0 (x_dk dn_327_0_1_ok 19 rfl))))
  (e_Tok2
  (e_Lok (ld_iload_n_1 (x_dk dn_327_0_1_ok 20 rfl)))
  (e_Tok2
  (e_Lok (lk_12_491p ho_327 (x_dk dn_327_0_1_ok 21 rfl)))
  (e_Lok (ld_aload_n_0 (x_dk dn_327_0_1_ok 22 rfl))))))
  (e_Tok2
  (e_Tok2
  (e_Lok (ld_iload_n_1 (x_dk dn_327_0_1_ok 23 rfl)))
  (e_Lok (ps_iconst_1 (x_dk dn_327_0_1_ok 24 rfl))))
  (e_Tok2
  (e_Lok (sm_iadd (x_dk dn_327_0_2_ok 0 rfl)))
  (e_Tok2
  (e_Lok (lk_12_485p ho_327 (x_dk dn_327_0_2_ok 1 rfl)))
  (e_Lok (ld_aload_n_0 (x_dk dn_327_0_2_ok 2 rfl)))))))
  (e_Tok2
  (e_Tok2
  (e_Tok2
  (e_Lok (ps_iconst_0 (x_dk dn_327_0_2_ok 3 rfl)))
  (e_Lok (lk_12_494p ho_327 (x_dk dn_327_0_2_ok 4 rfl))))
  (e_Tok2
  (e_Lok (ld_aload_n_0 (x_dk dn_327_0_2_ok 5 rfl)))
  (e_Tok2
  (e_Lok (ld_iload_n_1 (x_dk dn_327_0_2_ok 6 rfl)))
  (e_Lok (lk_12_488 ho_327 (x_dk dn_327_0_2_ok 7 rfl))))))
  (e_Tok2
  (e_Tok2
  (e_Lok (e_st (I := eI) (er_istore_n (i := 3) (x_dk dn_327_0_2_ok 8 rfl) (by decide +kernel)) nx_stor))
  (e_Tok2
  (e_Lok (ld_iload_n_1 (x_dk dn_327_0_2_ok 9 rfl)))
  (e_Lok (ld_aload_n_0 (x_dk dn_327_0_2_ok 10 rfl)))))
  (e_Tok2
  (e_Lok (lk_12_317g ho_327 (x_dk dn_327_0_2_ok 11 rfl)))
  (e_Tok2
  (e_Lok (e_st (I := eI) (er_icmpne (off := 16) (tg := 129) (x_dk dn_327_0_2_ok 12 rfl) (by decide)) nx_if2))
  (e_Lok (ld_aload_n_0 (x_dk dn_327_0_2_ok 13 rfl))))))))
def te_327_64 : Nat → eE := (e_T 137 (e_T 123 (e_T 118 (e_T 117 (e_L 117 (0, ei_push (0, 0) 118, 0, 0)) (e_L 118 (0, ei_putf eft elay 12 84 0 121, 0, 0))) (e_T 121 (e_L 121 (0, ei_load 0 2 122, 0, 0)) (e_T 122 (e_L 122 (0, ei_load 1 0 123, 0, 0)) (e_L 123 (0, ei_putf eft elay 12 87 0 126, 0, 0))))) (e_T 130 (e_T 126 (e_L 126 (0, ei_goto 162, 0, 0)) (e_T 129 (e_L 129 (0, ei_load 3 0 130, 0, 0)) (e_L 130 (2, e_nof, 324, 1)))) (e_T 133 (e_L 133 (0, ei_if1 0 143 136, 0, 0)) (e_T 136 (e_L 136 (0, ei_load 0 2 137, 0, 0)) (e_L 137 (2, e_nof, 328, 1)))))) (e_T 150 (e_T 143 (e_T 140 (e_L 140 (0, ei_goto 162, 0, 0)) (e_L 143 (0, ei_load 3 0 144, 0, 0))) (e_T 144 (e_L 144 (2, e_nof, 325, 1)) (e_T 147 (e_L 147 (0, ei_if1 0 157 150, 0, 0)) (e_L 150 (0, ei_load 0 2 151, 0, 0))))) (e_T 157 (e_T 151 (e_L 151 (2, e_nof, 329, 1)) (e_T 154 (e_L 154 (0, ei_goto 162, 0, 0)) (e_L 157 (0, ei_load 0 2 158, 0, 0)))) (e_T 158 (e_L 158 (0, ei_load 3 0 159, 0, 0)) (e_T 159 (e_L 159 (2, e_nof, 330, 2)) (e_L 162 (1, e_nof, 0, 0)))))))
set_option maxRecDepth 20000 in
set_option maxHeartbeats 4000000 in
theorem te_327_64_ok : ∀ pc, e_EOq eft cls elay eI n_327 pc (te_327_64 pc) :=
  (e_Tok2
  (e_Tok2
  (e_Tok2
  (e_Tok2
  (e_Lok (ps_iconst_0 (x_dk dn_327_0_2_ok 14 rfl)))
  (e_Lok (lk_12_497p ho_327 (x_dk dn_327_0_2_ok 15 rfl))))
  (e_Tok2
  (e_Lok (ld_aload_n_0 (x_dk dn_327_0_2_ok 16 rfl)))
  (e_Tok2
  (e_Lok (ld_iload_n_1 (x_dk dn_327_0_2_ok 17 rfl)))
  (e_Lok (lk_12_485p ho_327 (x_dk dn_327_0_2_ok 18 rfl))))))
  (e_Tok2
  (e_Tok2
  (e_Lok (e_st (I := eI) (er_goto (off := 36) (tg := 162) (x_dk dn_327_0_2_ok 19 rfl) (by decide)) nx_goto))
  (e_Tok2
  (e_Lok (ld_iload_n_3 (x_dk dn_327_0_2_ok 20 rfl)))
  (e_Lok (lk_12_500 ho_327 (x_dk dn_327_0_2_ok 21 rfl)))))
  (e_Tok2
  (e_Lok (e_st (I := eI) (er_ifeq (off := 10) (tg := 143) (x_dk dn_327_0_2_ok 22 rfl) (by decide)) nx_if1))
  (e_Tok2
  (e_Lok (ld_aload_n_0 (x_dk dn_327_0_2_ok 23 rfl)))
  (e_Lok (lk_12_503 ho_327 (x_dk dn_327_0_2_ok 24 rfl)))))))
  (e_Tok2
  (e_Tok2
  (e_Tok2
  (e_Lok (e_st (I := eI) (er_goto (off := 22) (tg := 162) (x_dk dn_327_0_3_ok 0 rfl) (by decide)) nx_goto))
  (e_Lok (ld_iload_n_3 (x_dk dn_327_0_3_ok 1 rfl))))
  (e_Tok2
  (e_Lok (lk_12_506 ho_327 (x_dk dn_327_0_3_ok 2 rfl)))
  (e_Tok2
  (e_Lok (e_st (I := eI) (er_ifeq (off := 10) (tg := 157) (x_dk dn_327_0_3_ok 3 rfl) (by decide)) nx_if1))
  (e_Lok (ld_aload_n_0 (x_dk dn_327_0_3_ok 4 rfl))))))
  (e_Tok2
  (e_Tok2
  (e_Lok (lk_12_509 ho_327 (x_dk dn_327_0_3_ok 5 rfl)))
  (e_Tok2
  (e_Lok (e_st (I := eI) (er_goto (off := 8) (tg := 162) (x_dk dn_327_0_3_ok 6 rfl) (by decide)) nx_goto))
  (e_Lok (ld_aload_n_0 (x_dk dn_327_0_3_ok 7 rfl)))))
  (e_Tok2
  (e_Lok (ld_iload_n_3 (x_dk dn_327_0_3_ok 8 rfl)))
  (e_Tok2
  (e_Lok (lk_12_512 ho_327 (x_dk dn_327_0_3_ok 9 rfl)))
  (e_Lok (e_rt (I := eI) (k := 0) ⟨(x_dk dn_327_0_3_ok 10 rfl), rfl⟩)))))))
def te_327 : Nat → eE := (e_T 81 (e_T 34 te_327_0 te_327_21) (e_T 116 te_327_43 te_327_64))
theorem te_327_ok : ∀ pc, e_EOq eft cls elay eI n_327 pc (te_327 pc) := (e_Tok2 ((e_Tok2 (te_327_0_ok) (te_327_21_ok))) ((e_Tok2 (te_327_43_ok) (te_327_64_ok))))
theorem ho_329 : (xm_y n_329).cls = "RobotCellHouseModel" := rfl
def dn_329_0_0 : List (Nat × Instr × Nat) := [(0, .lconst 0, 1), (1, .lstore_n 1, 1), (2, .aload_n 0, 1), (3, .getfield 491, 3), (6, .istore_n 3, 1), (7, .aload_n 0, 1), (8, .iload_n 3, 1), (9, .invokevirtual 488, 3), (12, .invokestatic 506, 3), (15, .ifCond .eq 38, 3), (18, .lload_n 1, 1), (19, .ldc2_w 526, 3), (22, .lcmp, 1), (23, .ifCond .le 7, 3), (26, .lload_n 1, 1), (27, .goto 19, 3), (30, .ldc2_w 528, 3), (33, .lload_n 1, 1), (34, .lmul, 1), (35, .aload_n 0, 1), (36, .iload_n 3, 1), (37, .invokevirtual 488, 3), (40, .i2l, 1), (41, .ladd, 1), (42, .ldc2_w 481, 3)]
set_option maxRecDepth 20000 in
theorem dn_329_0_0_ok : dn_329_0_0.all (fun q => decide (decode (xm_b n_329) q.1 = .ok (q.2.1, q.2.2))) = true := xa_g_ok (by decide +kernel)
def dn_329_0_1 : List (Nat × Instr × Nat) := [(45, .lsub, 1), (46, .lstore_n 1, 1), (47, .iinc 3 1, 3), (50, .goto (-43), 3), (53, .aload_n 0, 1), (54, .iload_n 3, 1), (55, .putfield 485, 3), (58, .aload_n 0, 1), (59, .lload_n 1, 1), (60, .ldc2_w 526, 3), (63, .lcmp, 1), (64, .ifCond .le 7, 3), (67, .iconst 5, 1), (68, .goto 4, 3), (71, .iconst 2, 1), (72, .putfield 497, 3), (75, .aload_n 0, 1), (76, .lload_n 1, 1), (77, .l2i, 1), (78, .putfield 494, 3), (81, .return_, 1)]
set_option maxRecDepth 20000 in
theorem dn_329_0_1_ok : dn_329_0_1.all (fun q => decide (decode (xm_b n_329) q.1 = .ok (q.2.1, q.2.2))) = true := xa_g_ok (by decide +kernel)
def te_329_0 : Nat → eE := (e_T 18 (e_T 6 (e_T 1 (e_T 0 (e_L 0 (0, ei_push (4, 0) 1, 0, 0)) (e_L 1 (0, ei_stor 1 1 2, 0, 0))) (e_T 2 (e_L 2 (0, ei_load 0 2 3, 0, 0)) (e_T 3 (e_L 3 (0, ei_getf eft elay 12 86 6, 0, 0)) (e_L 6 (0, ei_stor 3 0 7, 0, 0))))) (e_T 9 (e_T 7 (e_L 7 (0, ei_load 0 2 8, 0, 0)) (e_T 8 (e_L 8 (0, ei_load 3 0 9, 0, 0)) (e_L 9 (2, e_nof, 326, 2)))) (e_T 12 (e_L 12 (2, e_nof, 325, 1)) (e_T 15 (e_L 15 (0, ei_if1 0 53 18, 0, 0)) (e_L 18 (0, ei_load 1 1 19, 0, 0)))))) (e_T 30 (e_T 23 (e_T 19 (e_L 19 (0, ei_push (4, 2147483647) 22, 0, 0)) (e_T 22 (e_L 22 (0, ei_binL eG_cmp 23, 0, 0)) (e_L 23 (0, ei_if1 5 30 26, 0, 0)))) (e_T 26 (e_L 26 (0, ei_load 1 1 27, 0, 0)) (e_T 27 (e_L 27 (0, ei_goto 46, 0, 0)) (e_L 30 (0, ei_push (4, 10) 33, 0, 0))))) (e_T 35 (e_T 33 (e_L 33 (0, ei_load 1 1 34, 0, 0)) (e_T 34 (e_L 34 (0, ei_binL eG_mul 35, 0, 0)) (e_L 35 (0, ei_load 0 2 36, 0, 0)))) (e_T 36 (e_L 36 (0, ei_load 3 0 37, 0, 0)) (e_T 37 (e_L 37 (2, e_nof, 326, 2)) (e_L 40 (0, ei_un (fun x => (4, x)) 41, 0, 0)))))))
set_option maxRecDepth 20000 in
set_option maxHeartbeats 4000000 in
theorem te_329_0_ok : ∀ pc, e_EOq eft cls elay eI n_329 pc (te_329_0 pc) :=
  (e_Tok2
  (e_Tok2
  (e_Tok2
  (e_Tok2
  (e_Lok (ps_lconst_0 (x_dk dn_329_0_0_ok 0 rfl)))
  (e_Lok (e_st (I := eI) (er_lstore_n (i := 1) (x_dk dn_329_0_0_ok 1 rfl) (by decide +kernel)) nx_stor)))
  (e_Tok2
  (e_Lok (ld_aload_n_0 (x_dk dn_329_0_0_ok 2 rfl)))
  (e_Tok2
  (e_Lok (lk_12_491g ho_329 (x_dk dn_329_0_0_ok 3 rfl)))
  (e_Lok (e_st (I := eI) (er_istore_n (i := 3) (x_dk dn_329_0_0_ok 4 rfl) (by decide +kernel)) nx_stor)))))
  (e_Tok2
  (e_Tok2
  (e_Lok (ld_aload_n_0 (x_dk dn_329_0_0_ok 5 rfl)))
  (e_Tok2
  (e_Lok (ld_iload_n_3 (x_dk dn_329_0_0_ok 6 rfl)))
  (e_Lok (lk_12_488 ho_329 (x_dk dn_329_0_0_ok 7 rfl)))))
  (e_Tok2
  (e_Lok (lk_12_506 ho_329 (x_dk dn_329_0_0_ok 8 rfl)))
  (e_Tok2
  (e_Lok (e_st (I := eI) (er_ifeq (off := 38) (tg := 53) (x_dk dn_329_0_0_ok 9 rfl) (by decide)) nx_if1))
  (e_Lok (ld_lload_n_1 (x_dk dn_329_0_0_ok 10 rfl)))))))
  (e_Tok2
  (e_Tok2
  (e_Tok2
  (e_Lok (e_st (I := eI) (er_ldc2 (ix := 526) (z := 2147483647) (v := 2147483647) (x_dk dn_329_0_0_ok 11 rfl) (in_t11 (List.mem_of_getElem? (i := 237) rfl) rfl) (by decide)) (nx_push (Or.inl rfl))))
  (e_Tok2
  (e_Lok (e_st (I := eI) (er_lcmp (x_dk dn_329_0_0_ok 12 rfl)) (nx_binL bG_lcmp)))
  (e_Lok (e_st (I := eI) (er_ifle (off := 7) (tg := 30) (x_dk dn_329_0_0_ok 13 rfl) (by decide)) nx_if1))))
  (e_Tok2
  (e_Lok (ld_lload_n_1 (x_dk dn_329_0_0_ok 14 rfl)))
  (e_Tok2
  (e_Lok (e_st (I := eI) (er_goto (off := 19) (tg := 46) (x_dk dn_329_0_0_ok 15 rfl) (by decide)) nx_goto))
  (e_Lok (e_st (I := eI) (er_ldc2 (ix := 528) (z := 10) (v := 10) (x_dk dn_329_0_0_ok 16 rfl) (in_t11 (List.mem_of_getElem? (i := 238) rfl) rfl) (by decide)) (nx_push (Or.inl rfl)))))))
  (e_Tok2
  (e_Tok2
  (e_Lok (ld_lload_n_1 (x_dk dn_329_0_0_ok 17 rfl)))
  (e_Tok2
  (e_Lok (e_st (I := eI) (er_lmul (x_dk dn_329_0_0_ok 18 rfl)) (nx_binL bG_lmul)))
  (e_Lok (ld_aload_n_0 (x_dk dn_329_0_0_ok 19 rfl)))))
  (e_Tok2
  (e_Lok (ld_iload_n_3 (x_dk dn_329_0_0_ok 20 rfl)))
  (e_Tok2
  (e_Lok (lk_12_488 ho_329 (x_dk dn_329_0_0_ok 21 rfl)))
  (e_Lok (e_st (I := eI) (er_i2l (x_dk dn_329_0_0_ok 22 rfl)) (nx_un (fun _ => rfl)))))))))
def te_329_23 : Nat → eE := (e_T 59 (e_T 47 (e_T 42 (e_T 41 (e_L 41 (0, ei_binL eG_add 42, 0, 0)) (e_L 42 (0, ei_push (4, 48) 45, 0, 0))) (e_T 45 (e_L 45 (0, ei_binL eG_sub 46, 0, 0)) (e_T 46 (e_L 46 (0, ei_stor 1 1 47, 0, 0)) (e_L 47 (0, ei_inc 3 1 50, 0, 0))))) (e_T 54 (e_T 50 (e_L 50 (0, ei_goto 7, 0, 0)) (e_T 53 (e_L 53 (0, ei_load 0 2 54, 0, 0)) (e_L 54 (0, ei_load 3 0 55, 0, 0)))) (e_T 55 (e_L 55 (0, ei_putf eft elay 12 87 0 58, 0, 0)) (e_T 58 (e_L 58 (0, ei_load 0 2 59, 0, 0)) (e_L 59 (0, ei_load 1 1 60, 0, 0)))))) (e_T 71 (e_T 64 (e_T 60 (e_L 60 (0, ei_push (4, 2147483647) 63, 0, 0)) (e_T 63 (e_L 63 (0, ei_binL eG_cmp 64, 0, 0)) (e_L 64 (0, ei_if1 5 71 67, 0, 0)))) (e_T 67 (e_L 67 (0, ei_push (0, 5) 68, 0, 0)) (e_T 68 (e_L 68 (0, ei_goto 72, 0, 0)) (e_L 71 (0, ei_push (0, 2) 72, 0, 0))))) (e_T 76 (e_T 72 (e_L 72 (0, ei_putf eft elay 12 84 0 75, 0, 0)) (e_T 75 (e_L 75 (0, ei_load 0 2 76, 0, 0)) (e_L 76 (0, ei_load 1 1 77, 0, 0)))) (e_T 77 (e_L 77 (0, ei_unL (fun x => (0, e32 x)) 78, 0, 0)) (e_T 78 (e_L 78 (0, ei_putf eft elay 12 85 0 81, 0, 0)) (e_L 81 (1, e_nof, 0, 0)))))))
set_option maxRecDepth 20000 in
set_option maxHeartbeats 4000000 in
theorem te_329_23_ok : ∀ pc, e_EOq eft cls elay eI n_329 pc (te_329_23 pc) :=
  (e_Tok2
  (e_Tok2
  (e_Tok2
  (e_Tok2
  (e_Lok (e_st (I := eI) (er_ladd (x_dk dn_329_0_0_ok 23 rfl)) (nx_binL bG_ladd)))
  (e_Lok (e_st (I := eI) (er_ldc2 (ix := 481) (z := 48) (v := 48) (x_dk dn_329_0_0_ok 24 rfl) (in_t11 (List.mem_of_getElem? (i := 228) rfl) rfl) (by decide)) (nx_push (Or.inl rfl)))))
  (e_Tok2
  (e_Lok (e_st (I := eI) (er_lsub (x_dk dn_329_0_1_ok 0 rfl)) (nx_binL bG_lsub)))
  (e_Tok2
  (e_Lok (e_st (I := eI) (er_lstore_n (i := 1) (x_dk dn_329_0_1_ok 1 rfl) (by decide +kernel)) nx_stor))
  (e_Lok (e_st (I := eI) (er_iinc (i := 3) (n := 1) (x_dk dn_329_0_1_ok 2 rfl) (by decide +kernel) (by decide)) nx_inc)))))
  (e_Tok2
  (e_Tok2
  (e_Lok (e_st (I := eI) (er_goto (off := (-43)) (tg := 7) (x_dk dn_329_0_1_ok 3 rfl) (by decide)) nx_goto))
  (e_Tok2
  (e_Lok (ld_aload_n_0 (x_dk dn_329_0_1_ok 4 rfl)))
  (e_Lok (ld_iload_n_3 (x_dk dn_329_0_1_ok 5 rfl)))))
  (e_Tok2
  (e_Lok (lk_12_485p ho_329 (x_dk dn_329_0_1_ok 6 rfl)))
  (e_Tok2
  (e_Lok (ld_aload_n_0 (x_dk dn_329_0_1_ok 7 rfl)))
  (e_Lok (ld_lload_n_1 (x_dk dn_329_0_1_ok 8 rfl)))))))
  (e_Tok2
  (e_Tok2
  (e_Tok2
  (e_Lok (e_st (I := eI) (er_ldc2 (ix := 526) (z := 2147483647) (v := 2147483647) (x_dk dn_329_0_1_ok 9 rfl) (in_t11 (List.mem_of_getElem? (i := 237) rfl) rfl) (by decide)) (nx_push (Or.inl rfl))))
  (e_Tok2
  (e_Lok (e_st (I := eI) (er_lcmp (x_dk dn_329_0_1_ok 10 rfl)) (nx_binL bG_lcmp)))
  (e_Lok (e_st (I := eI) (er_ifle (off := 7) (tg := 71) (x_dk dn_329_0_1_ok 11 rfl) (by decide)) nx_if1))))
  (e_Tok2
  (e_Lok (ps_iconst_5 (x_dk dn_329_0_1_ok 12 rfl)))
  (e_Tok2
  (e_Lok (e_st (I := eI) (er_goto (off := 4) (tg := 72) (x_dk dn_329_0_1_ok 13 rfl) (by decide)) nx_goto))
  (e_Lok (ps_iconst_2 (x_dk dn_329_0_1_ok 14 rfl))))))
  (e_Tok2
  (e_Tok2
  (e_Lok (lk_12_497p ho_329 (x_dk dn_329_0_1_ok 15 rfl)))
  (e_Tok2
  (e_Lok (ld_aload_n_0 (x_dk dn_329_0_1_ok 16 rfl)))
  (e_Lok (ld_lload_n_1 (x_dk dn_329_0_1_ok 17 rfl)))))
  (e_Tok2
  (e_Lok (e_st (I := eI) (er_l2i (x_dk dn_329_0_1_ok 18 rfl)) (nx_unL (fun _ => rfl))))
  (e_Tok2
  (e_Lok (lk_12_494p ho_329 (x_dk dn_329_0_1_ok 19 rfl)))
  (e_Lok (e_rt (I := eI) (k := 0) ⟨(x_dk dn_329_0_1_ok 20 rfl), rfl⟩)))))))
def te_329 : Nat → eE := (e_T 40 te_329_0 te_329_23)
theorem te_329_ok : ∀ pc, e_EOq eft cls elay eI n_329 pc (te_329 pc) := (e_Tok2 (te_329_0_ok) (te_329_23_ok))
theorem ho_330 : (xm_y n_330).cls = "RobotCellHouseModel" := rfl
def dn_330_0_0 : List (Nat × Instr × Nat) := [(0, .aload_n 0, 1), (1, .iconst 3, 1), (2, .putfield 497, 3), (5, .aload_n 0, 1), (6, .iload_n 1, 1), (7, .putfield 494, 3), (10, .aload_n 0, 1), (11, .aload_n 0, 1), (12, .getfield 491, 3), (15, .iconst 1, 1), (16, .iadd, 1), (17, .invokevirtual 488, 3), (20, .bipush 61, 2), (22, .if_icmp .ne 7, 3), (25, .iconst 1, 1), (26, .goto 4, 3), (29, .iconst 0, 1), (30, .istore_n 2, 1), (31, .iload_n 1, 1), (32, .bipush 33, 2), (34, .if_icmp .eq 15, 3), (37, .iload_n 1, 1), (38, .bipush 60, 2), (40, .if_icmp .eq 9, 3), (43, .iload_n 1, 1)]
set_option maxRecDepth 20000 in
theorem dn_330_0_0_ok : dn_330_0_0.all (fun q => decide (decode (xm_b n_330) q.1 = .ok (q.2.1, q.2.2))) = true := xa_g_ok (by decide +kernel)
def dn_330_0_1 : List (Nat × Instr × Nat) := [(44, .bipush 62, 2), (46, .if_icmp .ne 48, 3), (49, .iload_n 2, 1), (50, .ifCond .eq 44, 3), (53, .aload_n 0, 1), (54, .dup, 1), (55, .getfield 485, 3), (58, .iconst 1, 1), (59, .iadd, 1), (60, .putfield 485, 3), (63, .aload_n 0, 1), (64, .iload_n 1, 1), (65, .bipush 33, 2), (67, .if_icmp .ne 8, 3), (70, .bipush 110, 2), (72, .goto 16, 3), (75, .iload_n 1, 1), (76, .bipush 60, 2), (78, .if_icmp .ne 8, 3), (81, .bipush 108, 2), (83, .goto 5, 3), (86, .bipush 103, 2), (88, .putfield 494, 3), (91, .goto 86, 3), (94, .iload_n 1, 1)]
set_option maxRecDepth 20000 in
theorem dn_330_0_1_ok : dn_330_0_1.all (fun q => decide (decode (xm_b n_330) q.1 = .ok (q.2.1, q.2.2))) = true := xa_g_ok (by decide +kernel)
def dn_330_0_2 : List (Nat × Instr × Nat) := [(95, .bipush 43, 2), (97, .if_icmp .eq 80, 3), (100, .iload_n 1, 1), (101, .bipush 45, 2), (103, .if_icmp .eq 74, 3), (106, .iload_n 1, 1), (107, .bipush 42, 2), (109, .if_icmp .eq 68, 3), (112, .iload_n 1, 1), (113, .bipush 47, 2), (115, .if_icmp .eq 62, 3), (118, .iload_n 1, 1), (119, .bipush 37, 2), (121, .if_icmp .eq 56, 3), (124, .iload_n 1, 1), (125, .bipush 61, 2), (127, .if_icmp .eq 50, 3), (130, .iload_n 1, 1), (131, .bipush 60, 2), (133, .if_icmp .eq 44, 3), (136, .iload_n 1, 1), (137, .bipush 62, 2), (139, .if_icmp .eq 38, 3), (142, .iload_n 1, 1), (143, .bipush 40, 2)]
set_option maxRecDepth 20000 in
theorem dn_330_0_2_ok : dn_330_0_2.all (fun q => decide (decode (xm_b n_330) q.1 = .ok (q.2.1, q.2.2))) = true := xa_g_ok (by decide +kernel)
def dn_330_0_3 : List (Nat × Instr × Nat) := [(145, .if_icmp .eq 32, 3), (148, .iload_n 1, 1), (149, .bipush 41, 2), (151, .if_icmp .eq 26, 3), (154, .iload_n 1, 1), (155, .bipush 44, 2), (157, .if_icmp .eq 20, 3), (160, .iload_n 1, 1), (161, .bipush 59, 2), (163, .if_icmp .eq 14, 3), (166, .iload_n 1, 1), (167, .bipush 58, 2), (169, .if_icmp .eq 8, 3), (172, .aload_n 0, 1), (173, .iconst 5, 1), (174, .putfield 497, 3), (177, .return_, 1)]
set_option maxRecDepth 20000 in
theorem dn_330_0_3_ok : dn_330_0_3.all (fun q => decide (decode (xm_b n_330) q.1 = .ok (q.2.1, q.2.2))) = true := xa_g_ok (by decide +kernel)
def te_330_0 : Nat → eE := (e_T 16 (e_T 6 (e_T 1 (e_T 0 (e_L 0 (0, ei_load 0 2 1, 0, 0)) (e_L 1 (0, ei_push (0, 3) 2, 0, 0))) (e_T 2 (e_L 2 (0, ei_putf eft elay 12 84 0 5, 0, 0)) (e_T 5 (e_L 5 (0, ei_load 0 2 6, 0, 0)) (e_L 6 (0, ei_load 1 0 7, 0, 0))))) (e_T 11 (e_T 7 (e_L 7 (0, ei_putf eft elay 12 85 0 10, 0, 0)) (e_T 10 (e_L 10 (0, ei_load 0 2 11, 0, 0)) (e_L 11 (0, ei_load 0 2 12, 0, 0)))) (e_T 12 (e_L 12 (0, ei_getf eft elay 12 86 15, 0, 0)) (e_T 15 (e_L 15 (0, ei_push (0, 1) 16, 0, 0)) (e_L 16 (0, ei_bin eF_add 17, 0, 0)))))) (e_T 29 (e_T 22 (e_T 17 (e_L 17 (2, e_nof, 326, 2)) (e_T 20 (e_L 20 (0, ei_push (0, 61) 22, 0, 0)) (e_L 22 (0, ei_if2 1 29 25, 0, 0)))) (e_T 25 (e_L 25 (0, ei_push (0, 1) 26, 0, 0)) (e_T 26 (e_L 26 (0, ei_goto 30, 0, 0)) (e_L 29 (0, ei_push (0, 0) 30, 0, 0))))) (e_T 32 (e_T 30 (e_L 30 (0, ei_stor 2 0 31, 0, 0)) (e_T 31 (e_L 31 (0, ei_load 1 0 32, 0, 0)) (e_L 32 (0, ei_push (0, 33) 34, 0, 0)))) (e_T 34 (e_L 34 (0, ei_if2 0 49 37, 0, 0)) (e_T 37 (e_L 37 (0, ei_load 1 0 38, 0, 0)) (e_L 38 (0, ei_push (0, 60) 40, 0, 0)))))))
set_option maxRecDepth 20000 in
set_option maxHeartbeats 4000000 in
theorem te_330_0_ok : ∀ pc, e_EOq eft cls elay eI n_330 pc (te_330_0 pc) :=
  (e_Tok2
  (e_Tok2
  (e_Tok2
  (e_Tok2
  (e_Lok (ld_aload_n_0 (x_dk dn_330_0_0_ok 0 rfl)))
  (e_Lok (ps_iconst_3 (x_dk dn_330_0_0_ok 1 rfl))))
  (e_Tok2
  (e_Lok (lk_12_497p ho_330 (x_dk dn_330_0_0_ok 2 rfl)))
  (e_Tok2
  (e_Lok (ld_aload_n_0 (x_dk dn_330_0_0_ok 3 rfl)))
  (e_Lok (ld_iload_n_1 (x_dk dn_330_0_0_ok 4 rfl))))))
  (e_Tok2
  (e_Tok2
  (e_Lok (lk_12_494p ho_330 (x_dk dn_330_0_0_ok 5 rfl)))
  (e_Tok2
  (e_Lok (ld_aload_n_0 (x_dk dn_330_0_0_ok 6 rfl)))
  (e_Lok (ld_aload_n_0 (x_dk dn_330_0_0_ok 7 rfl)))))
  (e_Tok2
  (e_Lok (lk_12_491g ho_330 (x_dk dn_330_0_0_ok 8 rfl)))
  (e_Tok2
  (e_Lok (ps_iconst_1 (x_dk dn_330_0_0_ok 9 rfl)))
  (e_Lok (sm_iadd (x_dk dn_330_0_0_ok 10 rfl)))))))
  (e_Tok2
  (e_Tok2
  (e_Tok2
  (e_Lok (lk_12_488 ho_330 (x_dk dn_330_0_0_ok 11 rfl)))
  (e_Tok2
  (e_Lok (ps_bipush_61 (x_dk dn_330_0_0_ok 12 rfl)))
  (e_Lok (e_st (I := eI) (er_icmpne (off := 7) (tg := 29) (x_dk dn_330_0_0_ok 13 rfl) (by decide)) nx_if2))))
  (e_Tok2
  (e_Lok (ps_iconst_1 (x_dk dn_330_0_0_ok 14 rfl)))
  (e_Tok2
  (e_Lok (e_st (I := eI) (er_goto (off := 4) (tg := 30) (x_dk dn_330_0_0_ok 15 rfl) (by decide)) nx_goto))
  (e_Lok (ps_iconst_0 (x_dk dn_330_0_0_ok 16 rfl))))))
  (e_Tok2
  (e_Tok2
  (e_Lok (e_st (I := eI) (er_istore_n (i := 2) (x_dk dn_330_0_0_ok 17 rfl) (by decide +kernel)) nx_stor))
  (e_Tok2
  (e_Lok (ld_iload_n_1 (x_dk dn_330_0_0_ok 18 rfl)))
  (e_Lok (ps_bipush_33 (x_dk dn_330_0_0_ok 19 rfl)))))
  (e_Tok2
  (e_Lok (e_st (I := eI) (er_icmpeq (off := 15) (tg := 49) (x_dk dn_330_0_0_ok 20 rfl) (by decide)) nx_if2))
  (e_Tok2
  (e_Lok (ld_iload_n_1 (x_dk dn_330_0_0_ok 21 rfl)))
  (e_Lok (ps_bipush_60 (x_dk dn_330_0_0_ok 22 rfl))))))))
def te_330_23 : Nat → eE := (e_T 59 (e_T 49 (e_T 43 (e_T 40 (e_L 40 (0, ei_if2 0 49 43, 0, 0)) (e_L 43 (0, ei_load 1 0 44, 0, 0))) (e_T 44 (e_L 44 (0, ei_push (0, 62) 46, 0, 0)) (e_T 46 (e_L 46 (0, ei_if2 1 94 49, 0, 0)) (e_L 49 (0, ei_load 2 0 50, 0, 0))))) (e_T 54 (e_T 50 (e_L 50 (0, ei_if1 0 94 53, 0, 0)) (e_T 53 (e_L 53 (0, ei_load 0 2 54, 0, 0)) (e_L 54 (0, ei_stk ef_dup 55, 0, 0)))) (e_T 55 (e_L 55 (0, ei_getf eft elay 12 87 58, 0, 0)) (e_T 58 (e_L 58 (0, ei_push (0, 1) 59, 0, 0)) (e_L 59 (0, ei_bin eF_add 60, 0, 0)))))) (e_T 70 (e_T 64 (e_T 60 (e_L 60 (0, ei_putf eft elay 12 87 0 63, 0, 0)) (e_T 63 (e_L 63 (0, ei_load 0 2 64, 0, 0)) (e_L 64 (0, ei_load 1 0 65, 0, 0)))) (e_T 65 (e_L 65 (0, ei_push (0, 33) 67, 0, 0)) (e_T 67 (e_L 67 (0, ei_if2 1 75 70, 0, 0)) (e_L 70 (0, ei_push (0, 110) 72, 0, 0))))) (e_T 76 (e_T 72 (e_L 72 (0, ei_goto 88, 0, 0)) (e_T 75 (e_L 75 (0, ei_load 1 0 76, 0, 0)) (e_L 76 (0, ei_push (0, 60) 78, 0, 0)))) (e_T 78 (e_L 78 (0, ei_if2 1 86 81, 0, 0)) (e_T 81 (e_L 81 (0, ei_push (0, 108) 83, 0, 0)) (e_L 83 (0, ei_goto 88, 0, 0)))))))
set_option maxRecDepth 20000 in
set_option maxHeartbeats 4000000 in
theorem te_330_23_ok : ∀ pc, e_EOq eft cls elay eI n_330 pc (te_330_23 pc) :=
  (e_Tok2
  (e_Tok2
  (e_Tok2
  (e_Tok2
  (e_Lok (e_st (I := eI) (er_icmpeq (off := 9) (tg := 49) (x_dk dn_330_0_0_ok 23 rfl) (by decide)) nx_if2))
  (e_Lok (ld_iload_n_1 (x_dk dn_330_0_0_ok 24 rfl))))
  (e_Tok2
  (e_Lok (ps_bipush_62 (x_dk dn_330_0_1_ok 0 rfl)))
  (e_Tok2
  (e_Lok (e_st (I := eI) (er_icmpne (off := 48) (tg := 94) (x_dk dn_330_0_1_ok 1 rfl) (by decide)) nx_if2))
  (e_Lok (ld_iload_n_2 (x_dk dn_330_0_1_ok 2 rfl))))))
  (e_Tok2
  (e_Tok2
  (e_Lok (e_st (I := eI) (er_ifeq (off := 44) (tg := 94) (x_dk dn_330_0_1_ok 3 rfl) (by decide)) nx_if1))
  (e_Tok2
  (e_Lok (ld_aload_n_0 (x_dk dn_330_0_1_ok 4 rfl)))
  (e_Lok (e_st (I := eI) (er_dup (x_dk dn_330_0_1_ok 5 rfl)) (nx_stk bf_dup)))))
  (e_Tok2
  (e_Lok (lk_12_485g ho_330 (x_dk dn_330_0_1_ok 6 rfl)))
  (e_Tok2
  (e_Lok (ps_iconst_1 (x_dk dn_330_0_1_ok 7 rfl)))
  (e_Lok (sm_iadd (x_dk dn_330_0_1_ok 8 rfl)))))))
  (e_Tok2
  (e_Tok2
  (e_Tok2
  (e_Lok (lk_12_485p ho_330 (x_dk dn_330_0_1_ok 9 rfl)))
  (e_Tok2
  (e_Lok (ld_aload_n_0 (x_dk dn_330_0_1_ok 10 rfl)))
  (e_Lok (ld_iload_n_1 (x_dk dn_330_0_1_ok 11 rfl)))))
  (e_Tok2
  (e_Lok (ps_bipush_33 (x_dk dn_330_0_1_ok 12 rfl)))
  (e_Tok2
  (e_Lok (e_st (I := eI) (er_icmpne (off := 8) (tg := 75) (x_dk dn_330_0_1_ok 13 rfl) (by decide)) nx_if2))
  (e_Lok (ps_bipush_110 (x_dk dn_330_0_1_ok 14 rfl))))))
  (e_Tok2
  (e_Tok2
  (e_Lok (e_st (I := eI) (er_goto (off := 16) (tg := 88) (x_dk dn_330_0_1_ok 15 rfl) (by decide)) nx_goto))
  (e_Tok2
  (e_Lok (ld_iload_n_1 (x_dk dn_330_0_1_ok 16 rfl)))
  (e_Lok (ps_bipush_60 (x_dk dn_330_0_1_ok 17 rfl)))))
  (e_Tok2
  (e_Lok (e_st (I := eI) (er_icmpne (off := 8) (tg := 86) (x_dk dn_330_0_1_ok 18 rfl) (by decide)) nx_if2))
  (e_Tok2
  (e_Lok (ps_bipush_108 (x_dk dn_330_0_1_ok 19 rfl)))
  (e_Lok (e_st (I := eI) (er_goto (off := 5) (tg := 88) (x_dk dn_330_0_1_ok 20 rfl) (by decide)) nx_goto)))))))
def te_330_46 : Nat → eE := (e_T 107 (e_T 95 (e_T 88 (e_T 86 (e_L 86 (0, ei_push (0, 103) 88, 0, 0)) (e_L 88 (0, ei_putf eft elay 12 85 0 91, 0, 0))) (e_T 91 (e_L 91 (0, ei_goto 177, 0, 0)) (e_T 94 (e_L 94 (0, ei_load 1 0 95, 0, 0)) (e_L 95 (0, ei_push (0, 43) 97, 0, 0))))) (e_T 101 (e_T 97 (e_L 97 (0, ei_if2 0 177 100, 0, 0)) (e_T 100 (e_L 100 (0, ei_load 1 0 101, 0, 0)) (e_L 101 (0, ei_push (0, 45) 103, 0, 0)))) (e_T 103 (e_L 103 (0, ei_if2 0 177 106, 0, 0)) (e_T 106 (e_L 106 (0, ei_load 1 0 107, 0, 0)) (e_L 107 (0, ei_push (0, 42) 109, 0, 0)))))) (e_T 119 (e_T 113 (e_T 109 (e_L 109 (0, ei_if2 0 177 112, 0, 0)) (e_T 112 (e_L 112 (0, ei_load 1 0 113, 0, 0)) (e_L 113 (0, ei_push (0, 47) 115, 0, 0)))) (e_T 115 (e_L 115 (0, ei_if2 0 177 118, 0, 0)) (e_T 118 (e_L 118 (0, ei_load 1 0 119, 0, 0)) (e_L 119 (0, ei_push (0, 37) 121, 0, 0))))) (e_T 125 (e_T 121 (e_L 121 (0, ei_if2 0 177 124, 0, 0)) (e_T 124 (e_L 124 (0, ei_load 1 0 125, 0, 0)) (e_L 125 (0, ei_push (0, 61) 127, 0, 0)))) (e_T 127 (e_L 127 (0, ei_if2 0 177 130, 0, 0)) (e_T 130 (e_L 130 (0, ei_load 1 0 131, 0, 0)) (e_L 131 (0, ei_push (0, 60) 133, 0, 0)))))))
set_option maxRecDepth 20000 in
set_option maxHeartbeats 4000000 in
theorem te_330_46_ok : ∀ pc, e_EOq eft cls elay eI n_330 pc (te_330_46 pc) :=
  (e_Tok2
  (e_Tok2
  (e_Tok2
  (e_Tok2
  (e_Lok (ps_bipush_103 (x_dk dn_330_0_1_ok 21 rfl)))
  (e_Lok (lk_12_494p ho_330 (x_dk dn_330_0_1_ok 22 rfl))))
  (e_Tok2
  (e_Lok (e_st (I := eI) (er_goto (off := 86) (tg := 177) (x_dk dn_330_0_1_ok 23 rfl) (by decide)) nx_goto))
  (e_Tok2
  (e_Lok (ld_iload_n_1 (x_dk dn_330_0_1_ok 24 rfl)))
  (e_Lok (ps_bipush_43 (x_dk dn_330_0_2_ok 0 rfl))))))
  (e_Tok2
  (e_Tok2
  (e_Lok (e_st (I := eI) (er_icmpeq (off := 80) (tg := 177) (x_dk dn_330_0_2_ok 1 rfl) (by decide)) nx_if2))
  (e_Tok2
  (e_Lok (ld_iload_n_1 (x_dk dn_330_0_2_ok 2 rfl)))
  (e_Lok (ps_bipush_45 (x_dk dn_330_0_2_ok 3 rfl)))))
  (e_Tok2
  (e_Lok (e_st (I := eI) (er_icmpeq (off := 74) (tg := 177) (x_dk dn_330_0_2_ok 4 rfl) (by decide)) nx_if2))
  (e_Tok2
  (e_Lok (ld_iload_n_1 (x_dk dn_330_0_2_ok 5 rfl)))
  (e_Lok (ps_bipush_42 (x_dk dn_330_0_2_ok 6 rfl)))))))
  (e_Tok2
  (e_Tok2
  (e_Tok2
  (e_Lok (e_st (I := eI) (er_icmpeq (off := 68) (tg := 177) (x_dk dn_330_0_2_ok 7 rfl) (by decide)) nx_if2))
  (e_Tok2
  (e_Lok (ld_iload_n_1 (x_dk dn_330_0_2_ok 8 rfl)))
  (e_Lok (ps_bipush_47 (x_dk dn_330_0_2_ok 9 rfl)))))
  (e_Tok2
  (e_Lok (e_st (I := eI) (er_icmpeq (off := 62) (tg := 177) (x_dk dn_330_0_2_ok 10 rfl) (by decide)) nx_if2))
  (e_Tok2
  (e_Lok (ld_iload_n_1 (x_dk dn_330_0_2_ok 11 rfl)))
  (e_Lok (ps_bipush_37 (x_dk dn_330_0_2_ok 12 rfl))))))
  (e_Tok2
  (e_Tok2
  (e_Lok (e_st (I := eI) (er_icmpeq (off := 56) (tg := 177) (x_dk dn_330_0_2_ok 13 rfl) (by decide)) nx_if2))
  (e_Tok2
  (e_Lok (ld_iload_n_1 (x_dk dn_330_0_2_ok 14 rfl)))
  (e_Lok (ps_bipush_61 (x_dk dn_330_0_2_ok 15 rfl)))))
  (e_Tok2
  (e_Lok (e_st (I := eI) (er_icmpeq (off := 50) (tg := 177) (x_dk dn_330_0_2_ok 16 rfl) (by decide)) nx_if2))
  (e_Tok2
  (e_Lok (ld_iload_n_1 (x_dk dn_330_0_2_ok 17 rfl)))
  (e_Lok (ps_bipush_60 (x_dk dn_330_0_2_ok 18 rfl))))))))
def te_330_69 : Nat → eE := (e_T 154 (e_T 142 (e_T 136 (e_T 133 (e_L 133 (0, ei_if2 0 177 136, 0, 0)) (e_L 136 (0, ei_load 1 0 137, 0, 0))) (e_T 137 (e_L 137 (0, ei_push (0, 62) 139, 0, 0)) (e_T 139 (e_L 139 (0, ei_if2 0 177 142, 0, 0)) (e_L 142 (0, ei_load 1 0 143, 0, 0))))) (e_T 148 (e_T 143 (e_L 143 (0, ei_push (0, 40) 145, 0, 0)) (e_T 145 (e_L 145 (0, ei_if2 0 177 148, 0, 0)) (e_L 148 (0, ei_load 1 0 149, 0, 0)))) (e_T 149 (e_L 149 (0, ei_push (0, 41) 151, 0, 0)) (e_T 151 (e_L 151 (0, ei_if2 0 177 154, 0, 0)) (e_L 154 (0, ei_load 1 0 155, 0, 0)))))) (e_T 166 (e_T 160 (e_T 155 (e_L 155 (0, ei_push (0, 44) 157, 0, 0)) (e_T 157 (e_L 157 (0, ei_if2 0 177 160, 0, 0)) (e_L 160 (0, ei_load 1 0 161, 0, 0)))) (e_T 161 (e_L 161 (0, ei_push (0, 59) 163, 0, 0)) (e_T 163 (e_L 163 (0, ei_if2 0 177 166, 0, 0)) (e_L 166 (0, ei_load 1 0 167, 0, 0))))) (e_T 172 (e_T 167 (e_L 167 (0, ei_push (0, 58) 169, 0, 0)) (e_T 169 (e_L 169 (0, ei_if2 0 177 172, 0, 0)) (e_L 172 (0, ei_load 0 2 173, 0, 0)))) (e_T 173 (e_L 173 (0, ei_push (0, 5) 174, 0, 0)) (e_T 174 (e_L 174 (0, ei_putf eft elay 12 84 0 177, 0, 0)) (e_L 177 (1, e_nof, 0, 0)))))))
set_option maxRecDepth 20000 in
set_option maxHeartbeats 4000000 in
theorem te_330_69_ok : ∀ pc, e_EOq eft cls elay eI n_330 pc (te_330_69 pc) :=
  (e_Tok2
  (e_Tok2
  (e_Tok2
  (e_Tok2
  (e_Lok (e_st (I := eI) (er_icmpeq (off := 44) (tg := 177) (x_dk dn_330_0_2_ok 19 rfl) (by decide)) nx_if2))
  (e_Lok (ld_iload_n_1 (x_dk dn_330_0_2_ok 20 rfl))))
  (e_Tok2
  (e_Lok (ps_bipush_62 (x_dk dn_330_0_2_ok 21 rfl)))
  (e_Tok2
  (e_Lok (e_st (I := eI) (er_icmpeq (off := 38) (tg := 177) (x_dk dn_330_0_2_ok 22 rfl) (by decide)) nx_if2))
  (e_Lok (ld_iload_n_1 (x_dk dn_330_0_2_ok 23 rfl))))))
  (e_Tok2
  (e_Tok2
  (e_Lok (ps_bipush_40 (x_dk dn_330_0_2_ok 24 rfl)))
  (e_Tok2
  (e_Lok (e_st (I := eI) (er_icmpeq (off := 32) (tg := 177) (x_dk dn_330_0_3_ok 0 rfl) (by decide)) nx_if2))
  (e_Lok (ld_iload_n_1 (x_dk dn_330_0_3_ok 1 rfl)))))
  (e_Tok2
  (e_Lok (ps_bipush_41 (x_dk dn_330_0_3_ok 2 rfl)))
  (e_Tok2
  (e_Lok (e_st (I := eI) (er_icmpeq (off := 26) (tg := 177) (x_dk dn_330_0_3_ok 3 rfl) (by decide)) nx_if2))
  (e_Lok (ld_iload_n_1 (x_dk dn_330_0_3_ok 4 rfl)))))))
  (e_Tok2
  (e_Tok2
  (e_Tok2
  (e_Lok (ps_bipush_44 (x_dk dn_330_0_3_ok 5 rfl)))
  (e_Tok2
  (e_Lok (e_st (I := eI) (er_icmpeq (off := 20) (tg := 177) (x_dk dn_330_0_3_ok 6 rfl) (by decide)) nx_if2))
  (e_Lok (ld_iload_n_1 (x_dk dn_330_0_3_ok 7 rfl)))))
  (e_Tok2
  (e_Lok (ps_bipush_59 (x_dk dn_330_0_3_ok 8 rfl)))
  (e_Tok2
  (e_Lok (e_st (I := eI) (er_icmpeq (off := 14) (tg := 177) (x_dk dn_330_0_3_ok 9 rfl) (by decide)) nx_if2))
  (e_Lok (ld_iload_n_1 (x_dk dn_330_0_3_ok 10 rfl))))))
  (e_Tok2
  (e_Tok2
  (e_Lok (ps_bipush_58 (x_dk dn_330_0_3_ok 11 rfl)))
  (e_Tok2
  (e_Lok (e_st (I := eI) (er_icmpeq (off := 8) (tg := 177) (x_dk dn_330_0_3_ok 12 rfl) (by decide)) nx_if2))
  (e_Lok (ld_aload_n_0 (x_dk dn_330_0_3_ok 13 rfl)))))
  (e_Tok2
  (e_Lok (ps_iconst_5 (x_dk dn_330_0_3_ok 14 rfl)))
  (e_Tok2
  (e_Lok (lk_12_497p ho_330 (x_dk dn_330_0_3_ok 15 rfl)))
  (e_Lok (e_rt (I := eI) (k := 0) ⟨(x_dk dn_330_0_3_ok 16 rfl), rfl⟩)))))))
def te_330 : Nat → eE := (e_T 83 (e_T 38 te_330_0 te_330_23) (e_T 131 te_330_46 te_330_69))
theorem te_330_ok : ∀ pc, e_EOq eft cls elay eI n_330 pc (te_330 pc) := (e_Tok2 ((e_Tok2 (te_330_0_ok) (te_330_23_ok))) ((e_Tok2 (te_330_46_ok) (te_330_69_ok))))
theorem ho_331 : (xm_y n_331).cls = "RobotCellHouseModel" := rfl
def dn_331_0_0 : List (Nat × Instr × Nat) := [(0, .aload_n 0, 1), (1, .getfield 497, 3), (4, .iconst 3, 1), (5, .if_icmp .ne 15, 3), (8, .aload_n 0, 1), (9, .getfield 494, 3), (12, .iload_n 1, 1), (13, .if_icmp .ne 7, 3), (16, .iconst 1, 1), (17, .goto 4, 3), (20, .iconst 0, 1), (21, .ireturn, 1)]
set_option maxRecDepth 20000 in
theorem dn_331_0_0_ok : dn_331_0_0.all (fun q => decide (decode (xm_b n_331) q.1 = .ok (q.2.1, q.2.2))) = true := xa_g_ok (by decide +kernel)
def te_331_0 : Nat → eE := (e_T 9 (e_T 4 (e_T 0 (e_L 0 (0, ei_load 0 2 1, 0, 0)) (e_T 1 (e_L 1 (0, ei_getf eft elay 12 84 4, 0, 0)) (e_L 4 (0, ei_push (0, 3) 5, 0, 0)))) (e_T 5 (e_L 5 (0, ei_if2 1 20 8, 0, 0)) (e_T 8 (e_L 8 (0, ei_load 0 2 9, 0, 0)) (e_L 9 (0, ei_getf eft elay 12 85 12, 0, 0))))) (e_T 16 (e_T 12 (e_L 12 (0, ei_load 1 0 13, 0, 0)) (e_T 13 (e_L 13 (0, ei_if2 1 20 16, 0, 0)) (e_L 16 (0, ei_push (0, 1) 17, 0, 0)))) (e_T 17 (e_L 17 (0, ei_goto 21, 0, 0)) (e_T 20 (e_L 20 (0, ei_push (0, 0) 21, 0, 0)) (e_L 21 (1, e_nof, 4, 0))))))
set_option maxRecDepth 20000 in
set_option maxHeartbeats 4000000 in
theorem te_331_0_ok : ∀ pc, e_EOq eft cls elay eI n_331 pc (te_331_0 pc) :=
  (e_Tok2
  (e_Tok2
  (e_Tok2
  (e_Lok (ld_aload_n_0 (x_dk dn_331_0_0_ok 0 rfl)))
  (e_Tok2
  (e_Lok (lk_12_497g ho_331 (x_dk dn_331_0_0_ok 1 rfl)))
  (e_Lok (ps_iconst_3 (x_dk dn_331_0_0_ok 2 rfl)))))
  (e_Tok2
  (e_Lok (e_st (I := eI) (er_icmpne (off := 15) (tg := 20) (x_dk dn_331_0_0_ok 3 rfl) (by decide)) nx_if2))
  (e_Tok2
  (e_Lok (ld_aload_n_0 (x_dk dn_331_0_0_ok 4 rfl)))
  (e_Lok (lk_12_494g ho_331 (x_dk dn_331_0_0_ok 5 rfl))))))
  (e_Tok2
  (e_Tok2
  (e_Lok (ld_iload_n_1 (x_dk dn_331_0_0_ok 6 rfl)))
  (e_Tok2
  (e_Lok (e_st (I := eI) (er_icmpne (off := 7) (tg := 20) (x_dk dn_331_0_0_ok 7 rfl) (by decide)) nx_if2))
  (e_Lok (ps_iconst_1 (x_dk dn_331_0_0_ok 8 rfl)))))
  (e_Tok2
  (e_Lok (e_st (I := eI) (er_goto (off := 4) (tg := 21) (x_dk dn_331_0_0_ok 9 rfl) (by decide)) nx_goto))
  (e_Tok2
  (e_Lok (ps_iconst_0 (x_dk dn_331_0_0_ok 10 rfl)))
  (e_Lok (e_rt (I := eI) (k := 4) ⟨(x_dk dn_331_0_0_ok 11 rfl), rfl⟩))))))
def te_331 : Nat → eE := te_331_0
theorem te_331_ok : ∀ pc, e_EOq eft cls elay eI n_331 pc (te_331 pc) := te_331_0_ok
theorem ho_332 : (xm_y n_332).cls = "RobotCellHouseModel" := rfl
def dn_332_0_0 : List (Nat × Instr × Nat) := [(0, .aload_n 0, 1), (1, .getfield 497, 3), (4, .iconst 4, 1), (5, .if_icmp .ne 15, 3), (8, .aload_n 0, 1), (9, .getfield 494, 3), (12, .iload_n 1, 1), (13, .if_icmp .ne 7, 3), (16, .iconst 1, 1), (17, .goto 4, 3), (20, .iconst 0, 1), (21, .ireturn, 1)]
set_option maxRecDepth 20000 in
theorem dn_332_0_0_ok : dn_332_0_0.all (fun q => decide (decode (xm_b n_332) q.1 = .ok (q.2.1, q.2.2))) = true := xa_g_ok (by decide +kernel)
def te_332_0 : Nat → eE := (e_T 9 (e_T 4 (e_T 0 (e_L 0 (0, ei_load 0 2 1, 0, 0)) (e_T 1 (e_L 1 (0, ei_getf eft elay 12 84 4, 0, 0)) (e_L 4 (0, ei_push (0, 4) 5, 0, 0)))) (e_T 5 (e_L 5 (0, ei_if2 1 20 8, 0, 0)) (e_T 8 (e_L 8 (0, ei_load 0 2 9, 0, 0)) (e_L 9 (0, ei_getf eft elay 12 85 12, 0, 0))))) (e_T 16 (e_T 12 (e_L 12 (0, ei_load 1 0 13, 0, 0)) (e_T 13 (e_L 13 (0, ei_if2 1 20 16, 0, 0)) (e_L 16 (0, ei_push (0, 1) 17, 0, 0)))) (e_T 17 (e_L 17 (0, ei_goto 21, 0, 0)) (e_T 20 (e_L 20 (0, ei_push (0, 0) 21, 0, 0)) (e_L 21 (1, e_nof, 4, 0))))))
set_option maxRecDepth 20000 in
set_option maxHeartbeats 4000000 in
theorem te_332_0_ok : ∀ pc, e_EOq eft cls elay eI n_332 pc (te_332_0 pc) :=
  (e_Tok2
  (e_Tok2
  (e_Tok2
  (e_Lok (ld_aload_n_0 (x_dk dn_332_0_0_ok 0 rfl)))
  (e_Tok2
  (e_Lok (lk_12_497g ho_332 (x_dk dn_332_0_0_ok 1 rfl)))
  (e_Lok (ps_iconst_4 (x_dk dn_332_0_0_ok 2 rfl)))))
  (e_Tok2
  (e_Lok (e_st (I := eI) (er_icmpne (off := 15) (tg := 20) (x_dk dn_332_0_0_ok 3 rfl) (by decide)) nx_if2))
  (e_Tok2
  (e_Lok (ld_aload_n_0 (x_dk dn_332_0_0_ok 4 rfl)))
  (e_Lok (lk_12_494g ho_332 (x_dk dn_332_0_0_ok 5 rfl))))))
  (e_Tok2
  (e_Tok2
  (e_Lok (ld_iload_n_1 (x_dk dn_332_0_0_ok 6 rfl)))
  (e_Tok2
  (e_Lok (e_st (I := eI) (er_icmpne (off := 7) (tg := 20) (x_dk dn_332_0_0_ok 7 rfl) (by decide)) nx_if2))
  (e_Lok (ps_iconst_1 (x_dk dn_332_0_0_ok 8 rfl)))))
  (e_Tok2
  (e_Lok (e_st (I := eI) (er_goto (off := 4) (tg := 21) (x_dk dn_332_0_0_ok 9 rfl) (by decide)) nx_goto))
  (e_Tok2
  (e_Lok (ps_iconst_0 (x_dk dn_332_0_0_ok 10 rfl)))
  (e_Lok (e_rt (I := eI) (k := 4) ⟨(x_dk dn_332_0_0_ok 11 rfl), rfl⟩))))))
def te_332 : Nat → eE := te_332_0
theorem te_332_ok : ∀ pc, e_EOq eft cls elay eI n_332 pc (te_332 pc) := te_332_0_ok
theorem ho_333 : (xm_y n_333).cls = "RobotCellHouseModel" := rfl
def dn_333_0_0 : List (Nat × Instr × Nat) := [(0, .aload_n 0, 1), (1, .getfield 530, 3), (4, .ifCond .ne 28, 3), (7, .aload_n 0, 1), (8, .aload_n 0, 1), (9, .getfield 497, 3), (12, .iconst 5, 1), (13, .if_icmp .ne 7, 3), (16, .iconst 1, 1), (17, .goto 4, 3), (20, .iload_n 1, 1), (21, .putfield 530, 3), (24, .aload_n 0, 1), (25, .aload_n 0, 1), (26, .getfield 491, 3), (29, .putfield 533, 3), (32, .return_, 1)]
set_option maxRecDepth 20000 in
theorem dn_333_0_0_ok : dn_333_0_0.all (fun q => decide (decode (xm_b n_333) q.1 = .ok (q.2.1, q.2.2))) = true := xa_g_ok (by decide +kernel)
def te_333_0 : Nat → eE := (e_T 13 (e_T 7 (e_T 1 (e_T 0 (e_L 0 (0, ei_load 0 2 1, 0, 0)) (e_L 1 (0, ei_getf eft elay 12 88 4, 0, 0))) (e_T 4 (e_L 4 (0, ei_if1 1 32 7, 0, 0)) (e_L 7 (0, ei_load 0 2 8, 0, 0)))) (e_T 9 (e_T 8 (e_L 8 (0, ei_load 0 2 9, 0, 0)) (e_L 9 (0, ei_getf eft elay 12 84 12, 0, 0))) (e_T 12 (e_L 12 (0, ei_push (0, 5) 13, 0, 0)) (e_L 13 (0, ei_if2 1 20 16, 0, 0))))) (e_T 21 (e_T 17 (e_T 16 (e_L 16 (0, ei_push (0, 1) 17, 0, 0)) (e_L 17 (0, ei_goto 21, 0, 0))) (e_T 20 (e_L 20 (0, ei_load 1 0 21, 0, 0)) (e_L 21 (0, ei_putf eft elay 12 88 0 24, 0, 0)))) (e_T 25 (e_T 24 (e_L 24 (0, ei_load 0 2 25, 0, 0)) (e_L 25 (0, ei_load 0 2 26, 0, 0))) (e_T 26 (e_L 26 (0, ei_getf eft elay 12 86 29, 0, 0)) (e_T 29 (e_L 29 (0, ei_putf eft elay 12 89 0 32, 0, 0)) (e_L 32 (1, e_nof, 0, 0)))))))
set_option maxRecDepth 20000 in
set_option maxHeartbeats 4000000 in
theorem te_333_0_ok : ∀ pc, e_EOq eft cls elay eI n_333 pc (te_333_0 pc) :=
  (e_Tok2
  (e_Tok2
  (e_Tok2
  (e_Tok2
  (e_Lok (ld_aload_n_0 (x_dk dn_333_0_0_ok 0 rfl)))
  (e_Lok (lk_12_530g ho_333 (x_dk dn_333_0_0_ok 1 rfl))))
  (e_Tok2
  (e_Lok (e_st (I := eI) (er_ifne (off := 28) (tg := 32) (x_dk dn_333_0_0_ok 2 rfl) (by decide)) nx_if1))
  (e_Lok (ld_aload_n_0 (x_dk dn_333_0_0_ok 3 rfl)))))
  (e_Tok2
  (e_Tok2
  (e_Lok (ld_aload_n_0 (x_dk dn_333_0_0_ok 4 rfl)))
  (e_Lok (lk_12_497g ho_333 (x_dk dn_333_0_0_ok 5 rfl))))
  (e_Tok2
  (e_Lok (ps_iconst_5 (x_dk dn_333_0_0_ok 6 rfl)))
  (e_Lok (e_st (I := eI) (er_icmpne (off := 7) (tg := 20) (x_dk dn_333_0_0_ok 7 rfl) (by decide)) nx_if2)))))
  (e_Tok2
  (e_Tok2
  (e_Tok2
  (e_Lok (ps_iconst_1 (x_dk dn_333_0_0_ok 8 rfl)))
  (e_Lok (e_st (I := eI) (er_goto (off := 4) (tg := 21) (x_dk dn_333_0_0_ok 9 rfl) (by decide)) nx_goto)))
  (e_Tok2
  (e_Lok (ld_iload_n_1 (x_dk dn_333_0_0_ok 10 rfl)))
  (e_Lok (lk_12_530p ho_333 (x_dk dn_333_0_0_ok 11 rfl)))))
  (e_Tok2
  (e_Tok2
  (e_Lok (ld_aload_n_0 (x_dk dn_333_0_0_ok 12 rfl)))
  (e_Lok (ld_aload_n_0 (x_dk dn_333_0_0_ok 13 rfl))))
  (e_Tok2
  (e_Lok (lk_12_491g ho_333 (x_dk dn_333_0_0_ok 14 rfl)))
  (e_Tok2
  (e_Lok (lk_12_533p ho_333 (x_dk dn_333_0_0_ok 15 rfl)))
  (e_Lok (e_rt (I := eI) (k := 0) ⟨(x_dk dn_333_0_0_ok 16 rfl), rfl⟩)))))))
def te_333 : Nat → eE := te_333_0
theorem te_333_ok : ∀ pc, e_EOq eft cls elay eI n_333 pc (te_333 pc) := te_333_0_ok
theorem ho_334 : (xm_y n_334).cls = "RobotCellHouseModel" := rfl
def dn_334_0_0 : List (Nat × Instr × Nat) := [(0, .aload_n 0, 1), (1, .getfield 530, 3), (4, .ifCond .eq 4, 3), (7, .return_, 1), (8, .iload_n 1, 1), (9, .ifCond .eq 10, 3), (12, .aload_n 0, 1), (13, .invokevirtual 536, 3), (16, .goto 8, 3), (19, .aload_n 0, 1), (20, .iconst 2, 1), (21, .invokevirtual 539, 3), (24, .return_, 1)]
set_option maxRecDepth 20000 in
theorem dn_334_0_0_ok : dn_334_0_0.all (fun q => decide (decode (xm_b n_334) q.1 = .ok (q.2.1, q.2.2))) = true := xa_g_ok (by decide +kernel)
def te_334_0 : Nat → eE := (e_T 9 (e_T 4 (e_T 0 (e_L 0 (0, ei_load 0 2 1, 0, 0)) (e_T 1 (e_L 1 (0, ei_getf eft elay 12 88 4, 0, 0)) (e_L 4 (0, ei_if1 0 8 7, 0, 0)))) (e_T 7 (e_L 7 (1, e_nof, 0, 0)) (e_T 8 (e_L 8 (0, ei_load 1 0 9, 0, 0)) (e_L 9 (0, ei_if1 0 19 12, 0, 0))))) (e_T 16 (e_T 12 (e_L 12 (0, ei_load 0 2 13, 0, 0)) (e_T 13 (e_L 13 (2, e_nof, 327, 1)) (e_L 16 (0, ei_goto 24, 0, 0)))) (e_T 20 (e_T 19 (e_L 19 (0, ei_load 0 2 20, 0, 0)) (e_L 20 (0, ei_push (0, 2) 21, 0, 0))) (e_T 21 (e_L 21 (2, e_nof, 333, 2)) (e_L 24 (1, e_nof, 0, 0))))))
set_option maxRecDepth 20000 in
set_option maxHeartbeats 4000000 in
theorem te_334_0_ok : ∀ pc, e_EOq eft cls elay eI n_334 pc (te_334_0 pc) :=
  (e_Tok2
  (e_Tok2
  (e_Tok2
  (e_Lok (ld_aload_n_0 (x_dk dn_334_0_0_ok 0 rfl)))
  (e_Tok2
  (e_Lok (lk_12_530g ho_334 (x_dk dn_334_0_0_ok 1 rfl)))
  (e_Lok (e_st (I := eI) (er_ifeq (off := 4) (tg := 8) (x_dk dn_334_0_0_ok 2 rfl) (by decide)) nx_if1))))
  (e_Tok2
  (e_Lok (e_rt (I := eI) (k := 0) ⟨(x_dk dn_334_0_0_ok 3 rfl), rfl⟩))
  (e_Tok2
  (e_Lok (ld_iload_n_1 (x_dk dn_334_0_0_ok 4 rfl)))
  (e_Lok (e_st (I := eI) (er_ifeq (off := 10) (tg := 19) (x_dk dn_334_0_0_ok 5 rfl) (by decide)) nx_if1)))))
  (e_Tok2
  (e_Tok2
  (e_Lok (ld_aload_n_0 (x_dk dn_334_0_0_ok 6 rfl)))
  (e_Tok2
  (e_Lok (lk_12_536 ho_334 (x_dk dn_334_0_0_ok 7 rfl)))
  (e_Lok (e_st (I := eI) (er_goto (off := 8) (tg := 24) (x_dk dn_334_0_0_ok 8 rfl) (by decide)) nx_goto))))
  (e_Tok2
  (e_Tok2
  (e_Lok (ld_aload_n_0 (x_dk dn_334_0_0_ok 9 rfl)))
  (e_Lok (ps_iconst_2 (x_dk dn_334_0_0_ok 10 rfl))))
  (e_Tok2
  (e_Lok (lk_12_539 ho_334 (x_dk dn_334_0_0_ok 11 rfl)))
  (e_Lok (e_rt (I := eI) (k := 0) ⟨(x_dk dn_334_0_0_ok 12 rfl), rfl⟩))))))
def te_334 : Nat → eE := te_334_0
theorem te_334_ok : ∀ pc, e_EOq eft cls elay eI n_334 pc (te_334 pc) := te_334_0_ok
theorem ho_335 : (xm_y n_335).cls = "RobotCellHouseModel" := rfl
def dn_335_0_0 : List (Nat × Instr × Nat) := [(0, .aload_n 0, 1), (1, .getfield 530, 3), (4, .ifCond .ne 17, 3), (7, .aload_n 0, 1), (8, .getfield 542, 3), (11, .bipush 30, 2), (13, .if_icmp .ne 8, 3), (16, .aload_n 0, 1), (17, .iconst 3, 1), (18, .invokevirtual 539, 3), (21, .aload_n 0, 1), (22, .dup, 1), (23, .getfield 542, 3), (26, .iconst 1, 1), (27, .iadd, 1), (28, .putfield 542, 3), (31, .return_, 1)]
set_option maxRecDepth 20000 in
theorem dn_335_0_0_ok : dn_335_0_0.all (fun q => decide (decode (xm_b n_335) q.1 = .ok (q.2.1, q.2.2))) = true := xa_g_ok (by decide +kernel)
def te_335_0 : Nat → eE := (e_T 16 (e_T 7 (e_T 1 (e_T 0 (e_L 0 (0, ei_load 0 2 1, 0, 0)) (e_L 1 (0, ei_getf eft elay 12 88 4, 0, 0))) (e_T 4 (e_L 4 (0, ei_if1 1 21 7, 0, 0)) (e_L 7 (0, ei_load 0 2 8, 0, 0)))) (e_T 11 (e_T 8 (e_L 8 (0, ei_getf eft elay 12 83 11, 0, 0)) (e_L 11 (0, ei_push (0, 30) 13, 0, 0))) (e_T 13 (e_L 13 (0, ei_if2 1 21 16, 0, 0)) (e_L 16 (0, ei_load 0 2 17, 0, 0))))) (e_T 22 (e_T 18 (e_T 17 (e_L 17 (0, ei_push (0, 3) 18, 0, 0)) (e_L 18 (2, e_nof, 333, 2))) (e_T 21 (e_L 21 (0, ei_load 0 2 22, 0, 0)) (e_L 22 (0, ei_stk ef_dup 23, 0, 0)))) (e_T 26 (e_T 23 (e_L 23 (0, ei_getf eft elay 12 83 26, 0, 0)) (e_L 26 (0, ei_push (0, 1) 27, 0, 0))) (e_T 27 (e_L 27 (0, ei_bin eF_add 28, 0, 0)) (e_T 28 (e_L 28 (0, ei_putf eft elay 12 83 0 31, 0, 0)) (e_L 31 (1, e_nof, 0, 0)))))))
set_option maxRecDepth 20000 in
set_option maxHeartbeats 4000000 in
theorem te_335_0_ok : ∀ pc, e_EOq eft cls elay eI n_335 pc (te_335_0 pc) :=
  (e_Tok2
  (e_Tok2
  (e_Tok2
  (e_Tok2
  (e_Lok (ld_aload_n_0 (x_dk dn_335_0_0_ok 0 rfl)))
  (e_Lok (lk_12_530g ho_335 (x_dk dn_335_0_0_ok 1 rfl))))
  (e_Tok2
  (e_Lok (e_st (I := eI) (er_ifne (off := 17) (tg := 21) (x_dk dn_335_0_0_ok 2 rfl) (by decide)) nx_if1))
  (e_Lok (ld_aload_n_0 (x_dk dn_335_0_0_ok 3 rfl)))))
  (e_Tok2
  (e_Tok2
  (e_Lok (lk_12_542g ho_335 (x_dk dn_335_0_0_ok 4 rfl)))
  (e_Lok (ps_bipush_30 (x_dk dn_335_0_0_ok 5 rfl))))
  (e_Tok2
  (e_Lok (e_st (I := eI) (er_icmpne (off := 8) (tg := 21) (x_dk dn_335_0_0_ok 6 rfl) (by decide)) nx_if2))
  (e_Lok (ld_aload_n_0 (x_dk dn_335_0_0_ok 7 rfl))))))
  (e_Tok2
  (e_Tok2
  (e_Tok2
  (e_Lok (ps_iconst_3 (x_dk dn_335_0_0_ok 8 rfl)))
  (e_Lok (lk_12_539 ho_335 (x_dk dn_335_0_0_ok 9 rfl))))
  (e_Tok2
  (e_Lok (ld_aload_n_0 (x_dk dn_335_0_0_ok 10 rfl)))
  (e_Lok (e_st (I := eI) (er_dup (x_dk dn_335_0_0_ok 11 rfl)) (nx_stk bf_dup)))))
  (e_Tok2
  (e_Tok2
  (e_Lok (lk_12_542g ho_335 (x_dk dn_335_0_0_ok 12 rfl)))
  (e_Lok (ps_iconst_1 (x_dk dn_335_0_0_ok 13 rfl))))
  (e_Tok2
  (e_Lok (sm_iadd (x_dk dn_335_0_0_ok 14 rfl)))
  (e_Tok2
  (e_Lok (lk_12_542p ho_335 (x_dk dn_335_0_0_ok 15 rfl)))
  (e_Lok (e_rt (I := eI) (k := 0) ⟨(x_dk dn_335_0_0_ok 16 rfl), rfl⟩)))))))
def te_335 : Nat → eE := te_335_0
theorem te_335_ok : ∀ pc, e_EOq eft cls elay eI n_335 pc (te_335 pc) := te_335_0_ok
theorem ho_336 : (xm_y n_336).cls = "RobotCellHouseModel" := rfl
def dn_336_0_0 : List (Nat × Instr × Nat) := [(0, .ldc_w 545, 3), (3, .aload_n 0, 1), (4, .getfield 546, 3), (7, .iadd, 1), (8, .istore_n 3, 1), (9, .aload_n 0, 1), (10, .getfield 171, 3), (13, .iload_n 3, 1), (14, .iload_n 1, 1), (15, .iastore, 1), (16, .aload_n 0, 1), (17, .getfield 174, 3), (20, .iload_n 3, 1), (21, .iload_n 2, 1), (22, .iastore, 1), (23, .aload_n 0, 1), (24, .getfield 177, 3), (27, .iload_n 3, 1), (28, .aload_n 0, 1), (29, .getfield 549, 3), (32, .iastore, 1), (33, .aload_n 0, 1), (34, .dup, 1), (35, .getfield 546, 3), (38, .iconst 1, 1)]
set_option maxRecDepth 20000 in
theorem dn_336_0_0_ok : dn_336_0_0.all (fun q => decide (decode (xm_b n_336) q.1 = .ok (q.2.1, q.2.2))) = true := xa_g_ok (by decide +kernel)
def dn_336_0_1 : List (Nat × Instr × Nat) := [(39, .iadd, 1), (40, .putfield 546, 3), (43, .aload_n 0, 1), (44, .getfield 546, 3), (47, .iconst 1, 1), (48, .isub, 1), (49, .ireturn, 1)]
set_option maxRecDepth 20000 in
theorem dn_336_0_1_ok : dn_336_0_1.all (fun q => decide (decode (xm_b n_336) q.1 = .ok (q.2.1, q.2.2))) = true := xa_g_ok (by decide +kernel)
def te_336_0 : Nat → eE := (e_T 23 (e_T 13 (e_T 7 (e_T 3 (e_T 0 (e_L 0 (0, ei_push (0, 40000) 3, 0, 0)) (e_L 3 (0, ei_load 0 2 4, 0, 0))) (e_T 4 (e_L 4 (0, ei_getf eft elay 12 78 7, 0, 0)) (e_L 7 (0, ei_bin eF_add 8, 0, 0)))) (e_T 9 (e_T 8 (e_L 8 (0, ei_stor 3 0 9, 0, 0)) (e_L 9 (0, ei_load 0 2 10, 0, 0))) (e_T 10 (e_L 10 (0, ei_getf eft elay 12 65 13, 0, 0)) (e_L 13 (0, ei_load 3 0 14, 0, 0))))) (e_T 17 (e_T 15 (e_T 14 (e_L 14 (0, ei_load 1 0 15, 0, 0)) (e_L 15 (0, ei_ast elay false 16, 0, 0))) (e_T 16 (e_L 16 (0, ei_load 0 2 17, 0, 0)) (e_L 17 (0, ei_getf eft elay 12 66 20, 0, 0)))) (e_T 21 (e_T 20 (e_L 20 (0, ei_load 3 0 21, 0, 0)) (e_L 21 (0, ei_load 2 0 22, 0, 0))) (e_T 22 (e_L 22 (0, ei_ast elay false 23, 0, 0)) (e_L 23 (0, ei_load 0 2 24, 0, 0)))))) (e_T 35 (e_T 29 (e_T 27 (e_T 24 (e_L 24 (0, ei_getf eft elay 12 67 27, 0, 0)) (e_L 27 (0, ei_load 3 0 28, 0, 0))) (e_T 28 (e_L 28 (0, ei_load 0 2 29, 0, 0)) (e_L 29 (0, ei_getf eft elay 12 81 32, 0, 0)))) (e_T 33 (e_T 32 (e_L 32 (0, ei_ast elay false 33, 0, 0)) (e_L 33 (0, ei_load 0 2 34, 0, 0))) (e_T 34 (e_L 34 (0, ei_stk ef_dup 35, 0, 0)) (e_L 35 (0, ei_getf eft elay 12 78 38, 0, 0))))) (e_T 43 (e_T 39 (e_T 38 (e_L 38 (0, ei_push (0, 1) 39, 0, 0)) (e_L 39 (0, ei_bin eF_add 40, 0, 0))) (e_T 40 (e_L 40 (0, ei_putf eft elay 12 78 0 43, 0, 0)) (e_L 43 (0, ei_load 0 2 44, 0, 0)))) (e_T 47 (e_T 44 (e_L 44 (0, ei_getf eft elay 12 78 47, 0, 0)) (e_L 47 (0, ei_push (0, 1) 48, 0, 0))) (e_T 48 (e_L 48 (0, ei_bin eF_sub 49, 0, 0)) (e_L 49 (1, e_nof, 1, 0)))))))
set_option maxRecDepth 20000 in
set_option maxHeartbeats 4000000 in
theorem te_336_0_ok : ∀ pc, e_EOq eft cls elay eI n_336 pc (te_336_0 pc) :=
  (e_Tok2
  (e_Tok2
  (e_Tok2
  (e_Tok2
  (e_Tok2
  (e_Lok (e_st (I := eI) (er_ldcw (ix := 545) (z := 40000) (v := 40000) (x_dk dn_336_0_0_ok 0 rfl) (in_t12 (List.mem_of_getElem? (i := 40) rfl) rfl) (by decide)) (nx_push (Or.inl rfl))))
  (e_Lok (ld_aload_n_0 (x_dk dn_336_0_0_ok 1 rfl))))
  (e_Tok2
  (e_Lok (lk_12_546g ho_336 (x_dk dn_336_0_0_ok 2 rfl)))
  (e_Lok (sm_iadd (x_dk dn_336_0_0_ok 3 rfl)))))
  (e_Tok2
  (e_Tok2
  (e_Lok (e_st (I := eI) (er_istore_n (i := 3) (x_dk dn_336_0_0_ok 4 rfl) (by decide +kernel)) nx_stor))
  (e_Lok (ld_aload_n_0 (x_dk dn_336_0_0_ok 5 rfl))))
  (e_Tok2
  (e_Lok (lk_12_171g ho_336 (x_dk dn_336_0_0_ok 6 rfl)))
  (e_Lok (ld_iload_n_3 (x_dk dn_336_0_0_ok 7 rfl))))))
  (e_Tok2
  (e_Tok2
  (e_Tok2
  (e_Lok (ld_iload_n_1 (x_dk dn_336_0_0_ok 8 rfl)))
  (e_Lok (sm_iastore (x_dk dn_336_0_0_ok 9 rfl))))
  (e_Tok2
  (e_Lok (ld_aload_n_0 (x_dk dn_336_0_0_ok 10 rfl)))
  (e_Lok (lk_12_174g ho_336 (x_dk dn_336_0_0_ok 11 rfl)))))
  (e_Tok2
  (e_Tok2
  (e_Lok (ld_iload_n_3 (x_dk dn_336_0_0_ok 12 rfl)))
  (e_Lok (ld_iload_n_2 (x_dk dn_336_0_0_ok 13 rfl))))
  (e_Tok2
  (e_Lok (sm_iastore (x_dk dn_336_0_0_ok 14 rfl)))
  (e_Lok (ld_aload_n_0 (x_dk dn_336_0_0_ok 15 rfl)))))))
  (e_Tok2
  (e_Tok2
  (e_Tok2
  (e_Tok2
  (e_Lok (lk_12_177g ho_336 (x_dk dn_336_0_0_ok 16 rfl)))
  (e_Lok (ld_iload_n_3 (x_dk dn_336_0_0_ok 17 rfl))))
  (e_Tok2
  (e_Lok (ld_aload_n_0 (x_dk dn_336_0_0_ok 18 rfl)))
  (e_Lok (lk_12_549g ho_336 (x_dk dn_336_0_0_ok 19 rfl)))))
  (e_Tok2
  (e_Tok2
  (e_Lok (sm_iastore (x_dk dn_336_0_0_ok 20 rfl)))
  (e_Lok (ld_aload_n_0 (x_dk dn_336_0_0_ok 21 rfl))))
  (e_Tok2
  (e_Lok (e_st (I := eI) (er_dup (x_dk dn_336_0_0_ok 22 rfl)) (nx_stk bf_dup)))
  (e_Lok (lk_12_546g ho_336 (x_dk dn_336_0_0_ok 23 rfl))))))
  (e_Tok2
  (e_Tok2
  (e_Tok2
  (e_Lok (ps_iconst_1 (x_dk dn_336_0_0_ok 24 rfl)))
  (e_Lok (sm_iadd (x_dk dn_336_0_1_ok 0 rfl))))
  (e_Tok2
  (e_Lok (lk_12_546p ho_336 (x_dk dn_336_0_1_ok 1 rfl)))
  (e_Lok (ld_aload_n_0 (x_dk dn_336_0_1_ok 2 rfl)))))
  (e_Tok2
  (e_Tok2
  (e_Lok (lk_12_546g ho_336 (x_dk dn_336_0_1_ok 3 rfl)))
  (e_Lok (ps_iconst_1 (x_dk dn_336_0_1_ok 4 rfl))))
  (e_Tok2
  (e_Lok (sm_isub (x_dk dn_336_0_1_ok 5 rfl)))
  (e_Lok (e_rt (I := eI) (k := 1) ⟨(x_dk dn_336_0_1_ok 6 rfl), rfl⟩)))))))
def te_336 : Nat → eE := te_336_0
theorem te_336_ok : ∀ pc, e_EOq eft cls elay eI n_336 pc (te_336 pc) := te_336_0_ok
theorem ho_337 : (xm_y n_337).cls = "RobotCellHouseModel" := rfl
def dn_337_0_0 : List (Nat × Instr × Nat) := [(0, .aload_n 0, 1), (1, .getfield 174, 3), (4, .ldc_w 545, 3), (7, .iload_n 1, 1), (8, .iadd, 1), (9, .aload_n 0, 1), (10, .getfield 546, 3), (13, .iastore, 1), (14, .return_, 1)]
set_option maxRecDepth 20000 in
theorem dn_337_0_0_ok : dn_337_0_0.all (fun q => decide (decode (xm_b n_337) q.1 = .ok (q.2.1, q.2.2))) = true := xa_g_ok (by decide +kernel)
def te_337_0 : Nat → eE := (e_T 7 (e_T 1 (e_T 0 (e_L 0 (0, ei_load 0 2 1, 0, 0)) (e_L 1 (0, ei_getf eft elay 12 66 4, 0, 0))) (e_T 4 (e_L 4 (0, ei_push (0, 40000) 7, 0, 0)) (e_L 7 (0, ei_load 1 0 8, 0, 0)))) (e_T 9 (e_T 8 (e_L 8 (0, ei_bin eF_add 9, 0, 0)) (e_L 9 (0, ei_load 0 2 10, 0, 0))) (e_T 10 (e_L 10 (0, ei_getf eft elay 12 78 13, 0, 0)) (e_T 13 (e_L 13 (0, ei_ast elay false 14, 0, 0)) (e_L 14 (1, e_nof, 0, 0))))))
set_option maxRecDepth 20000 in
set_option maxHeartbeats 4000000 in
theorem te_337_0_ok : ∀ pc, e_EOq eft cls elay eI n_337 pc (te_337_0 pc) :=
  (e_Tok2
  (e_Tok2
  (e_Tok2
  (e_Lok (ld_aload_n_0 (x_dk dn_337_0_0_ok 0 rfl)))
  (e_Lok (lk_12_174g ho_337 (x_dk dn_337_0_0_ok 1 rfl))))
  (e_Tok2
  (e_Lok (e_st (I := eI) (er_ldcw (ix := 545) (z := 40000) (v := 40000) (x_dk dn_337_0_0_ok 2 rfl) (in_t12 (List.mem_of_getElem? (i := 40) rfl) rfl) (by decide)) (nx_push (Or.inl rfl))))
  (e_Lok (ld_iload_n_1 (x_dk dn_337_0_0_ok 3 rfl)))))
  (e_Tok2
  (e_Tok2
  (e_Lok (sm_iadd (x_dk dn_337_0_0_ok 4 rfl)))
  (e_Lok (ld_aload_n_0 (x_dk dn_337_0_0_ok 5 rfl))))
  (e_Tok2
  (e_Lok (lk_12_546g ho_337 (x_dk dn_337_0_0_ok 6 rfl)))
  (e_Tok2
  (e_Lok (sm_iastore (x_dk dn_337_0_0_ok 7 rfl)))
  (e_Lok (e_rt (I := eI) (k := 0) ⟨(x_dk dn_337_0_0_ok 8 rfl), rfl⟩))))))
def te_337 : Nat → eE := te_337_0
theorem te_337_ok : ∀ pc, e_EOq eft cls elay eI n_337 pc (te_337 pc) := te_337_0_ok
theorem ho_338 : (xm_y n_338).cls = "RobotCellHouseModel" := rfl
def dn_338_0_0 : List (Nat × Instr × Nat) := [(0, .aload_n 0, 1), (1, .getfield 530, 3), (4, .ifCond .ne 72, 3), (7, .aload_n 0, 1), (8, .getfield 497, 3), (11, .iconst 1, 1), (12, .if_icmp .ne 64, 3), (15, .aload_n 0, 1), (16, .getfield 210, 3), (19, .aload_n 0, 1), (20, .getfield 552, 3), (23, .iload_n 1, 1), (24, .iastore, 1), (25, .aload_n 0, 1), (26, .getfield 213, 3), (29, .aload_n 0, 1), (30, .getfield 552, 3), (33, .aload_n 0, 1), (34, .getfield 491, 3), (37, .iastore, 1), (38, .aload_n 0, 1), (39, .getfield 216, 3), (42, .aload_n 0, 1), (43, .getfield 552, 3), (46, .aload_n 0, 1)]
set_option maxRecDepth 20000 in
theorem dn_338_0_0_ok : dn_338_0_0.all (fun q => decide (decode (xm_b n_338) q.1 = .ok (q.2.1, q.2.2))) = true := xa_g_ok (by decide +kernel)
def dn_338_0_1 : List (Nat × Instr × Nat) := [(47, .getfield 485, 3), (50, .aload_n 0, 1), (51, .getfield 491, 3), (54, .isub, 1), (55, .iastore, 1), (56, .aload_n 0, 1), (57, .getfield 219, 3), (60, .aload_n 0, 1), (61, .getfield 552, 3), (64, .iload_n 2, 1), (65, .iastore, 1), (66, .aload_n 0, 1), (67, .dup, 1), (68, .getfield 552, 3), (71, .iconst 1, 1), (72, .iadd, 1), (73, .putfield 552, 3), (76, .aload_n 0, 1), (77, .aload_n 0, 1), (78, .getfield 497, 3), (81, .iconst 1, 1), (82, .if_icmp .ne 7, 3), (85, .iconst 1, 1), (86, .goto 4, 3), (89, .iconst 0, 1)]
set_option maxRecDepth 20000 in
theorem dn_338_0_1_ok : dn_338_0_1.all (fun q => decide (decode (xm_b n_338) q.1 = .ok (q.2.1, q.2.2))) = true := xa_g_ok (by decide +kernel)
def dn_338_0_2 : List (Nat × Instr × Nat) := [(90, .invokevirtual 555, 3), (93, .return_, 1)]
set_option maxRecDepth 20000 in
theorem dn_338_0_2_ok : dn_338_0_2.all (fun q => decide (decode (xm_b n_338) q.1 = .ok (q.2.1, q.2.2))) = true := xa_g_ok (by decide +kernel)
def te_338_0 : Nat → eE := (e_T 24 (e_T 11 (e_T 4 (e_T 0 (e_L 0 (0, ei_load 0 2 1, 0, 0)) (e_T 1 (e_L 1 (0, ei_getf eft elay 12 88 4, 0, 0)) (e_L 4 (0, ei_if1 1 76 7, 0, 0)))) (e_T 7 (e_L 7 (0, ei_load 0 2 8, 0, 0)) (e_T 8 (e_L 8 (0, ei_getf eft elay 12 84 11, 0, 0)) (e_L 11 (0, ei_push (0, 1) 12, 0, 0))))) (e_T 16 (e_T 12 (e_L 12 (0, ei_if2 1 76 15, 0, 0)) (e_T 15 (e_L 15 (0, ei_load 0 2 16, 0, 0)) (e_L 16 (0, ei_getf eft elay 12 90 19, 0, 0)))) (e_T 20 (e_T 19 (e_L 19 (0, ei_load 0 2 20, 0, 0)) (e_L 20 (0, ei_getf eft elay 12 94 23, 0, 0))) (e_T 23 (e_L 23 (0, ei_load 1 0 24, 0, 0)) (e_L 24 (0, ei_ast elay false 25, 0, 0)))))) (e_T 34 (e_T 29 (e_T 25 (e_L 25 (0, ei_load 0 2 26, 0, 0)) (e_T 26 (e_L 26 (0, ei_getf eft elay 12 91 29, 0, 0)) (e_L 29 (0, ei_load 0 2 30, 0, 0)))) (e_T 30 (e_L 30 (0, ei_getf eft elay 12 94 33, 0, 0)) (e_T 33 (e_L 33 (0, ei_load 0 2 34, 0, 0)) (e_L 34 (0, ei_getf eft elay 12 86 37, 0, 0))))) (e_T 39 (e_T 37 (e_L 37 (0, ei_ast elay false 38, 0, 0)) (e_T 38 (e_L 38 (0, ei_load 0 2 39, 0, 0)) (e_L 39 (0, ei_getf eft elay 12 92 42, 0, 0)))) (e_T 43 (e_T 42 (e_L 42 (0, ei_load 0 2 43, 0, 0)) (e_L 43 (0, ei_getf eft elay 12 94 46, 0, 0))) (e_T 46 (e_L 46 (0, ei_load 0 2 47, 0, 0)) (e_L 47 (0, ei_getf eft elay 12 87 50, 0, 0)))))))
set_option maxRecDepth 20000 in
set_option maxHeartbeats 4000000 in
theorem te_338_0_ok : ∀ pc, e_EOq eft cls elay eI n_338 pc (te_338_0 pc) :=
  (e_Tok2
  (e_Tok2
  (e_Tok2
  (e_Tok2
  (e_Lok (ld_aload_n_0 (x_dk dn_338_0_0_ok 0 rfl)))
  (e_Tok2
  (e_Lok (lk_12_530g ho_338 (x_dk dn_338_0_0_ok 1 rfl)))
  (e_Lok (e_st (I := eI) (er_ifne (off := 72) (tg := 76) (x_dk dn_338_0_0_ok 2 rfl) (by decide)) nx_if1))))
  (e_Tok2
  (e_Lok (ld_aload_n_0 (x_dk dn_338_0_0_ok 3 rfl)))
  (e_Tok2
  (e_Lok (lk_12_497g ho_338 (x_dk dn_338_0_0_ok 4 rfl)))
  (e_Lok (ps_iconst_1 (x_dk dn_338_0_0_ok 5 rfl))))))
  (e_Tok2
  (e_Tok2
  (e_Lok (e_st (I := eI) (er_icmpne (off := 64) (tg := 76) (x_dk dn_338_0_0_ok 6 rfl) (by decide)) nx_if2))
  (e_Tok2
  (e_Lok (ld_aload_n_0 (x_dk dn_338_0_0_ok 7 rfl)))
  (e_Lok (lk_12_210g ho_338 (x_dk dn_338_0_0_ok 8 rfl)))))
  (e_Tok2
  (e_Tok2
  (e_Lok (ld_aload_n_0 (x_dk dn_338_0_0_ok 9 rfl)))
  (e_Lok (lk_12_552g ho_338 (x_dk dn_338_0_0_ok 10 rfl))))
  (e_Tok2
  (e_Lok (ld_iload_n_1 (x_dk dn_338_0_0_ok 11 rfl)))
  (e_Lok (sm_iastore (x_dk dn_338_0_0_ok 12 rfl)))))))
  (e_Tok2
  (e_Tok2
  (e_Tok2
  (e_Lok (ld_aload_n_0 (x_dk dn_338_0_0_ok 13 rfl)))
  (e_Tok2
  (e_Lok (lk_12_213g ho_338 (x_dk dn_338_0_0_ok 14 rfl)))
  (e_Lok (ld_aload_n_0 (x_dk dn_338_0_0_ok 15 rfl)))))
  (e_Tok2
  (e_Lok (lk_12_552g ho_338 (x_dk dn_338_0_0_ok 16 rfl)))
  (e_Tok2
  (e_Lok (ld_aload_n_0 (x_dk dn_338_0_0_ok 17 rfl)))
  (e_Lok (lk_12_491g ho_338 (x_dk dn_338_0_0_ok 18 rfl))))))
  (e_Tok2
  (e_Tok2
  (e_Lok (sm_iastore (x_dk dn_338_0_0_ok 19 rfl)))
  (e_Tok2
  (e_Lok (ld_aload_n_0 (x_dk dn_338_0_0_ok 20 rfl)))
  (e_Lok (lk_12_216g ho_338 (x_dk dn_338_0_0_ok 21 rfl)))))
  (e_Tok2
  (e_Tok2
  (e_Lok (ld_aload_n_0 (x_dk dn_338_0_0_ok 22 rfl)))
  (e_Lok (lk_12_552g ho_338 (x_dk dn_338_0_0_ok 23 rfl))))
  (e_Tok2
  (e_Lok (ld_aload_n_0 (x_dk dn_338_0_0_ok 24 rfl)))
  (e_Lok (lk_12_485g ho_338 (x_dk dn_338_0_1_ok 0 rfl))))))))
def te_338_26 : Nat → eE := (e_T 68 (e_T 57 (e_T 54 (e_T 50 (e_L 50 (0, ei_load 0 2 51, 0, 0)) (e_T 51 (e_L 51 (0, ei_getf eft elay 12 86 54, 0, 0)) (e_L 54 (0, ei_bin eF_sub 55, 0, 0)))) (e_T 55 (e_L 55 (0, ei_ast elay false 56, 0, 0)) (e_T 56 (e_L 56 (0, ei_load 0 2 57, 0, 0)) (e_L 57 (0, ei_getf eft elay 12 93 60, 0, 0))))) (e_T 64 (e_T 60 (e_L 60 (0, ei_load 0 2 61, 0, 0)) (e_T 61 (e_L 61 (0, ei_getf eft elay 12 94 64, 0, 0)) (e_L 64 (0, ei_load 2 0 65, 0, 0)))) (e_T 66 (e_T 65 (e_L 65 (0, ei_ast elay false 66, 0, 0)) (e_L 66 (0, ei_load 0 2 67, 0, 0))) (e_T 67 (e_L 67 (0, ei_stk ef_dup 68, 0, 0)) (e_L 68 (0, ei_getf eft elay 12 94 71, 0, 0)))))) (e_T 78 (e_T 73 (e_T 71 (e_L 71 (0, ei_push (0, 1) 72, 0, 0)) (e_T 72 (e_L 72 (0, ei_bin eF_add 73, 0, 0)) (e_L 73 (0, ei_putf eft elay 12 94 0 76, 0, 0)))) (e_T 76 (e_L 76 (0, ei_load 0 2 77, 0, 0)) (e_T 77 (e_L 77 (0, ei_load 0 2 78, 0, 0)) (e_L 78 (0, ei_getf eft elay 12 84 81, 0, 0))))) (e_T 85 (e_T 81 (e_L 81 (0, ei_push (0, 1) 82, 0, 0)) (e_T 82 (e_L 82 (0, ei_if2 1 89 85, 0, 0)) (e_L 85 (0, ei_push (0, 1) 86, 0, 0)))) (e_T 89 (e_T 86 (e_L 86 (0, ei_goto 90, 0, 0)) (e_L 89 (0, ei_push (0, 0) 90, 0, 0))) (e_T 90 (e_L 90 (2, e_nof, 334, 2)) (e_L 93 (1, e_nof, 0, 0)))))))
set_option maxRecDepth 20000 in
set_option maxHeartbeats 4000000 in
theorem te_338_26_ok : ∀ pc, e_EOq eft cls elay eI n_338 pc (te_338_26 pc) :=
  (e_Tok2
  (e_Tok2
  (e_Tok2
  (e_Tok2
  (e_Lok (ld_aload_n_0 (x_dk dn_338_0_1_ok 1 rfl)))
  (e_Tok2
  (e_Lok (lk_12_491g ho_338 (x_dk dn_338_0_1_ok 2 rfl)))
  (e_Lok (sm_isub (x_dk dn_338_0_1_ok 3 rfl)))))
  (e_Tok2
  (e_Lok (sm_iastore (x_dk dn_338_0_1_ok 4 rfl)))
  (e_Tok2
  (e_Lok (ld_aload_n_0 (x_dk dn_338_0_1_ok 5 rfl)))
  (e_Lok (lk_12_219g ho_338 (x_dk dn_338_0_1_ok 6 rfl))))))
  (e_Tok2
  (e_Tok2
  (e_Lok (ld_aload_n_0 (x_dk dn_338_0_1_ok 7 rfl)))
  (e_Tok2
  (e_Lok (lk_12_552g ho_338 (x_dk dn_338_0_1_ok 8 rfl)))
  (e_Lok (ld_iload_n_2 (x_dk dn_338_0_1_ok 9 rfl)))))
  (e_Tok2
  (e_Tok2
  (e_Lok (sm_iastore (x_dk dn_338_0_1_ok 10 rfl)))
  (e_Lok (ld_aload_n_0 (x_dk dn_338_0_1_ok 11 rfl))))
  (e_Tok2
  (e_Lok (e_st (I := eI) (er_dup (x_dk dn_338_0_1_ok 12 rfl)) (nx_stk bf_dup)))
  (e_Lok (lk_12_552g ho_338 (x_dk dn_338_0_1_ok 13 rfl)))))))
  (e_Tok2
  (e_Tok2
  (e_Tok2
  (e_Lok (ps_iconst_1 (x_dk dn_338_0_1_ok 14 rfl)))
  (e_Tok2
  (e_Lok (sm_iadd (x_dk dn_338_0_1_ok 15 rfl)))
  (e_Lok (lk_12_552p ho_338 (x_dk dn_338_0_1_ok 16 rfl)))))
  (e_Tok2
  (e_Lok (ld_aload_n_0 (x_dk dn_338_0_1_ok 17 rfl)))
  (e_Tok2
  (e_Lok (ld_aload_n_0 (x_dk dn_338_0_1_ok 18 rfl)))
  (e_Lok (lk_12_497g ho_338 (x_dk dn_338_0_1_ok 19 rfl))))))
  (e_Tok2
  (e_Tok2
  (e_Lok (ps_iconst_1 (x_dk dn_338_0_1_ok 20 rfl)))
  (e_Tok2
  (e_Lok (e_st (I := eI) (er_icmpne (off := 7) (tg := 89) (x_dk dn_338_0_1_ok 21 rfl) (by decide)) nx_if2))
  (e_Lok (ps_iconst_1 (x_dk dn_338_0_1_ok 22 rfl)))))
  (e_Tok2
  (e_Tok2
  (e_Lok (e_st (I := eI) (er_goto (off := 4) (tg := 90) (x_dk dn_338_0_1_ok 23 rfl) (by decide)) nx_goto))
  (e_Lok (ps_iconst_0 (x_dk dn_338_0_1_ok 24 rfl))))
  (e_Tok2
  (e_Lok (lk_12_555 ho_338 (x_dk dn_338_0_2_ok 0 rfl)))
  (e_Lok (e_rt (I := eI) (k := 0) ⟨(x_dk dn_338_0_2_ok 1 rfl), rfl⟩)))))))
def te_338 : Nat → eE := (e_T 47 te_338_0 te_338_26)
theorem te_338_ok : ∀ pc, e_EOq eft cls elay eI n_338 pc (te_338 pc) := (e_Tok2 (te_338_0_ok) (te_338_26_ok))
theorem ho_339 : (xm_y n_339).cls = "RobotCellHouseModel" := rfl
def dn_339_0_0 : List (Nat × Instr × Nat) := [(0, .aload_n 0, 1), (1, .invokevirtual 559, 3), (4, .iconst (-1), 1), (5, .istore_n 1, 1), (6, .aload_n 0, 1), (7, .getfield 530, 3), (10, .ifCond .ne 31, 3), (13, .aload_n 0, 1), (14, .bipush 24, 2), (16, .invokevirtual 562, 3), (19, .ifCond .eq 22, 3), (22, .aload_n 0, 1), (23, .bipush 22, 2), (25, .iload_n 1, 1), (26, .invokevirtual 565, 3), (29, .istore_n 1, 1), (30, .aload_n 0, 1), (31, .invokevirtual 536, 3), (34, .aload_n 0, 1), (35, .invokevirtual 559, 3), (38, .goto (-32), 3), (41, .aload_n 0, 1), (42, .iload_n 1, 1), (43, .invokevirtual 569, 3), (46, .return_, 1)]
set_option maxRecDepth 20000 in
theorem dn_339_0_0_ok : dn_339_0_0.all (fun q => decide (decode (xm_b n_339) q.1 = .ok (q.2.1, q.2.2))) = true := xa_g_ok (by decide +kernel)
def te_339_0 : Nat → eE := (e_T 22 (e_T 7 (e_T 4 (e_T 0 (e_L 0 (0, ei_load 0 2 1, 0, 0)) (e_T 1 (e_L 1 (2, e_nof, 340, 1)) (e_L 4 (0, ei_push (0, (-1)) 5, 0, 0)))) (e_T 5 (e_L 5 (0, ei_stor 1 0 6, 0, 0)) (e_T 6 (e_L 6 (0, ei_load 0 2 7, 0, 0)) (e_L 7 (0, ei_getf eft elay 12 88 10, 0, 0))))) (e_T 14 (e_T 10 (e_L 10 (0, ei_if1 1 41 13, 0, 0)) (e_T 13 (e_L 13 (0, ei_load 0 2 14, 0, 0)) (e_L 14 (0, ei_push (0, 24) 16, 0, 0)))) (e_T 16 (e_L 16 (2, e_nof, 332, 2)) (e_T 19 (e_L 19 (0, ei_if1 0 41 22, 0, 0)) (e_L 22 (0, ei_load 0 2 23, 0, 0)))))) (e_T 31 (e_T 26 (e_T 23 (e_L 23 (0, ei_push (0, 22) 25, 0, 0)) (e_T 25 (e_L 25 (0, ei_load 1 0 26, 0, 0)) (e_L 26 (2, e_nof, 336, 3)))) (e_T 29 (e_L 29 (0, ei_stor 1 0 30, 0, 0)) (e_T 30 (e_L 30 (0, ei_load 0 2 31, 0, 0)) (e_L 31 (2, e_nof, 327, 1))))) (e_T 38 (e_T 34 (e_L 34 (0, ei_load 0 2 35, 0, 0)) (e_T 35 (e_L 35 (2, e_nof, 340, 1)) (e_L 38 (0, ei_goto 6, 0, 0)))) (e_T 42 (e_T 41 (e_L 41 (0, ei_load 0 2 42, 0, 0)) (e_L 42 (0, ei_load 1 0 43, 0, 0))) (e_T 43 (e_L 43 (2, e_nof, 341, 2)) (e_L 46 (1, e_nof, 0, 0)))))))
set_option maxRecDepth 20000 in
set_option maxHeartbeats 4000000 in
theorem te_339_0_ok : ∀ pc, e_EOq eft cls elay eI n_339 pc (te_339_0 pc) :=
  (e_Tok2
  (e_Tok2
  (e_Tok2
  (e_Tok2
  (e_Lok (ld_aload_n_0 (x_dk dn_339_0_0_ok 0 rfl)))
  (e_Tok2
  (e_Lok (lk_12_559 ho_339 (x_dk dn_339_0_0_ok 1 rfl)))
  (e_Lok (ps_iconst_m1 (x_dk dn_339_0_0_ok 2 rfl)))))
  (e_Tok2
  (e_Lok (e_st (I := eI) (er_istore_n (i := 1) (x_dk dn_339_0_0_ok 3 rfl) (by decide +kernel)) nx_stor))
  (e_Tok2
  (e_Lok (ld_aload_n_0 (x_dk dn_339_0_0_ok 4 rfl)))
  (e_Lok (lk_12_530g ho_339 (x_dk dn_339_0_0_ok 5 rfl))))))
  (e_Tok2
  (e_Tok2
  (e_Lok (e_st (I := eI) (er_ifne (off := 31) (tg := 41) (x_dk dn_339_0_0_ok 6 rfl) (by decide)) nx_if1))
  (e_Tok2
  (e_Lok (ld_aload_n_0 (x_dk dn_339_0_0_ok 7 rfl)))
  (e_Lok (ps_bipush_24 (x_dk dn_339_0_0_ok 8 rfl)))))
  (e_Tok2
  (e_Lok (lk_12_562 ho_339 (x_dk dn_339_0_0_ok 9 rfl)))
  (e_Tok2
  (e_Lok (e_st (I := eI) (er_ifeq (off := 22) (tg := 41) (x_dk dn_339_0_0_ok 10 rfl) (by decide)) nx_if1))
  (e_Lok (ld_aload_n_0 (x_dk dn_339_0_0_ok 11 rfl)))))))
  (e_Tok2
  (e_Tok2
  (e_Tok2
  (e_Lok (ps_bipush_22 (x_dk dn_339_0_0_ok 12 rfl)))
  (e_Tok2
  (e_Lok (ld_iload_n_1 (x_dk dn_339_0_0_ok 13 rfl)))
  (e_Lok (lk_12_565 ho_339 (x_dk dn_339_0_0_ok 14 rfl)))))
  (e_Tok2
  (e_Lok (e_st (I := eI) (er_istore_n (i := 1) (x_dk dn_339_0_0_ok 15 rfl) (by decide +kernel)) nx_stor))
  (e_Tok2
  (e_Lok (ld_aload_n_0 (x_dk dn_339_0_0_ok 16 rfl)))
  (e_Lok (lk_12_536 ho_339 (x_dk dn_339_0_0_ok 17 rfl))))))
  (e_Tok2
  (e_Tok2
  (e_Lok (ld_aload_n_0 (x_dk dn_339_0_0_ok 18 rfl)))
  (e_Tok2
  (e_Lok (lk_12_559 ho_339 (x_dk dn_339_0_0_ok 19 rfl)))
  (e_Lok (e_st (I := eI) (er_goto (off := (-32)) (tg := 6) (x_dk dn_339_0_0_ok 20 rfl) (by decide)) nx_goto))))
  (e_Tok2
  (e_Tok2
  (e_Lok (ld_aload_n_0 (x_dk dn_339_0_0_ok 21 rfl)))
  (e_Lok (ld_iload_n_1 (x_dk dn_339_0_0_ok 22 rfl))))
  (e_Tok2
  (e_Lok (lk_12_569 ho_339 (x_dk dn_339_0_0_ok 23 rfl)))
  (e_Lok (e_rt (I := eI) (k := 0) ⟨(x_dk dn_339_0_0_ok 24 rfl), rfl⟩)))))))
def te_339 : Nat → eE := te_339_0
theorem te_339_ok : ∀ pc, e_EOq eft cls elay eI n_339 pc (te_339 pc) := te_339_0_ok
end
end
