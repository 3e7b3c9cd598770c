noncomputable section
theorem ho_234 : (xm_y n_234).cls = "RobotCellHouse" := rfl
def dn_234_0_0 : List (Nat × Instr × Nat) := [(0, .iload_n 1, 1), (1, .iconst 0, 1), (2, .bipush 7, 2), (4, .invokestatic 82, 3), (7, .ifCond .eq 15, 3), (10, .aload_n 0, 1), (11, .getfield 19, 3), (14, .getfield 368, 3), (17, .iload_n 1, 1), (18, .iaload, 1), (19, .goto 4, 3), (22, .iconst (-1), 1), (23, .ireturn, 1)]
set_option maxRecDepth 20000 in
theorem dn_234_0_0_ok : dn_234_0_0.all (fun q => decide (decode (xm_b n_234) q.1 = .ok (q.2.1, q.2.2))) = true := xa_g_ok (by decide +kernel)
def te_234_0 : Nat → eE := (e_T 10 (e_T 2 (e_T 0 (e_L 0 (0, ei_load 1 0 1, 0, 0)) (e_T 1 (e_L 1 (0, ei_push (0, 0) 2, 0, 0)) (e_L 2 (0, ei_push (0, 7) 4, 0, 0)))) (e_T 4 (e_L 4 (2, e_nof, 242, 3)) (e_T 7 (e_L 7 (0, ei_if1 0 22 10, 0, 0)) (e_L 10 (0, ei_load 0 2 11, 0, 0))))) (e_T 17 (e_T 11 (e_L 11 (0, ei_getf eft elay 11 1 14, 0, 0)) (e_T 14 (e_L 14 (0, ei_getf eft elay 3 5 17, 0, 0)) (e_L 17 (0, ei_load 1 0 18, 0, 0)))) (e_T 19 (e_T 18 (e_L 18 (0, ei_ald elay false 19, 0, 0)) (e_L 19 (0, ei_goto 23, 0, 0))) (e_T 22 (e_L 22 (0, ei_push (0, (-1)) 23, 0, 0)) (e_L 23 (1, e_nof, 1, 0))))))
set_option maxRecDepth 20000 in
set_option maxHeartbeats 4000000 in
theorem te_234_0_ok : ∀ pc, e_EOq eft cls elay eI n_234 pc (te_234_0 pc) :=
  (e_Tok2
  (e_Tok2
  (e_Tok2
  (e_Lok (ld_iload_n_1 (x_dk dn_234_0_0_ok 0 rfl)))
  (e_Tok2
  (e_Lok (ps_iconst_0 (x_dk dn_234_0_0_ok 1 rfl)))
  (e_Lok (ps_bipush_7 (x_dk dn_234_0_0_ok 2 rfl)))))
  (e_Tok2
  (e_Lok (lk_11_82 ho_234 (x_dk dn_234_0_0_ok 3 rfl)))
  (e_Tok2
  (e_Lok (e_st (I := eI) (er_ifeq (off := 15) (tg := 22) (x_dk dn_234_0_0_ok 4 rfl) (by decide)) nx_if1))
  (e_Lok (ld_aload_n_0 (x_dk dn_234_0_0_ok 5 rfl))))))
  (e_Tok2
  (e_Tok2
  (e_Lok (lk_11_19g ho_234 (x_dk dn_234_0_0_ok 6 rfl)))
  (e_Tok2
  (e_Lok (lk_11_368g ho_234 (x_dk dn_234_0_0_ok 7 rfl)))
  (e_Lok (ld_iload_n_1 (x_dk dn_234_0_0_ok 8 rfl)))))
  (e_Tok2
  (e_Tok2
  (e_Lok (sm_iaload (x_dk dn_234_0_0_ok 9 rfl)))
  (e_Lok (e_st (I := eI) (er_goto (off := 4) (tg := 23) (x_dk dn_234_0_0_ok 10 rfl) (by decide)) nx_goto)))
  (e_Tok2
  (e_Lok (ps_iconst_m1 (x_dk dn_234_0_0_ok 11 rfl)))
  (e_Lok (e_rt (I := eI) (k := 1) ⟨(x_dk dn_234_0_0_ok 12 rfl), rfl⟩))))))
def te_234 : Nat → eE := te_234_0
theorem te_234_ok : ∀ pc, e_EOq eft cls elay eI n_234 pc (te_234 pc) := te_234_0_ok
theorem ho_235 : (xm_y n_235).cls = "RobotCellHouse" := rfl
def dn_235_0_0 : List (Nat × Instr × Nat) := [(0, .iload_n 1, 1), (1, .iconst 0, 1), (2, .aload_n 0, 1), (3, .getfield 37, 3), (6, .getfield 371, 3), (9, .iconst 1, 1), (10, .isub, 1), (11, .invokestatic 82, 3), (14, .ifCond .ne 5, 3), (17, .iconst (-1), 1), (18, .ireturn, 1), (19, .aload_n 0, 1), (20, .getfield 37, 3), (23, .getfield 374, 3), (26, .iload_n 1, 1), (27, .iaload, 1), (28, .istore_n 3, 1), (29, .iload_n 3, 1), (30, .iconst 4, 1), (31, .bipush 7, 2), (33, .invokestatic 82, 3), (36, .ifCond .eq 14, 3), (39, .aload_n 0, 1), (40, .getfield 27, 3), (43, .iload_n 3, 1)]
set_option maxRecDepth 20000 in
theorem dn_235_0_0_ok : dn_235_0_0.all (fun q => decide (decode (xm_b n_235) q.1 = .ok (q.2.1, q.2.2))) = true := xa_g_ok (by decide +kernel)
def dn_235_0_1 : List (Nat × Instr × Nat) := [(44, .iconst 4, 1), (45, .isub, 1), (46, .aaload, 1), (47, .goto 4, 3), (50, .aconst_null, 1), (51, .astore 4, 2), (53, .iload_n 2, 1), (54, .tableswitch 107 0 3 #[30, 32, 60, 88], 30), (84, .iload_n 3, 1), (85, .ireturn, 1), (86, .aload 4, 2), (88, .ifnull 17, 3), (91, .aload 4, 2), (93, .getfield 329, 3), (96, .aload 4, 2), (98, .getfield 112, 3), (101, .iaload, 1), (102, .goto 11, 3), (105, .aload_n 0, 1), (106, .getfield 37, 3), (109, .iload_n 1, 1), (110, .invokevirtual 377, 3), (113, .ireturn, 1), (114, .aload 4, 2), (116, .ifnull 17, 3)]
set_option maxRecDepth 20000 in
theorem dn_235_0_1_ok : dn_235_0_1.all (fun q => decide (decode (xm_b n_235) q.1 = .ok (q.2.1, q.2.2))) = true := xa_g_ok (by decide +kernel)
def dn_235_0_2 : List (Nat × Instr × Nat) := [(119, .aload 4, 2), (121, .getfield 332, 3), (124, .aload 4, 2), (126, .getfield 112, 3), (129, .iaload, 1), (130, .goto 11, 3), (133, .aload_n 0, 1), (134, .getfield 37, 3), (137, .iload_n 1, 1), (138, .invokevirtual 380, 3), (141, .ireturn, 1), (142, .iload_n 3, 1), (143, .iconst 4, 1), (144, .if_icmp .ge 15, 3), (147, .aload_n 0, 1), (148, .getfield 37, 3), (151, .getfield 383, 3), (154, .iload_n 1, 1), (155, .iaload, 1), (156, .goto 4, 3), (159, .iconst 0, 1), (160, .ireturn, 1), (161, .iconst (-1), 1), (162, .ireturn, 1)]
set_option maxRecDepth 20000 in
theorem dn_235_0_2_ok : dn_235_0_2.all (fun q => decide (decode (xm_b n_235) q.1 = .ok (q.2.1, q.2.2))) = true := xa_g_ok (by decide +kernel)
def te_235_0 : Nat → eE := (e_T 29 (e_T 14 (e_T 3 (e_T 1 (e_T 0 (e_L 0 (0, ei_load 1 0 1, 0, 0)) (e_L 1 (0, ei_push (0, 0) 2, 0, 0))) (e_T 2 (e_L 2 (0, ei_load 0 2 3, 0, 0)) (e_L 3 (0, ei_getf eft elay 11 4 6, 0, 0)))) (e_T 9 (e_T 6 (e_L 6 (0, ei_getf eft elay 4 1 9, 0, 0)) (e_L 9 (0, ei_push (0, 1) 10, 0, 0))) (e_T 10 (e_L 10 (0, ei_bin eF_sub 11, 0, 0)) (e_T 11 (e_L 11 (2, e_nof, 242, 3)) (e_L 14 (0, ei_if1 1 19 17, 0, 0)))))) (e_T 20 (e_T 18 (e_T 17 (e_L 17 (0, ei_push (0, (-1)) 18, 0, 0)) (e_L 18 (1, e_nof, 1, 0))) (e_T 19 (e_L 19 (0, ei_load 0 2 20, 0, 0)) (e_L 20 (0, ei_getf eft elay 11 4 23, 0, 0)))) (e_T 26 (e_T 23 (e_L 23 (0, ei_getf eft elay 4 14 26, 0, 0)) (e_L 26 (0, ei_load 1 0 27, 0, 0))) (e_T 27 (e_L 27 (0, ei_ald elay false 28, 0, 0)) (e_T 28 (e_L 28 (0, ei_stor 3 0 29, 0, 0)) (e_L 29 (0, ei_load 3 0 30, 0, 0))))))) (e_T 45 (e_T 36 (e_T 31 (e_T 30 (e_L 30 (0, ei_push (0, 4) 31, 0, 0)) (e_L 31 (0, ei_push (0, 7) 33, 0, 0))) (e_T 33 (e_L 33 (2, e_nof, 242, 3)) (e_L 36 (0, ei_if1 0 50 39, 0, 0)))) (e_T 40 (e_T 39 (e_L 39 (0, ei_load 0 2 40, 0, 0)) (e_L 40 (0, ei_getf eft elay 11 2 43, 0, 0))) (e_T 43 (e_L 43 (0, ei_load 3 0 44, 0, 0)) (e_T 44 (e_L 44 (0, ei_push (0, 4) 45, 0, 0)) (e_L 45 (0, ei_bin eF_sub 46, 0, 0)))))) (e_T 53 (e_T 47 (e_T 46 (e_L 46 (0, ei_aald elay 47, 0, 0)) (e_L 47 (0, ei_goto 51, 0, 0))) (e_T 50 (e_L 50 (0, ei_push (2, 0) 51, 0, 0)) (e_T 51 (e_L 51 (0, ei_stor 4 2 53, 0, 0)) (e_L 53 (0, ei_load 2 0 54, 0, 0))))) (e_T 84 (e_T 54 (e_L 54 (0, ei_sw [((-2147483648), (-1), 161), (0, 0, 84), (1, 1, 86), (2, 2, 114), (3, 3, 142), (4, 2147483647, 161)], 0, 0)) (e_L 84 (0, ei_load 3 0 85, 0, 0))) (e_T 85 (e_L 85 (1, e_nof, 1, 0)) (e_T 86 (e_L 86 (0, ei_load 4 2 88, 0, 0)) (e_L 88 (0, ei_null 105 91, 0, 0))))))))
set_option maxRecDepth 20000 in
set_option maxHeartbeats 4000000 in
theorem te_235_0_ok : ∀ pc, e_EOq eft cls elay eI n_235 pc (te_235_0 pc) :=
  (e_Tok2
  (e_Tok2
  (e_Tok2
  (e_Tok2
  (e_Tok2
  (e_Lok (ld_iload_n_1 (x_dk dn_235_0_0_ok 0 rfl)))
  (e_Lok (ps_iconst_0 (x_dk dn_235_0_0_ok 1 rfl))))
  (e_Tok2
  (e_Lok (ld_aload_n_0 (x_dk dn_235_0_0_ok 2 rfl)))
  (e_Lok (lk_11_37g ho_235 (x_dk dn_235_0_0_ok 3 rfl)))))
  (e_Tok2
  (e_Tok2
  (e_Lok (lk_11_371g ho_235 (x_dk dn_235_0_0_ok 4 rfl)))
  (e_Lok (ps_iconst_1 (x_dk dn_235_0_0_ok 5 rfl))))
  (e_Tok2
  (e_Lok (sm_isub (x_dk dn_235_0_0_ok 6 rfl)))
  (e_Tok2
  (e_Lok (lk_11_82 ho_235 (x_dk dn_235_0_0_ok 7 rfl)))
  (e_Lok (e_st (I := eI) (er_ifne (off := 5) (tg := 19) (x_dk dn_235_0_0_ok 8 rfl) (by decide)) nx_if1))))))
  (e_Tok2
  (e_Tok2
  (e_Tok2
  (e_Lok (ps_iconst_m1 (x_dk dn_235_0_0_ok 9 rfl)))
  (e_Lok (e_rt (I := eI) (k := 1) ⟨(x_dk dn_235_0_0_ok 10 rfl), rfl⟩)))
  (e_Tok2
  (e_Lok (ld_aload_n_0 (x_dk dn_235_0_0_ok 11 rfl)))
  (e_Lok (lk_11_37g ho_235 (x_dk dn_235_0_0_ok 12 rfl)))))
  (e_Tok2
  (e_Tok2
  (e_Lok (lk_11_374g ho_235 (x_dk dn_235_0_0_ok 13 rfl)))
  (e_Lok (ld_iload_n_1 (x_dk dn_235_0_0_ok 14 rfl))))
  (e_Tok2
  (e_Lok (sm_iaload (x_dk dn_235_0_0_ok 15 rfl)))
  (e_Tok2
  (e_Lok (e_st (I := eI) (er_istore_n (i := 3) (x_dk dn_235_0_0_ok 16 rfl) (by decide +kernel)) nx_stor))
  (e_Lok (ld_iload_n_3 (x_dk dn_235_0_0_ok 17 rfl))))))))
  (e_Tok2
  (e_Tok2
  (e_Tok2
  (e_Tok2
  (e_Lok (ps_iconst_4 (x_dk dn_235_0_0_ok 18 rfl)))
  (e_Lok (ps_bipush_7 (x_dk dn_235_0_0_ok 19 rfl))))
  (e_Tok2
  (e_Lok (lk_11_82 ho_235 (x_dk dn_235_0_0_ok 20 rfl)))
  (e_Lok (e_st (I := eI) (er_ifeq (off := 14) (tg := 50) (x_dk dn_235_0_0_ok 21 rfl) (by decide)) nx_if1))))
  (e_Tok2
  (e_Tok2
  (e_Lok (ld_aload_n_0 (x_dk dn_235_0_0_ok 22 rfl)))
  (e_Lok (lk_11_27g ho_235 (x_dk dn_235_0_0_ok 23 rfl))))
  (e_Tok2
  (e_Lok (ld_iload_n_3 (x_dk dn_235_0_0_ok 24 rfl)))
  (e_Tok2
  (e_Lok (ps_iconst_4 (x_dk dn_235_0_1_ok 0 rfl)))
  (e_Lok (sm_isub (x_dk dn_235_0_1_ok 1 rfl)))))))
  (e_Tok2
  (e_Tok2
  (e_Tok2
  (e_Lok (e_st (I := eI) (er_aaload (x_dk dn_235_0_1_ok 2 rfl)) nx_aald))
  (e_Lok (e_st (I := eI) (er_goto (off := 4) (tg := 51) (x_dk dn_235_0_1_ok 3 rfl) (by decide)) nx_goto)))
  (e_Tok2
  (e_Lok (e_st (I := eI) (er_null (x_dk dn_235_0_1_ok 4 rfl)) (nx_push (Or.inl rfl))))
  (e_Tok2
  (e_Lok (e_st (I := eI) (er_astore (i := 4) (x_dk dn_235_0_1_ok 5 rfl) (by decide +kernel)) nx_stor))
  (e_Lok (ld_iload_n_2 (x_dk dn_235_0_1_ok 6 rfl))))))
  (e_Tok2
  (e_Tok2
  (e_Lok (e_st (I := eI) (er_tsw (dflt := 107) (lo := 0) (hi := 3) (offs := #[30, 32, 60, 88]) (len := 30) (n := 4) (x_dk dn_235_0_1_ok 7 rfl) (by decide) (by decide +kernel)) nx_sw))
  (e_Lok (ld_iload_n_3 (x_dk dn_235_0_1_ok 8 rfl))))
  (e_Tok2
  (e_Lok (e_rt (I := eI) (k := 1) ⟨(x_dk dn_235_0_1_ok 9 rfl), rfl⟩))
  (e_Tok2
  (e_Lok (ld_aload_4 (x_dk dn_235_0_1_ok 10 rfl)))
  (e_Lok (e_st (I := eI) (er_ifnull (off := 17) (tg := 105) (x_dk dn_235_0_1_ok 11 rfl) (by decide)) nx_null))))))))
def te_235_37 : Nat → eE := (e_T 129 (e_T 109 (e_T 98 (e_T 93 (e_T 91 (e_L 91 (0, ei_load 4 2 93, 0, 0)) (e_L 93 (0, ei_getf eft elay 0 1 96, 0, 0))) (e_T 96 (e_L 96 (0, ei_load 4 2 98, 0, 0)) (e_L 98 (0, ei_getf eft elay 0 8 101, 0, 0)))) (e_T 102 (e_T 101 (e_L 101 (0, ei_ald elay false 102, 0, 0)) (e_L 102 (0, ei_goto 113, 0, 0))) (e_T 105 (e_L 105 (0, ei_load 0 2 106, 0, 0)) (e_T 106 (e_L 106 (0, ei_getf eft elay 11 4 109, 0, 0)) (e_L 109 (0, ei_load 1 0 110, 0, 0)))))) (e_T 116 (e_T 113 (e_T 110 (e_L 110 (2, e_nof, 81, 2)) (e_L 113 (1, e_nof, 1, 0))) (e_T 114 (e_L 114 (0, ei_load 4 2 116, 0, 0)) (e_L 116 (0, ei_null 133 119, 0, 0)))) (e_T 121 (e_T 119 (e_L 119 (0, ei_load 4 2 121, 0, 0)) (e_L 121 (0, ei_getf eft elay 0 2 124, 0, 0))) (e_T 124 (e_L 124 (0, ei_load 4 2 126, 0, 0)) (e_T 126 (e_L 126 (0, ei_getf eft elay 0 8 129, 0, 0)) (e_L 129 (0, ei_ald elay false 130, 0, 0))))))) (e_T 144 (e_T 137 (e_T 133 (e_T 130 (e_L 130 (0, ei_goto 141, 0, 0)) (e_L 133 (0, ei_load 0 2 134, 0, 0))) (e_T 134 (e_L 134 (0, ei_getf eft elay 11 4 137, 0, 0)) (e_L 137 (0, ei_load 1 0 138, 0, 0)))) (e_T 141 (e_T 138 (e_L 138 (2, e_nof, 82, 2)) (e_L 141 (1, e_nof, 1, 0))) (e_T 142 (e_L 142 (0, ei_load 3 0 143, 0, 0)) (e_T 143 (e_L 143 (0, ei_push (0, 4) 144, 0, 0)) (e_L 144 (0, ei_if2 3 159 147, 0, 0)))))) (e_T 155 (e_T 148 (e_T 147 (e_L 147 (0, ei_load 0 2 148, 0, 0)) (e_L 148 (0, ei_getf eft elay 11 4 151, 0, 0))) (e_T 151 (e_L 151 (0, ei_getf eft elay 4 15 154, 0, 0)) (e_T 154 (e_L 154 (0, ei_load 1 0 155, 0, 0)) (e_L 155 (0, ei_ald elay false 156, 0, 0))))) (e_T 159 (e_T 156 (e_L 156 (0, ei_goto 160, 0, 0)) (e_L 159 (0, ei_push (0, 0) 160, 0, 0))) (e_T 160 (e_L 160 (1, e_nof, 1, 0)) (e_T 161 (e_L 161 (0, ei_push (0, (-1)) 162, 0, 0)) (e_L 162 (1, e_nof, 1, 0))))))))
set_option maxRecDepth 20000 in
set_option maxHeartbeats 4000000 in
theorem te_235_37_ok : ∀ pc, e_EOq eft cls elay eI n_235 pc (te_235_37 pc) :=
  (e_Tok2
  (e_Tok2
  (e_Tok2
  (e_Tok2
  (e_Tok2
  (e_Lok (ld_aload_4 (x_dk dn_235_0_1_ok 12 rfl)))
  (e_Lok (lk_11_329g ho_235 (x_dk dn_235_0_1_ok 13 rfl))))
  (e_Tok2
  (e_Lok (ld_aload_4 (x_dk dn_235_0_1_ok 14 rfl)))
  (e_Lok (lk_11_112g ho_235 (x_dk dn_235_0_1_ok 15 rfl)))))
  (e_Tok2
  (e_Tok2
  (e_Lok (sm_iaload (x_dk dn_235_0_1_ok 16 rfl)))
  (e_Lok (e_st (I := eI) (er_goto (off := 11) (tg := 113) (x_dk dn_235_0_1_ok 17 rfl) (by decide)) nx_goto)))
  (e_Tok2
  (e_Lok (ld_aload_n_0 (x_dk dn_235_0_1_ok 18 rfl)))
  (e_Tok2
  (e_Lok (lk_11_37g ho_235 (x_dk dn_235_0_1_ok 19 rfl)))
  (e_Lok (ld_iload_n_1 (x_dk dn_235_0_1_ok 20 rfl)))))))
  (e_Tok2
  (e_Tok2
  (e_Tok2
  (e_Lok (lk_11_377 ho_235 (x_dk dn_235_0_1_ok 21 rfl)))
  (e_Lok (e_rt (I := eI) (k := 1) ⟨(x_dk dn_235_0_1_ok 22 rfl), rfl⟩)))
  (e_Tok2
  (e_Lok (ld_aload_4 (x_dk dn_235_0_1_ok 23 rfl)))
  (e_Lok (e_st (I := eI) (er_ifnull (off := 17) (tg := 133) (x_dk dn_235_0_1_ok 24 rfl) (by decide)) nx_null))))
  (e_Tok2
  (e_Tok2
  (e_Lok (ld_aload_4 (x_dk dn_235_0_2_ok 0 rfl)))
  (e_Lok (lk_11_332g ho_235 (x_dk dn_235_0_2_ok 1 rfl))))
  (e_Tok2
  (e_Lok (ld_aload_4 (x_dk dn_235_0_2_ok 2 rfl)))
  (e_Tok2
  (e_Lok (lk_11_112g ho_235 (x_dk dn_235_0_2_ok 3 rfl)))
  (e_Lok (sm_iaload (x_dk dn_235_0_2_ok 4 rfl))))))))
  (e_Tok2
  (e_Tok2
  (e_Tok2
  (e_Tok2
  (e_Lok (e_st (I := eI) (er_goto (off := 11) (tg := 141) (x_dk dn_235_0_2_ok 5 rfl) (by decide)) nx_goto))
  (e_Lok (ld_aload_n_0 (x_dk dn_235_0_2_ok 6 rfl))))
  (e_Tok2
  (e_Lok (lk_11_37g ho_235 (x_dk dn_235_0_2_ok 7 rfl)))
  (e_Lok (ld_iload_n_1 (x_dk dn_235_0_2_ok 8 rfl)))))
  (e_Tok2
  (e_Tok2
  (e_Lok (lk_11_380 ho_235 (x_dk dn_235_0_2_ok 9 rfl)))
  (e_Lok (e_rt (I := eI) (k := 1) ⟨(x_dk dn_235_0_2_ok 10 rfl), rfl⟩)))
  (e_Tok2
  (e_Lok (ld_iload_n_3 (x_dk dn_235_0_2_ok 11 rfl)))
  (e_Tok2
  (e_Lok (ps_iconst_4 (x_dk dn_235_0_2_ok 12 rfl)))
  (e_Lok (e_st (I := eI) (er_icmpge (off := 15) (tg := 159) (x_dk dn_235_0_2_ok 13 rfl) (by decide)) nx_if2))))))
  (e_Tok2
  (e_Tok2
  (e_Tok2
  (e_Lok (ld_aload_n_0 (x_dk dn_235_0_2_ok 14 rfl)))
  (e_Lok (lk_11_37g ho_235 (x_dk dn_235_0_2_ok 15 rfl))))
  (e_Tok2
  (e_Lok (lk_11_383g ho_235 (x_dk dn_235_0_2_ok 16 rfl)))
  (e_Tok2
  (e_Lok (ld_iload_n_1 (x_dk dn_235_0_2_ok 17 rfl)))
  (e_Lok (sm_iaload (x_dk dn_235_0_2_ok 18 rfl))))))
  (e_Tok2
  (e_Tok2
  (e_Lok (e_st (I := eI) (er_goto (off := 4) (tg := 160) (x_dk dn_235_0_2_ok 19 rfl) (by decide)) nx_goto))
  (e_Lok (ps_iconst_0 (x_dk dn_235_0_2_ok 20 rfl))))
  (e_Tok2
  (e_Lok (e_rt (I := eI) (k := 1) ⟨(x_dk dn_235_0_2_ok 21 rfl), rfl⟩))
  (e_Tok2
  (e_Lok (ps_iconst_m1 (x_dk dn_235_0_2_ok 22 rfl)))
  (e_Lok (e_rt (I := eI) (k := 1) ⟨(x_dk dn_235_0_2_ok 23 rfl), rfl⟩))))))))
def te_235 : Nat → eE := (e_T 88 te_235_0 te_235_37)
theorem te_235_ok : ∀ pc, e_EOq eft cls elay eI n_235 pc (te_235 pc) := (e_Tok2 (te_235_0_ok) (te_235_37_ok))
theorem ho_236 : (xm_y n_236).cls = "RobotCellHouse" := rfl
def dn_236_0_0 : List (Nat × Instr × Nat) := [(0, .iload_n 1, 1), (1, .tableswitch 71 0 3 #[31, 47, 55, 63], 31), (32, .aload_n 0, 1), (33, .getfield 42, 3), (36, .getfield 274, 3), (39, .ifCond .eq 7, 3), (42, .iconst 1, 1), (43, .goto 4, 3), (46, .iconst 0, 1), (47, .ireturn, 1), (48, .aload_n 0, 1), (49, .getfield 42, 3), (52, .getfield 385, 3), (55, .ireturn, 1), (56, .aload_n 0, 1), (57, .getfield 42, 3), (60, .getfield 388, 3), (63, .ireturn, 1), (64, .aload_n 0, 1), (65, .getfield 42, 3), (68, .getfield 391, 3), (71, .ireturn, 1), (72, .iload_n 1, 1), (73, .iconst 4, 1), (74, .iconst 3, 1)]
set_option maxRecDepth 20000 in
theorem dn_236_0_0_ok : dn_236_0_0.all (fun q => decide (decode (xm_b n_236) q.1 = .ok (q.2.1, q.2.2))) = true := xa_g_ok (by decide +kernel)
def dn_236_0_1 : List (Nat × Instr × Nat) := [(75, .aload_n 0, 1), (76, .getfield 42, 3), (79, .getfield 204, 3), (82, .iadd, 1), (83, .invokestatic 82, 3), (86, .ifCond .eq 16, 3), (89, .aload_n 0, 1), (90, .getfield 42, 3), (93, .iload_n 1, 1), (94, .iconst 4, 1), (95, .isub, 1), (96, .invokevirtual 394, 3), (99, .goto 4, 3), (102, .iconst (-1), 1), (103, .ireturn, 1)]
set_option maxRecDepth 20000 in
theorem dn_236_0_1_ok : dn_236_0_1.all (fun q => decide (decode (xm_b n_236) q.1 = .ok (q.2.1, q.2.2))) = true := xa_g_ok (by decide +kernel)
def te_236_0 : Nat → eE := (e_T 65 (e_T 47 (e_T 36 (e_T 1 (e_T 0 (e_L 0 (0, ei_load 1 0 1, 0, 0)) (e_L 1 (0, ei_sw [((-2147483648), (-1), 72), (0, 0, 32), (1, 1, 48), (2, 2, 56), (3, 3, 64), (4, 2147483647, 72)], 0, 0))) (e_T 32 (e_L 32 (0, ei_load 0 2 33, 0, 0)) (e_T 33 (e_L 33 (0, ei_getf eft elay 11 5 36, 0, 0)) (e_L 36 (0, ei_getf eft elay 2 3 39, 0, 0))))) (e_T 42 (e_T 39 (e_L 39 (0, ei_if1 0 46 42, 0, 0)) (e_L 42 (0, ei_push (0, 1) 43, 0, 0))) (e_T 43 (e_L 43 (0, ei_goto 47, 0, 0)) (e_T 46 (e_L 46 (0, ei_push (0, 0) 47, 0, 0)) (e_L 47 (1, e_nof, 1, 0)))))) (e_T 56 (e_T 49 (e_T 48 (e_L 48 (0, ei_load 0 2 49, 0, 0)) (e_L 49 (0, ei_getf eft elay 11 5 52, 0, 0))) (e_T 52 (e_L 52 (0, ei_getf eft elay 2 4 55, 0, 0)) (e_T 55 (e_L 55 (1, e_nof, 1, 0)) (e_L 56 (0, ei_load 0 2 57, 0, 0))))) (e_T 60 (e_T 57 (e_L 57 (0, ei_getf eft elay 11 5 60, 0, 0)) (e_L 60 (0, ei_getf eft elay 2 5 63, 0, 0))) (e_T 63 (e_L 63 (1, e_nof, 1, 0)) (e_T 64 (e_L 64 (0, ei_load 0 2 65, 0, 0)) (e_L 65 (0, ei_getf eft elay 11 5 68, 0, 0))))))) (e_T 83 (e_T 74 (e_T 71 (e_T 68 (e_L 68 (0, ei_getf eft elay 2 6 71, 0, 0)) (e_L 71 (1, e_nof, 1, 0))) (e_T 72 (e_L 72 (0, ei_load 1 0 73, 0, 0)) (e_T 73 (e_L 73 (0, ei_push (0, 4) 74, 0, 0)) (e_L 74 (0, ei_push (0, 3) 75, 0, 0))))) (e_T 76 (e_T 75 (e_L 75 (0, ei_load 0 2 76, 0, 0)) (e_L 76 (0, ei_getf eft elay 11 5 79, 0, 0))) (e_T 79 (e_L 79 (0, ei_getf eft elay 2 2 82, 0, 0)) (e_T 82 (e_L 82 (0, ei_bin eF_add 83, 0, 0)) (e_L 83 (2, e_nof, 242, 3)))))) (e_T 94 (e_T 89 (e_T 86 (e_L 86 (0, ei_if1 0 102 89, 0, 0)) (e_L 89 (0, ei_load 0 2 90, 0, 0))) (e_T 90 (e_L 90 (0, ei_getf eft elay 11 5 93, 0, 0)) (e_T 93 (e_L 93 (0, ei_load 1 0 94, 0, 0)) (e_L 94 (0, ei_push (0, 4) 95, 0, 0))))) (e_T 96 (e_T 95 (e_L 95 (0, ei_bin eF_sub 96, 0, 0)) (e_L 96 (2, e_nof, 30, 2))) (e_T 99 (e_L 99 (0, ei_goto 103, 0, 0)) (e_T 102 (e_L 102 (0, ei_push (0, (-1)) 103, 0, 0)) (e_L 103 (1, e_nof, 1, 0))))))))
set_option maxRecDepth 20000 in
set_option maxHeartbeats 4000000 in
theorem te_236_0_ok : ∀ pc, e_EOq eft cls elay eI n_236 pc (te_236_0 pc) :=
  (e_Tok2
  (e_Tok2
  (e_Tok2
  (e_Tok2
  (e_Tok2
  (e_Lok (ld_iload_n_1 (x_dk dn_236_0_0_ok 0 rfl)))
  (e_Lok (e_st (I := eI) (er_tsw (dflt := 71) (lo := 0) (hi := 3) (offs := #[31, 47, 55, 63]) (len := 31) (n := 4) (x_dk dn_236_0_0_ok 1 rfl) (by decide) (by decide +kernel)) nx_sw)))
  (e_Tok2
  (e_Lok (ld_aload_n_0 (x_dk dn_236_0_0_ok 2 rfl)))
  (e_Tok2
  (e_Lok (lk_11_42g ho_236 (x_dk dn_236_0_0_ok 3 rfl)))
  (e_Lok (lk_11_274g ho_236 (x_dk dn_236_0_0_ok 4 rfl))))))
  (e_Tok2
  (e_Tok2
  (e_Lok (e_st (I := eI) (er_ifeq (off := 7) (tg := 46) (x_dk dn_236_0_0_ok 5 rfl) (by decide)) nx_if1))
  (e_Lok (ps_iconst_1 (x_dk dn_236_0_0_ok 6 rfl))))
  (e_Tok2
  (e_Lok (e_st (I := eI) (er_goto (off := 4) (tg := 47) (x_dk dn_236_0_0_ok 7 rfl) (by decide)) nx_goto))
  (e_Tok2
  (e_Lok (ps_iconst_0 (x_dk dn_236_0_0_ok 8 rfl)))
  (e_Lok (e_rt (I := eI) (k := 1) ⟨(x_dk dn_236_0_0_ok 9 rfl), rfl⟩))))))
  (e_Tok2
  (e_Tok2
  (e_Tok2
  (e_Lok (ld_aload_n_0 (x_dk dn_236_0_0_ok 10 rfl)))
  (e_Lok (lk_11_42g ho_236 (x_dk dn_236_0_0_ok 11 rfl))))
  (e_Tok2
  (e_Lok (lk_11_385g ho_236 (x_dk dn_236_0_0_ok 12 rfl)))
  (e_Tok2
  (e_Lok (e_rt (I := eI) (k := 1) ⟨(x_dk dn_236_0_0_ok 13 rfl), rfl⟩))
  (e_Lok (ld_aload_n_0 (x_dk dn_236_0_0_ok 14 rfl))))))
  (e_Tok2
  (e_Tok2
  (e_Lok (lk_11_42g ho_236 (x_dk dn_236_0_0_ok 15 rfl)))
  (e_Lok (lk_11_388g ho_236 (x_dk dn_236_0_0_ok 16 rfl))))
  (e_Tok2
  (e_Lok (e_rt (I := eI) (k := 1) ⟨(x_dk dn_236_0_0_ok 17 rfl), rfl⟩))
  (e_Tok2
  (e_Lok (ld_aload_n_0 (x_dk dn_236_0_0_ok 18 rfl)))
  (e_Lok (lk_11_42g ho_236 (x_dk dn_236_0_0_ok 19 rfl))))))))
  (e_Tok2
  (e_Tok2
  (e_Tok2
  (e_Tok2
  (e_Lok (lk_11_391g ho_236 (x_dk dn_236_0_0_ok 20 rfl)))
  (e_Lok (e_rt (I := eI) (k := 1) ⟨(x_dk dn_236_0_0_ok 21 rfl), rfl⟩)))
  (e_Tok2
  (e_Lok (ld_iload_n_1 (x_dk dn_236_0_0_ok 22 rfl)))
  (e_Tok2
  (e_Lok (ps_iconst_4 (x_dk dn_236_0_0_ok 23 rfl)))
  (e_Lok (ps_iconst_3 (x_dk dn_236_0_0_ok 24 rfl))))))
  (e_Tok2
  (e_Tok2
  (e_Lok (ld_aload_n_0 (x_dk dn_236_0_1_ok 0 rfl)))
  (e_Lok (lk_11_42g ho_236 (x_dk dn_236_0_1_ok 1 rfl))))
  (e_Tok2
  (e_Lok (lk_11_204g ho_236 (x_dk dn_236_0_1_ok 2 rfl)))
  (e_Tok2
  (e_Lok (sm_iadd (x_dk dn_236_0_1_ok 3 rfl)))
  (e_Lok (lk_11_82 ho_236 (x_dk dn_236_0_1_ok 4 rfl)))))))
  (e_Tok2
  (e_Tok2
  (e_Tok2
  (e_Lok (e_st (I := eI) (er_ifeq (off := 16) (tg := 102) (x_dk dn_236_0_1_ok 5 rfl) (by decide)) nx_if1))
  (e_Lok (ld_aload_n_0 (x_dk dn_236_0_1_ok 6 rfl))))
  (e_Tok2
  (e_Lok (lk_11_42g ho_236 (x_dk dn_236_0_1_ok 7 rfl)))
  (e_Tok2
  (e_Lok (ld_iload_n_1 (x_dk dn_236_0_1_ok 8 rfl)))
  (e_Lok (ps_iconst_4 (x_dk dn_236_0_1_ok 9 rfl))))))
  (e_Tok2
  (e_Tok2
  (e_Lok (sm_isub (x_dk dn_236_0_1_ok 10 rfl)))
  (e_Lok (lk_11_394 ho_236 (x_dk dn_236_0_1_ok 11 rfl))))
  (e_Tok2
  (e_Lok (e_st (I := eI) (er_goto (off := 4) (tg := 103) (x_dk dn_236_0_1_ok 12 rfl) (by decide)) nx_goto))
  (e_Tok2
  (e_Lok (ps_iconst_m1 (x_dk dn_236_0_1_ok 13 rfl)))
  (e_Lok (e_rt (I := eI) (k := 1) ⟨(x_dk dn_236_0_1_ok 14 rfl), rfl⟩))))))))
def te_236 : Nat → eE := te_236_0
theorem te_236_ok : ∀ pc, e_EOq eft cls elay eI n_236 pc (te_236 pc) := te_236_0_ok
theorem ho_237 : (xm_y n_237).cls = "RobotCellHouse" := rfl
def dn_237_0_0 : List (Nat × Instr × Nat) := [(0, .aload_n 0, 1), (1, .getfield 42, 3), (4, .getfield 397, 3), (7, .ireturn, 1)]
set_option maxRecDepth 20000 in
theorem dn_237_0_0_ok : dn_237_0_0.all (fun q => decide (decode (xm_b n_237) q.1 = .ok (q.2.1, q.2.2))) = true := xa_g_ok (by decide +kernel)
def te_237_0 : Nat → eE := (e_T 1 (e_T 0 (e_L 0 (0, ei_load 0 2 1, 0, 0)) (e_L 1 (0, ei_getf eft elay 11 5 4, 0, 0))) (e_T 4 (e_L 4 (0, ei_getf eft elay 2 1 7, 0, 0)) (e_L 7 (1, e_nof, 1, 0))))
set_option maxRecDepth 20000 in
set_option maxHeartbeats 4000000 in
theorem te_237_0_ok : ∀ pc, e_EOq eft cls elay eI n_237 pc (te_237_0 pc) :=
  (e_Tok2
  (e_Tok2
  (e_Lok (ld_aload_n_0 (x_dk dn_237_0_0_ok 0 rfl)))
  (e_Lok (lk_11_42g ho_237 (x_dk dn_237_0_0_ok 1 rfl))))
  (e_Tok2
  (e_Lok (lk_11_397g ho_237 (x_dk dn_237_0_0_ok 2 rfl)))
  (e_Lok (e_rt (I := eI) (k := 1) ⟨(x_dk dn_237_0_0_ok 3 rfl), rfl⟩))))
def te_237 : Nat → eE := te_237_0
theorem te_237_ok : ∀ pc, e_EOq eft cls elay eI n_237 pc (te_237 pc) := te_237_0_ok
theorem ho_238 : (xm_y n_238).cls = "RobotCellHouse" := rfl
def dn_238_0_0 : List (Nat × Instr × Nat) := [(0, .iload_n 1, 1), (1, .iconst 0, 1), (2, .aload_n 0, 1), (3, .getfield 42, 3), (6, .getfield 397, 3), (9, .sipush 2000, 3), (12, .invokestatic 258, 3), (15, .iconst 1, 1), (16, .isub, 1), (17, .invokestatic 82, 3), (20, .ifCond .eq 12, 3), (23, .iload_n 2, 1), (24, .iconst 0, 1), (25, .iconst 3, 1), (26, .invokestatic 82, 3), (29, .ifCond .ne 5, 3), (32, .iconst (-1), 1), (33, .ireturn, 1), (34, .aload_n 0, 1), (35, .getfield 42, 3), (38, .getfield 400, 3), (41, .iload_n 1, 1), (42, .iconst 4, 1), (43, .imul, 1), (44, .iload_n 2, 1)]
set_option maxRecDepth 20000 in
theorem dn_238_0_0_ok : dn_238_0_0.all (fun q => decide (decode (xm_b n_238) q.1 = .ok (q.2.1, q.2.2))) = true := xa_g_ok (by decide +kernel)
def dn_238_0_1 : List (Nat × Instr × Nat) := [(45, .iadd, 1), (46, .iaload, 1), (47, .ireturn, 1)]
set_option maxRecDepth 20000 in
theorem dn_238_0_1_ok : dn_238_0_1.all (fun q => decide (decode (xm_b n_238) q.1 = .ok (q.2.1, q.2.2))) = true := xa_g_ok (by decide +kernel)
def te_238_0 : Nat → eE := (e_T 25 (e_T 12 (e_T 2 (e_T 0 (e_L 0 (0, ei_load 1 0 1, 0, 0)) (e_T 1 (e_L 1 (0, ei_push (0, 0) 2, 0, 0)) (e_L 2 (0, ei_load 0 2 3, 0, 0)))) (e_T 6 (e_T 3 (e_L 3 (0, ei_getf eft elay 11 5 6, 0, 0)) (e_L 6 (0, ei_getf eft elay 2 1 9, 0, 0))) (e_T 9 (e_L 9 (0, ei_push (0, 2000) 12, 0, 0)) (e_L 12 (0, ei_m2 eM_min 15, 0, 0))))) (e_T 17 (e_T 15 (e_L 15 (0, ei_push (0, 1) 16, 0, 0)) (e_T 16 (e_L 16 (0, ei_bin eF_sub 17, 0, 0)) (e_L 17 (2, e_nof, 242, 3)))) (e_T 23 (e_T 20 (e_L 20 (0, ei_if1 0 32 23, 0, 0)) (e_L 23 (0, ei_load 2 0 24, 0, 0))) (e_T 24 (e_L 24 (0, ei_push (0, 0) 25, 0, 0)) (e_L 25 (0, ei_push (0, 3) 26, 0, 0)))))) (e_T 38 (e_T 32 (e_T 26 (e_L 26 (2, e_nof, 242, 3)) (e_T 29 (e_L 29 (0, ei_if1 1 34 32, 0, 0)) (e_L 32 (0, ei_push (0, (-1)) 33, 0, 0)))) (e_T 34 (e_T 33 (e_L 33 (1, e_nof, 1, 0)) (e_L 34 (0, ei_load 0 2 35, 0, 0))) (e_T 35 (e_L 35 (0, ei_getf eft elay 11 5 38, 0, 0)) (e_L 38 (0, ei_getf eft elay 2 8 41, 0, 0))))) (e_T 43 (e_T 41 (e_L 41 (0, ei_load 1 0 42, 0, 0)) (e_T 42 (e_L 42 (0, ei_push (0, 4) 43, 0, 0)) (e_L 43 (0, ei_bin eF_mul 44, 0, 0)))) (e_T 45 (e_T 44 (e_L 44 (0, ei_load 2 0 45, 0, 0)) (e_L 45 (0, ei_bin eF_add 46, 0, 0))) (e_T 46 (e_L 46 (0, ei_ald elay false 47, 0, 0)) (e_L 47 (1, e_nof, 1, 0)))))))
set_option maxRecDepth 20000 in
set_option maxHeartbeats 4000000 in
theorem te_238_0_ok : ∀ pc, e_EOq eft cls elay eI n_238 pc (te_238_0 pc) :=
  (e_Tok2
  (e_Tok2
  (e_Tok2
  (e_Tok2
  (e_Lok (ld_iload_n_1 (x_dk dn_238_0_0_ok 0 rfl)))
  (e_Tok2
  (e_Lok (ps_iconst_0 (x_dk dn_238_0_0_ok 1 rfl)))
  (e_Lok (ld_aload_n_0 (x_dk dn_238_0_0_ok 2 rfl)))))
  (e_Tok2
  (e_Tok2
  (e_Lok (lk_11_42g ho_238 (x_dk dn_238_0_0_ok 3 rfl)))
  (e_Lok (lk_11_397g ho_238 (x_dk dn_238_0_0_ok 4 rfl))))
  (e_Tok2
  (e_Lok (ps_sipush_2000 (x_dk dn_238_0_0_ok 5 rfl)))
  (e_Lok (e_st (I := eI) (er_min (ix := 258) (in_t7 (List.mem_of_getElem? (i := 46) rfl) rfl) (in_t5 (List.mem_of_getElem? (i := 187) rfl) rfl) (in_t1 (List.mem_of_getElem? (i := 15) rfl) rfl) (in_t5 (List.mem_of_getElem? (i := 188) rfl) rfl) (x_dk dn_238_0_0_ok 6 rfl)) nx_m2)))))
  (e_Tok2
  (e_Tok2
  (e_Lok (ps_iconst_1 (x_dk dn_238_0_0_ok 7 rfl)))
  (e_Tok2
  (e_Lok (sm_isub (x_dk dn_238_0_0_ok 8 rfl)))
  (e_Lok (lk_11_82 ho_238 (x_dk dn_238_0_0_ok 9 rfl)))))
  (e_Tok2
  (e_Tok2
  (e_Lok (e_st (I := eI) (er_ifeq (off := 12) (tg := 32) (x_dk dn_238_0_0_ok 10 rfl) (by decide)) nx_if1))
  (e_Lok (ld_iload_n_2 (x_dk dn_238_0_0_ok 11 rfl))))
  (e_Tok2
  (e_Lok (ps_iconst_0 (x_dk dn_238_0_0_ok 12 rfl)))
  (e_Lok (ps_iconst_3 (x_dk dn_238_0_0_ok 13 rfl)))))))
  (e_Tok2
  (e_Tok2
  (e_Tok2
  (e_Lok (lk_11_82 ho_238 (x_dk dn_238_0_0_ok 14 rfl)))
  (e_Tok2
  (e_Lok (e_st (I := eI) (er_ifne (off := 5) (tg := 34) (x_dk dn_238_0_0_ok 15 rfl) (by decide)) nx_if1))
  (e_Lok (ps_iconst_m1 (x_dk dn_238_0_0_ok 16 rfl)))))
  (e_Tok2
  (e_Tok2
  (e_Lok (e_rt (I := eI) (k := 1) ⟨(x_dk dn_238_0_0_ok 17 rfl), rfl⟩))
  (e_Lok (ld_aload_n_0 (x_dk dn_238_0_0_ok 18 rfl))))
  (e_Tok2
  (e_Lok (lk_11_42g ho_238 (x_dk dn_238_0_0_ok 19 rfl)))
  (e_Lok (lk_11_400g ho_238 (x_dk dn_238_0_0_ok 20 rfl))))))
  (e_Tok2
  (e_Tok2
  (e_Lok (ld_iload_n_1 (x_dk dn_238_0_0_ok 21 rfl)))
  (e_Tok2
  (e_Lok (ps_iconst_4 (x_dk dn_238_0_0_ok 22 rfl)))
  (e_Lok (sm_imul (x_dk dn_238_0_0_ok 23 rfl)))))
  (e_Tok2
  (e_Tok2
  (e_Lok (ld_iload_n_2 (x_dk dn_238_0_0_ok 24 rfl)))
  (e_Lok (sm_iadd (x_dk dn_238_0_1_ok 0 rfl))))
  (e_Tok2
  (e_Lok (sm_iaload (x_dk dn_238_0_1_ok 1 rfl)))
  (e_Lok (e_rt (I := eI) (k := 1) ⟨(x_dk dn_238_0_1_ok 2 rfl), rfl⟩)))))))
def te_238 : Nat → eE := te_238_0
theorem te_238_ok : ∀ pc, e_EOq eft cls elay eI n_238 pc (te_238 pc) := te_238_0_ok
theorem ho_239 : (xm_y n_239).cls = "RobotCellHouse" := rfl
def dn_239_0_0 : List (Nat × Instr × Nat) := [(0, .aload_n 0, 1), (1, .iload_n 1, 1), (2, .invokevirtual 103, 3), (5, .ifCond .eq 14, 3), (8, .iload_n 2, 1), (9, .iconst 0, 1), (10, .sipush 2000, 3), (13, .invokestatic 82, 3), (16, .ifCond .ne 5, 3), (19, .iconst (-1), 1), (20, .ireturn, 1), (21, .aload_n 0, 1), (22, .getfield 46, 3), (25, .aload_n 0, 1), (26, .getfield 27, 3), (29, .aload_n 0, 1), (30, .getfield 94, 3), (33, .iload_n 1, 1), (34, .iconst 0, 1), (35, .iload_n 2, 1), (36, .invokevirtual 403, 3), (39, .ifCond .eq 7, 3), (42, .iconst 1, 1), (43, .goto 4, 3), (46, .iconst 0, 1)]
set_option maxRecDepth 20000 in
theorem dn_239_0_0_ok : dn_239_0_0.all (fun q => decide (decode (xm_b n_239) q.1 = .ok (q.2.1, q.2.2))) = true := xa_g_ok (by decide +kernel)
def dn_239_0_1 : List (Nat × Instr × Nat) := [(47, .ireturn, 1)]
set_option maxRecDepth 20000 in
theorem dn_239_0_1_ok : dn_239_0_1.all (fun q => decide (decode (xm_b n_239) q.1 = .ok (q.2.1, q.2.2))) = true := xa_g_ok (by decide +kernel)
def te_239_0 : Nat → eE := (e_T 22 (e_T 9 (e_T 2 (e_T 0 (e_L 0 (0, ei_load 0 2 1, 0, 0)) (e_T 1 (e_L 1 (0, ei_load 1 0 2, 0, 0)) (e_L 2 (2, e_nof, 246, 2)))) (e_T 5 (e_L 5 (0, ei_if1 0 19 8, 0, 0)) (e_T 8 (e_L 8 (0, ei_load 2 0 9, 0, 0)) (e_L 9 (0, ei_push (0, 0) 10, 0, 0))))) (e_T 16 (e_T 10 (e_L 10 (0, ei_push (0, 2000) 13, 0, 0)) (e_T 13 (e_L 13 (2, e_nof, 242, 3)) (e_L 16 (0, ei_if1 1 21 19, 0, 0)))) (e_T 20 (e_T 19 (e_L 19 (0, ei_push (0, (-1)) 20, 0, 0)) (e_L 20 (1, e_nof, 1, 0))) (e_T 21 (e_L 21 (0, ei_load 0 2 22, 0, 0)) (e_L 22 (0, ei_getf eft elay 11 6 25, 0, 0)))))) (e_T 34 (e_T 29 (e_T 25 (e_L 25 (0, ei_load 0 2 26, 0, 0)) (e_T 26 (e_L 26 (0, ei_getf eft elay 11 2 29, 0, 0)) (e_L 29 (0, ei_load 0 2 30, 0, 0)))) (e_T 30 (e_L 30 (0, ei_getf eft elay 11 11 33, 0, 0)) (e_T 33 (e_L 33 (0, ei_load 1 0 34, 0, 0)) (e_L 34 (0, ei_push (0, 0) 35, 0, 0))))) (e_T 39 (e_T 35 (e_L 35 (0, ei_load 2 0 36, 0, 0)) (e_T 36 (e_L 36 (2, e_nof, 171, 6)) (e_L 39 (0, ei_if1 0 46 42, 0, 0)))) (e_T 43 (e_T 42 (e_L 42 (0, ei_push (0, 1) 43, 0, 0)) (e_L 43 (0, ei_goto 47, 0, 0))) (e_T 46 (e_L 46 (0, ei_push (0, 0) 47, 0, 0)) (e_L 47 (1, e_nof, 1, 0)))))))
set_option maxRecDepth 20000 in
set_option maxHeartbeats 4000000 in
theorem te_239_0_ok : ∀ pc, e_EOq eft cls elay eI n_239 pc (te_239_0 pc) :=
  (e_Tok2
  (e_Tok2
  (e_Tok2
  (e_Tok2
  (e_Lok (ld_aload_n_0 (x_dk dn_239_0_0_ok 0 rfl)))
  (e_Tok2
  (e_Lok (ld_iload_n_1 (x_dk dn_239_0_0_ok 1 rfl)))
  (e_Lok (lk_11_103 ho_239 (x_dk dn_239_0_0_ok 2 rfl)))))
  (e_Tok2
  (e_Lok (e_st (I := eI) (er_ifeq (off := 14) (tg := 19) (x_dk dn_239_0_0_ok 3 rfl) (by decide)) nx_if1))
  (e_Tok2
  (e_Lok (ld_iload_n_2 (x_dk dn_239_0_0_ok 4 rfl)))
  (e_Lok (ps_iconst_0 (x_dk dn_239_0_0_ok 5 rfl))))))
  (e_Tok2
  (e_Tok2
  (e_Lok (ps_sipush_2000 (x_dk dn_239_0_0_ok 6 rfl)))
  (e_Tok2
  (e_Lok (lk_11_82 ho_239 (x_dk dn_239_0_0_ok 7 rfl)))
  (e_Lok (e_st (I := eI) (er_ifne (off := 5) (tg := 21) (x_dk dn_239_0_0_ok 8 rfl) (by decide)) nx_if1))))
  (e_Tok2
  (e_Tok2
  (e_Lok (ps_iconst_m1 (x_dk dn_239_0_0_ok 9 rfl)))
  (e_Lok (e_rt (I := eI) (k := 1) ⟨(x_dk dn_239_0_0_ok 10 rfl), rfl⟩)))
  (e_Tok2
  (e_Lok (ld_aload_n_0 (x_dk dn_239_0_0_ok 11 rfl)))
  (e_Lok (lk_11_46g ho_239 (x_dk dn_239_0_0_ok 12 rfl)))))))
  (e_Tok2
  (e_Tok2
  (e_Tok2
  (e_Lok (ld_aload_n_0 (x_dk dn_239_0_0_ok 13 rfl)))
  (e_Tok2
  (e_Lok (lk_11_27g ho_239 (x_dk dn_239_0_0_ok 14 rfl)))
  (e_Lok (ld_aload_n_0 (x_dk dn_239_0_0_ok 15 rfl)))))
  (e_Tok2
  (e_Lok (lk_11_94g ho_239 (x_dk dn_239_0_0_ok 16 rfl)))
  (e_Tok2
  (e_Lok (ld_iload_n_1 (x_dk dn_239_0_0_ok 17 rfl)))
  (e_Lok (ps_iconst_0 (x_dk dn_239_0_0_ok 18 rfl))))))
  (e_Tok2
  (e_Tok2
  (e_Lok (ld_iload_n_2 (x_dk dn_239_0_0_ok 19 rfl)))
  (e_Tok2
  (e_Lok (lk_11_403 ho_239 (x_dk dn_239_0_0_ok 20 rfl)))
  (e_Lok (e_st (I := eI) (er_ifeq (off := 7) (tg := 46) (x_dk dn_239_0_0_ok 21 rfl) (by decide)) nx_if1))))
  (e_Tok2
  (e_Tok2
  (e_Lok (ps_iconst_1 (x_dk dn_239_0_0_ok 22 rfl)))
  (e_Lok (e_st (I := eI) (er_goto (off := 4) (tg := 47) (x_dk dn_239_0_0_ok 23 rfl) (by decide)) nx_goto)))
  (e_Tok2
  (e_Lok (ps_iconst_0 (x_dk dn_239_0_0_ok 24 rfl)))
  (e_Lok (e_rt (I := eI) (k := 1) ⟨(x_dk dn_239_0_1_ok 0 rfl), rfl⟩)))))))
def te_239 : Nat → eE := te_239_0
theorem te_239_ok : ∀ pc, e_EOq eft cls elay eI n_239 pc (te_239 pc) := te_239_0_ok
theorem ho_240 : (xm_y n_240).cls = "RobotCellHouse" := rfl
def dn_240_0_0 : List (Nat × Instr × Nat) := [(0, .iload_n 1, 1), (1, .tableswitch 122 0 8 #[51, 56, 64, 72, 80, 88, 96, 101, 109], 51), (52, .aload_n 0, 1), (53, .getfield 94, 3), (56, .ireturn, 1), (57, .aload_n 0, 1), (58, .getfield 46, 3), (61, .getfield 149, 3), (64, .ireturn, 1), (65, .aload_n 0, 1), (66, .getfield 37, 3), (69, .getfield 167, 3), (72, .ireturn, 1), (73, .aload_n 0, 1), (74, .getfield 37, 3), (77, .getfield 371, 3), (80, .ireturn, 1), (81, .aload_n 0, 1), (82, .getfield 46, 3), (85, .getfield 198, 3), (88, .ireturn, 1), (89, .aload_n 0, 1), (90, .getfield 42, 3), (93, .getfield 204, 3), (96, .ireturn, 1)]
set_option maxRecDepth 20000 in
theorem dn_240_0_0_ok : dn_240_0_0.all (fun q => decide (decode (xm_b n_240) q.1 = .ok (q.2.1, q.2.2))) = true := xa_g_ok (by decide +kernel)
def dn_240_0_1 : List (Nat × Instr × Nat) := [(97, .aload_n 0, 1), (98, .getfield 246, 3), (101, .ireturn, 1), (102, .aload_n 0, 1), (103, .getfield 10, 3), (106, .getfield 74, 3), (109, .ireturn, 1), (110, .aload_n 0, 1), (111, .getfield 91, 3), (114, .ifCond .eq 7, 3), (117, .iconst 1, 1), (118, .goto 4, 3), (121, .iconst 0, 1), (122, .ireturn, 1), (123, .iconst (-1), 1), (124, .ireturn, 1)]
set_option maxRecDepth 20000 in
theorem dn_240_0_1_ok : dn_240_0_1.all (fun q => decide (decode (xm_b n_240) q.1 = .ok (q.2.1, q.2.2))) = true := xa_g_ok (by decide +kernel)
def te_240_0 : Nat → eE := (e_T 65 (e_T 56 (e_T 1 (e_T 0 (e_L 0 (0, ei_load 1 0 1, 0, 0)) (e_L 1 (0, ei_sw [((-2147483648), (-1), 123), (0, 0, 52), (1, 1, 57), (2, 2, 65), (3, 3, 73), (4, 4, 81), (5, 5, 89), (6, 6, 97), (7, 7, 102), (8, 8, 110), (9, 2147483647, 123)], 0, 0))) (e_T 52 (e_L 52 (0, ei_load 0 2 53, 0, 0)) (e_T 53 (e_L 53 (0, ei_getf eft elay 11 11 56, 0, 0)) (e_L 56 (1, e_nof, 1, 0))))) (e_T 58 (e_T 57 (e_L 57 (0, ei_load 0 2 58, 0, 0)) (e_L 58 (0, ei_getf eft elay 11 6 61, 0, 0))) (e_T 61 (e_L 61 (0, ei_getf eft elay 9 0 64, 0, 0)) (e_T 64 (e_L 64 (1, e_nof, 1, 0)) (e_L 65 (0, ei_load 0 2 66, 0, 0)))))) (e_T 74 (e_T 69 (e_T 66 (e_L 66 (0, ei_getf eft elay 11 4 69, 0, 0)) (e_L 69 (0, ei_getf eft elay 4 0 72, 0, 0))) (e_T 72 (e_L 72 (1, e_nof, 1, 0)) (e_T 73 (e_L 73 (0, ei_load 0 2 74, 0, 0)) (e_L 74 (0, ei_getf eft elay 11 4 77, 0, 0))))) (e_T 80 (e_T 77 (e_L 77 (0, ei_getf eft elay 4 1 80, 0, 0)) (e_L 80 (1, e_nof, 1, 0))) (e_T 81 (e_L 81 (0, ei_load 0 2 82, 0, 0)) (e_T 82 (e_L 82 (0, ei_getf eft elay 11 6 85, 0, 0)) (e_L 85 (0, ei_getf eft elay 9 1 88, 0, 0)))))))
set_option maxRecDepth 20000 in
set_option maxHeartbeats 4000000 in
theorem te_240_0_ok : ∀ pc, e_EOq eft cls elay eI n_240 pc (te_240_0 pc) :=
  (e_Tok2
  (e_Tok2
  (e_Tok2
  (e_Tok2
  (e_Lok (ld_iload_n_1 (x_dk dn_240_0_0_ok 0 rfl)))
  (e_Lok (e_st (I := eI) (er_tsw (dflt := 122) (lo := 0) (hi := 8) (offs := #[51, 56, 64, 72, 80, 88, 96, 101, 109]) (len := 51) (n := 9) (x_dk dn_240_0_0_ok 1 rfl) (by decide) (by decide +kernel)) nx_sw)))
  (e_Tok2
  (e_Lok (ld_aload_n_0 (x_dk dn_240_0_0_ok 2 rfl)))
  (e_Tok2
  (e_Lok (lk_11_94g ho_240 (x_dk dn_240_0_0_ok 3 rfl)))
  (e_Lok (e_rt (I := eI) (k := 1) ⟨(x_dk dn_240_0_0_ok 4 rfl), rfl⟩)))))
  (e_Tok2
  (e_Tok2
  (e_Lok (ld_aload_n_0 (x_dk dn_240_0_0_ok 5 rfl)))
  (e_Lok (lk_11_46g ho_240 (x_dk dn_240_0_0_ok 6 rfl))))
  (e_Tok2
  (e_Lok (lk_11_149g ho_240 (x_dk dn_240_0_0_ok 7 rfl)))
  (e_Tok2
  (e_Lok (e_rt (I := eI) (k := 1) ⟨(x_dk dn_240_0_0_ok 8 rfl), rfl⟩))
  (e_Lok (ld_aload_n_0 (x_dk dn_240_0_0_ok 9 rfl)))))))
  (e_Tok2
  (e_Tok2
  (e_Tok2
  (e_Lok (lk_11_37g ho_240 (x_dk dn_240_0_0_ok 10 rfl)))
  (e_Lok (lk_11_167g ho_240 (x_dk dn_240_0_0_ok 11 rfl))))
  (e_Tok2
  (e_Lok (e_rt (I := eI) (k := 1) ⟨(x_dk dn_240_0_0_ok 12 rfl), rfl⟩))
  (e_Tok2
  (e_Lok (ld_aload_n_0 (x_dk dn_240_0_0_ok 13 rfl)))
  (e_Lok (lk_11_37g ho_240 (x_dk dn_240_0_0_ok 14 rfl))))))
  (e_Tok2
  (e_Tok2
  (e_Lok (lk_11_371g ho_240 (x_dk dn_240_0_0_ok 15 rfl)))
  (e_Lok (e_rt (I := eI) (k := 1) ⟨(x_dk dn_240_0_0_ok 16 rfl), rfl⟩)))
  (e_Tok2
  (e_Lok (ld_aload_n_0 (x_dk dn_240_0_0_ok 17 rfl)))
  (e_Tok2
  (e_Lok (lk_11_46g ho_240 (x_dk dn_240_0_0_ok 18 rfl)))
  (e_Lok (lk_11_198g ho_240 (x_dk dn_240_0_0_ok 19 rfl))))))))
def te_240_20 : Nat → eE := (e_T 103 (e_T 96 (e_T 89 (e_T 88 (e_L 88 (1, e_nof, 1, 0)) (e_L 89 (0, ei_load 0 2 90, 0, 0))) (e_T 90 (e_L 90 (0, ei_getf eft elay 11 5 93, 0, 0)) (e_T 93 (e_L 93 (0, ei_getf eft elay 2 2 96, 0, 0)) (e_L 96 (1, e_nof, 1, 0))))) (e_T 98 (e_T 97 (e_L 97 (0, ei_load 0 2 98, 0, 0)) (e_L 98 (0, ei_getf eft elay 11 12 101, 0, 0))) (e_T 101 (e_L 101 (1, e_nof, 1, 0)) (e_T 102 (e_L 102 (0, ei_load 0 2 103, 0, 0)) (e_L 103 (0, ei_getf eft elay 11 0 106, 0, 0)))))) (e_T 114 (e_T 109 (e_T 106 (e_L 106 (0, ei_getf eft elay 8 0 109, 0, 0)) (e_L 109 (1, e_nof, 1, 0))) (e_T 110 (e_L 110 (0, ei_load 0 2 111, 0, 0)) (e_T 111 (e_L 111 (0, ei_getf eft elay 11 13 114, 0, 0)) (e_L 114 (0, ei_if1 0 121 117, 0, 0))))) (e_T 121 (e_T 117 (e_L 117 (0, ei_push (0, 1) 118, 0, 0)) (e_T 118 (e_L 118 (0, ei_goto 122, 0, 0)) (e_L 121 (0, ei_push (0, 0) 122, 0, 0)))) (e_T 122 (e_L 122 (1, e_nof, 1, 0)) (e_T 123 (e_L 123 (0, ei_push (0, (-1)) 124, 0, 0)) (e_L 124 (1, e_nof, 1, 0)))))))
set_option maxRecDepth 20000 in
set_option maxHeartbeats 4000000 in
theorem te_240_20_ok : ∀ pc, e_EOq eft cls elay eI n_240 pc (te_240_20 pc) :=
  (e_Tok2
  (e_Tok2
  (e_Tok2
  (e_Tok2
  (e_Lok (e_rt (I := eI) (k := 1) ⟨(x_dk dn_240_0_0_ok 20 rfl), rfl⟩))
  (e_Lok (ld_aload_n_0 (x_dk dn_240_0_0_ok 21 rfl))))
  (e_Tok2
  (e_Lok (lk_11_42g ho_240 (x_dk dn_240_0_0_ok 22 rfl)))
  (e_Tok2
  (e_Lok (lk_11_204g ho_240 (x_dk dn_240_0_0_ok 23 rfl)))
  (e_Lok (e_rt (I := eI) (k := 1) ⟨(x_dk dn_240_0_0_ok 24 rfl), rfl⟩)))))
  (e_Tok2
  (e_Tok2
  (e_Lok (ld_aload_n_0 (x_dk dn_240_0_1_ok 0 rfl)))
  (e_Lok (lk_11_246g ho_240 (x_dk dn_240_0_1_ok 1 rfl))))
  (e_Tok2
  (e_Lok (e_rt (I := eI) (k := 1) ⟨(x_dk dn_240_0_1_ok 2 rfl), rfl⟩))
  (e_Tok2
  (e_Lok (ld_aload_n_0 (x_dk dn_240_0_1_ok 3 rfl)))
  (e_Lok (lk_11_10g ho_240 (x_dk dn_240_0_1_ok 4 rfl)))))))
  (e_Tok2
  (e_Tok2
  (e_Tok2
  (e_Lok (lk_11_74g ho_240 (x_dk dn_240_0_1_ok 5 rfl)))
  (e_Lok (e_rt (I := eI) (k := 1) ⟨(x_dk dn_240_0_1_ok 6 rfl), rfl⟩)))
  (e_Tok2
  (e_Lok (ld_aload_n_0 (x_dk dn_240_0_1_ok 7 rfl)))
  (e_Tok2
  (e_Lok (lk_11_91g ho_240 (x_dk dn_240_0_1_ok 8 rfl)))
  (e_Lok (e_st (I := eI) (er_ifeq (off := 7) (tg := 121) (x_dk dn_240_0_1_ok 9 rfl) (by decide)) nx_if1)))))
  (e_Tok2
  (e_Tok2
  (e_Lok (ps_iconst_1 (x_dk dn_240_0_1_ok 10 rfl)))
  (e_Tok2
  (e_Lok (e_st (I := eI) (er_goto (off := 4) (tg := 122) (x_dk dn_240_0_1_ok 11 rfl) (by decide)) nx_goto))
  (e_Lok (ps_iconst_0 (x_dk dn_240_0_1_ok 12 rfl)))))
  (e_Tok2
  (e_Lok (e_rt (I := eI) (k := 1) ⟨(x_dk dn_240_0_1_ok 13 rfl), rfl⟩))
  (e_Tok2
  (e_Lok (ps_iconst_m1 (x_dk dn_240_0_1_ok 14 rfl)))
  (e_Lok (e_rt (I := eI) (k := 1) ⟨(x_dk dn_240_0_1_ok 15 rfl), rfl⟩)))))))
def te_240 : Nat → eE := (e_T 85 te_240_0 te_240_20)
theorem te_240_ok : ∀ pc, e_EOq eft cls elay eI n_240 pc (te_240 pc) := (e_Tok2 (te_240_0_ok) (te_240_20_ok))
theorem ho_241 : (xm_y n_241).cls = "RobotCellHouse" := rfl
def dn_241_0_0 : List (Nat × Instr × Nat) := [(0, .iload_n 1, 1), (1, .iconst 0, 1), (2, .iconst 3, 1), (3, .invokestatic 82, 3), (6, .ifCond .eq 12, 3), (9, .aload_n 0, 1), (10, .getfield 64, 3), (13, .iload_n 1, 1), (14, .iaload, 1), (15, .goto 4, 3), (18, .iconst (-1), 1), (19, .ireturn, 1)]
set_option maxRecDepth 20000 in
theorem dn_241_0_0_ok : dn_241_0_0.all (fun q => decide (decode (xm_b n_241) q.1 = .ok (q.2.1, q.2.2))) = true := xa_g_ok (by decide +kernel)
def te_241_0 : Nat → eE := (e_T 9 (e_T 2 (e_T 0 (e_L 0 (0, ei_load 1 0 1, 0, 0)) (e_T 1 (e_L 1 (0, ei_push (0, 0) 2, 0, 0)) (e_L 2 (0, ei_push (0, 3) 3, 0, 0)))) (e_T 3 (e_L 3 (2, e_nof, 242, 3)) (e_T 6 (e_L 6 (0, ei_if1 0 18 9, 0, 0)) (e_L 9 (0, ei_load 0 2 10, 0, 0))))) (e_T 14 (e_T 10 (e_L 10 (0, ei_getf eft elay 11 10 13, 0, 0)) (e_T 13 (e_L 13 (0, ei_load 1 0 14, 0, 0)) (e_L 14 (0, ei_ald elay false 15, 0, 0)))) (e_T 15 (e_L 15 (0, ei_goto 19, 0, 0)) (e_T 18 (e_L 18 (0, ei_push (0, (-1)) 19, 0, 0)) (e_L 19 (1, e_nof, 1, 0))))))
set_option maxRecDepth 20000 in
set_option maxHeartbeats 4000000 in
theorem te_241_0_ok : ∀ pc, e_EOq eft cls elay eI n_241 pc (te_241_0 pc) :=
  (e_Tok2
  (e_Tok2
  (e_Tok2
  (e_Lok (ld_iload_n_1 (x_dk dn_241_0_0_ok 0 rfl)))
  (e_Tok2
  (e_Lok (ps_iconst_0 (x_dk dn_241_0_0_ok 1 rfl)))
  (e_Lok (ps_iconst_3 (x_dk dn_241_0_0_ok 2 rfl)))))
  (e_Tok2
  (e_Lok (lk_11_82 ho_241 (x_dk dn_241_0_0_ok 3 rfl)))
  (e_Tok2
  (e_Lok (e_st (I := eI) (er_ifeq (off := 12) (tg := 18) (x_dk dn_241_0_0_ok 4 rfl) (by decide)) nx_if1))
  (e_Lok (ld_aload_n_0 (x_dk dn_241_0_0_ok 5 rfl))))))
  (e_Tok2
  (e_Tok2
  (e_Lok (lk_11_64g ho_241 (x_dk dn_241_0_0_ok 6 rfl)))
  (e_Tok2
  (e_Lok (ld_iload_n_1 (x_dk dn_241_0_0_ok 7 rfl)))
  (e_Lok (sm_iaload (x_dk dn_241_0_0_ok 8 rfl)))))
  (e_Tok2
  (e_Lok (e_st (I := eI) (er_goto (off := 4) (tg := 19) (x_dk dn_241_0_0_ok 9 rfl) (by decide)) nx_goto))
  (e_Tok2
  (e_Lok (ps_iconst_m1 (x_dk dn_241_0_0_ok 10 rfl)))
  (e_Lok (e_rt (I := eI) (k := 1) ⟨(x_dk dn_241_0_0_ok 11 rfl), rfl⟩))))))
def te_241 : Nat → eE := te_241_0
theorem te_241_ok : ∀ pc, e_EOq eft cls elay eI n_241 pc (te_241 pc) := te_241_0_ok
theorem ho_242 : (xm_y n_242).cls = "RobotCellHouse" := rfl
def dn_242_0_0 : List (Nat × Instr × Nat) := [(0, .iload_n 1, 1), (1, .iload_n 0, 1), (2, .if_icmp .gt 12, 3), (5, .iload_n 0, 1), (6, .iload_n 2, 1), (7, .if_icmp .gt 7, 3), (10, .iconst 1, 1), (11, .goto 4, 3), (14, .iconst 0, 1), (15, .ireturn, 1)]
set_option maxRecDepth 20000 in
theorem dn_242_0_0_ok : dn_242_0_0.all (fun q => decide (decode (xm_b n_242) q.1 = .ok (q.2.1, q.2.2))) = true := xa_g_ok (by decide +kernel)
def te_242_0 : Nat → eE := (e_T 6 (e_T 1 (e_T 0 (e_L 0 (0, ei_load 1 0 1, 0, 0)) (e_L 1 (0, ei_load 0 0 2, 0, 0))) (e_T 2 (e_L 2 (0, ei_if2 4 14 5, 0, 0)) (e_T 5 (e_L 5 (0, ei_load 0 0 6, 0, 0)) (e_L 6 (0, ei_load 2 0 7, 0, 0))))) (e_T 10 (e_T 7 (e_L 7 (0, ei_if2 4 14 10, 0, 0)) (e_L 10 (0, ei_push (0, 1) 11, 0, 0))) (e_T 11 (e_L 11 (0, ei_goto 15, 0, 0)) (e_T 14 (e_L 14 (0, ei_push (0, 0) 15, 0, 0)) (e_L 15 (1, e_nof, 4, 0))))))
set_option maxRecDepth 20000 in
set_option maxHeartbeats 4000000 in
theorem te_242_0_ok : ∀ pc, e_EOq eft cls elay eI n_242 pc (te_242_0 pc) :=
  (e_Tok2
  (e_Tok2
  (e_Tok2
  (e_Lok (ld_iload_n_1 (x_dk dn_242_0_0_ok 0 rfl)))
  (e_Lok (ld_iload_n_0 (x_dk dn_242_0_0_ok 1 rfl))))
  (e_Tok2
  (e_Lok (e_st (I := eI) (er_icmpgt (off := 12) (tg := 14) (x_dk dn_242_0_0_ok 2 rfl) (by decide)) nx_if2))
  (e_Tok2
  (e_Lok (ld_iload_n_0 (x_dk dn_242_0_0_ok 3 rfl)))
  (e_Lok (ld_iload_n_2 (x_dk dn_242_0_0_ok 4 rfl))))))
  (e_Tok2
  (e_Tok2
  (e_Lok (e_st (I := eI) (er_icmpgt (off := 7) (tg := 14) (x_dk dn_242_0_0_ok 5 rfl) (by decide)) nx_if2))
  (e_Lok (ps_iconst_1 (x_dk dn_242_0_0_ok 6 rfl))))
  (e_Tok2
  (e_Lok (e_st (I := eI) (er_goto (off := 4) (tg := 15) (x_dk dn_242_0_0_ok 7 rfl) (by decide)) nx_goto))
  (e_Tok2
  (e_Lok (ps_iconst_0 (x_dk dn_242_0_0_ok 8 rfl)))
  (e_Lok (e_rt (I := eI) (k := 4) ⟨(x_dk dn_242_0_0_ok 9 rfl), rfl⟩))))))
def te_242 : Nat → eE := te_242_0
theorem te_242_ok : ∀ pc, e_EOq eft cls elay eI n_242 pc (te_242 pc) := te_242_0_ok
theorem ho_243 : (xm_y n_243).cls = "RobotCellHouse" := rfl
def dn_243_0_0 : List (Nat × Instr × Nat) := [(0, .iload_n 0, 1), (1, .sipush (-16000), 3), (4, .sipush 16000, 3), (7, .invokestatic 82, 3), (10, .ifCond .eq 20, 3), (13, .iload_n 1, 1), (14, .sipush (-16000), 3), (17, .sipush 16000, 3), (20, .invokestatic 82, 3), (23, .ifCond .eq 7, 3), (26, .iconst 1, 1), (27, .goto 4, 3), (30, .iconst 0, 1), (31, .ireturn, 1)]
set_option maxRecDepth 20000 in
theorem dn_243_0_0_ok : dn_243_0_0.all (fun q => decide (decode (xm_b n_243) q.1 = .ok (q.2.1, q.2.2))) = true := xa_g_ok (by decide +kernel)
def te_243_0 : Nat → eE := (e_T 14 (e_T 4 (e_T 0 (e_L 0 (0, ei_load 0 0 1, 0, 0)) (e_T 1 (e_L 1 (0, ei_push (0, (-16000)) 4, 0, 0)) (e_L 4 (0, ei_push (0, 16000) 7, 0, 0)))) (e_T 10 (e_T 7 (e_L 7 (2, e_nof, 242, 3)) (e_L 10 (0, ei_if1 0 30 13, 0, 0))) (e_T 13 (e_L 13 (0, ei_load 1 0 14, 0, 0)) (e_L 14 (0, ei_push (0, (-16000)) 17, 0, 0))))) (e_T 23 (e_T 17 (e_L 17 (0, ei_push (0, 16000) 20, 0, 0)) (e_T 20 (e_L 20 (2, e_nof, 242, 3)) (e_L 23 (0, ei_if1 0 30 26, 0, 0)))) (e_T 27 (e_T 26 (e_L 26 (0, ei_push (0, 1) 27, 0, 0)) (e_L 27 (0, ei_goto 31, 0, 0))) (e_T 30 (e_L 30 (0, ei_push (0, 0) 31, 0, 0)) (e_L 31 (1, e_nof, 4, 0))))))
set_option maxRecDepth 20000 in
set_option maxHeartbeats 4000000 in
theorem te_243_0_ok : ∀ pc, e_EOq eft cls elay eI n_243 pc (te_243_0 pc) :=
  (e_Tok2
  (e_Tok2
  (e_Tok2
  (e_Lok (ld_iload_n_0 (x_dk dn_243_0_0_ok 0 rfl)))
  (e_Tok2
  (e_Lok (ps_sipush_m16000 (x_dk dn_243_0_0_ok 1 rfl)))
  (e_Lok (ps_sipush_16000 (x_dk dn_243_0_0_ok 2 rfl)))))
  (e_Tok2
  (e_Tok2
  (e_Lok (lk_11_82 ho_243 (x_dk dn_243_0_0_ok 3 rfl)))
  (e_Lok (e_st (I := eI) (er_ifeq (off := 20) (tg := 30) (x_dk dn_243_0_0_ok 4 rfl) (by decide)) nx_if1)))
  (e_Tok2
  (e_Lok (ld_iload_n_1 (x_dk dn_243_0_0_ok 5 rfl)))
  (e_Lok (ps_sipush_m16000 (x_dk dn_243_0_0_ok 6 rfl))))))
  (e_Tok2
  (e_Tok2
  (e_Lok (ps_sipush_16000 (x_dk dn_243_0_0_ok 7 rfl)))
  (e_Tok2
  (e_Lok (lk_11_82 ho_243 (x_dk dn_243_0_0_ok 8 rfl)))
  (e_Lok (e_st (I := eI) (er_ifeq (off := 7) (tg := 30) (x_dk dn_243_0_0_ok 9 rfl) (by decide)) nx_if1))))
  (e_Tok2
  (e_Tok2
  (e_Lok (ps_iconst_1 (x_dk dn_243_0_0_ok 10 rfl)))
  (e_Lok (e_st (I := eI) (er_goto (off := 4) (tg := 31) (x_dk dn_243_0_0_ok 11 rfl) (by decide)) nx_goto)))
  (e_Tok2
  (e_Lok (ps_iconst_0 (x_dk dn_243_0_0_ok 12 rfl)))
  (e_Lok (e_rt (I := eI) (k := 4) ⟨(x_dk dn_243_0_0_ok 13 rfl), rfl⟩))))))
def te_243 : Nat → eE := te_243_0
theorem te_243_ok : ∀ pc, e_EOq eft cls elay eI n_243 pc (te_243 pc) := te_243_0_ok
theorem ho_244 : (xm_y n_244).cls = "RobotCellHouse" := rfl
def dn_244_0_0 : List (Nat × Instr × Nat) := [(0, .iload_n 0, 1), (1, .iload_n 1, 1), (2, .invokestatic 138, 3), (5, .ifCond .eq 33, 3), (8, .iload_n 2, 1), (9, .iconst 0, 1), (10, .sipush 16000, 3), (13, .iload_n 0, 1), (14, .isub, 1), (15, .invokestatic 82, 3), (18, .ifCond .eq 20, 3), (21, .iload_n 3, 1), (22, .iconst 0, 1), (23, .sipush 16000, 3), (26, .iload_n 1, 1), (27, .isub, 1), (28, .invokestatic 82, 3), (31, .ifCond .eq 7, 3), (34, .iconst 1, 1), (35, .goto 4, 3), (38, .iconst 0, 1), (39, .ireturn, 1)]
set_option maxRecDepth 20000 in
theorem dn_244_0_0_ok : dn_244_0_0.all (fun q => decide (decode (xm_b n_244) q.1 = .ok (q.2.1, q.2.2))) = true := xa_g_ok (by decide +kernel)
def te_244_0 : Nat → eE := (e_T 18 (e_T 8 (e_T 1 (e_T 0 (e_L 0 (0, ei_load 0 0 1, 0, 0)) (e_L 1 (0, ei_load 1 0 2, 0, 0))) (e_T 2 (e_L 2 (2, e_nof, 243, 2)) (e_T 5 (e_L 5 (0, ei_if1 0 38 8, 0, 0)) (e_L 8 (0, ei_load 2 0 9, 0, 0))))) (e_T 13 (e_T 9 (e_L 9 (0, ei_push (0, 0) 10, 0, 0)) (e_T 10 (e_L 10 (0, ei_push (0, 16000) 13, 0, 0)) (e_L 13 (0, ei_load 0 0 14, 0, 0)))) (e_T 14 (e_L 14 (0, ei_bin eF_sub 15, 0, 0)) (e_T 15 (e_L 15 (2, e_nof, 242, 3)) (e_L 18 (0, ei_if1 0 38 21, 0, 0)))))) (e_T 27 (e_T 22 (e_T 21 (e_L 21 (0, ei_load 3 0 22, 0, 0)) (e_L 22 (0, ei_push (0, 0) 23, 0, 0))) (e_T 23 (e_L 23 (0, ei_push (0, 16000) 26, 0, 0)) (e_T 26 (e_L 26 (0, ei_load 1 0 27, 0, 0)) (e_L 27 (0, ei_bin eF_sub 28, 0, 0))))) (e_T 34 (e_T 28 (e_L 28 (2, e_nof, 242, 3)) (e_T 31 (e_L 31 (0, ei_if1 0 38 34, 0, 0)) (e_L 34 (0, ei_push (0, 1) 35, 0, 0)))) (e_T 35 (e_L 35 (0, ei_goto 39, 0, 0)) (e_T 38 (e_L 38 (0, ei_push (0, 0) 39, 0, 0)) (e_L 39 (1, e_nof, 4, 0)))))))
set_option maxRecDepth 20000 in
set_option maxHeartbeats 4000000 in
theorem te_244_0_ok : ∀ pc, e_EOq eft cls elay eI n_244 pc (te_244_0 pc) :=
  (e_Tok2
  (e_Tok2
  (e_Tok2
  (e_Tok2
  (e_Lok (ld_iload_n_0 (x_dk dn_244_0_0_ok 0 rfl)))
  (e_Lok (ld_iload_n_1 (x_dk dn_244_0_0_ok 1 rfl))))
  (e_Tok2
  (e_Lok (lk_11_138 ho_244 (x_dk dn_244_0_0_ok 2 rfl)))
  (e_Tok2
  (e_Lok (e_st (I := eI) (er_ifeq (off := 33) (tg := 38) (x_dk dn_244_0_0_ok 3 rfl) (by decide)) nx_if1))
  (e_Lok (ld_iload_n_2 (x_dk dn_244_0_0_ok 4 rfl))))))
  (e_Tok2
  (e_Tok2
  (e_Lok (ps_iconst_0 (x_dk dn_244_0_0_ok 5 rfl)))
  (e_Tok2
  (e_Lok (ps_sipush_16000 (x_dk dn_244_0_0_ok 6 rfl)))
  (e_Lok (ld_iload_n_0 (x_dk dn_244_0_0_ok 7 rfl)))))
  (e_Tok2
  (e_Lok (sm_isub (x_dk dn_244_0_0_ok 8 rfl)))
  (e_Tok2
  (e_Lok (lk_11_82 ho_244 (x_dk dn_244_0_0_ok 9 rfl)))
  (e_Lok (e_st (I := eI) (er_ifeq (off := 20) (tg := 38) (x_dk dn_244_0_0_ok 10 rfl) (by decide)) nx_if1))))))
  (e_Tok2
  (e_Tok2
  (e_Tok2
  (e_Lok (ld_iload_n_3 (x_dk dn_244_0_0_ok 11 rfl)))
  (e_Lok (ps_iconst_0 (x_dk dn_244_0_0_ok 12 rfl))))
  (e_Tok2
  (e_Lok (ps_sipush_16000 (x_dk dn_244_0_0_ok 13 rfl)))
  (e_Tok2
  (e_Lok (ld_iload_n_1 (x_dk dn_244_0_0_ok 14 rfl)))
  (e_Lok (sm_isub (x_dk dn_244_0_0_ok 15 rfl))))))
  (e_Tok2
  (e_Tok2
  (e_Lok (lk_11_82 ho_244 (x_dk dn_244_0_0_ok 16 rfl)))
  (e_Tok2
  (e_Lok (e_st (I := eI) (er_ifeq (off := 7) (tg := 38) (x_dk dn_244_0_0_ok 17 rfl) (by decide)) nx_if1))
  (e_Lok (ps_iconst_1 (x_dk dn_244_0_0_ok 18 rfl)))))
  (e_Tok2
  (e_Lok (e_st (I := eI) (er_goto (off := 4) (tg := 39) (x_dk dn_244_0_0_ok 19 rfl) (by decide)) nx_goto))
  (e_Tok2
  (e_Lok (ps_iconst_0 (x_dk dn_244_0_0_ok 20 rfl)))
  (e_Lok (e_rt (I := eI) (k := 4) ⟨(x_dk dn_244_0_0_ok 21 rfl), rfl⟩)))))))
def te_244 : Nat → eE := te_244_0
theorem te_244_ok : ∀ pc, e_EOq eft cls elay eI n_244 pc (te_244 pc) := te_244_0_ok
theorem ho_245 : (xm_y n_245).cls = "RobotCellHouse" := rfl
def dn_245_0_0 : List (Nat × Instr × Nat) := [(0, .iload_n 0, 1), (1, .iconst 0, 1), (2, .bipush 63, 2), (4, .invokestatic 82, 3), (7, .ireturn, 1)]
set_option maxRecDepth 20000 in
theorem dn_245_0_0_ok : dn_245_0_0.all (fun q => decide (decode (xm_b n_245) q.1 = .ok (q.2.1, q.2.2))) = true := xa_g_ok (by decide +kernel)
def te_245_0 : Nat → eE := (e_T 1 (e_T 0 (e_L 0 (0, ei_load 0 0 1, 0, 0)) (e_L 1 (0, ei_push (0, 0) 2, 0, 0))) (e_T 2 (e_L 2 (0, ei_push (0, 63) 4, 0, 0)) (e_T 4 (e_L 4 (2, e_nof, 242, 3)) (e_L 7 (1, e_nof, 4, 0)))))
set_option maxRecDepth 20000 in
set_option maxHeartbeats 4000000 in
theorem te_245_0_ok : ∀ pc, e_EOq eft cls elay eI n_245 pc (te_245_0 pc) :=
  (e_Tok2
  (e_Tok2
  (e_Lok (ld_iload_n_0 (x_dk dn_245_0_0_ok 0 rfl)))
  (e_Lok (ps_iconst_0 (x_dk dn_245_0_0_ok 1 rfl))))
  (e_Tok2
  (e_Lok (ps_bipush_63 (x_dk dn_245_0_0_ok 2 rfl)))
  (e_Tok2
  (e_Lok (lk_11_82 ho_245 (x_dk dn_245_0_0_ok 3 rfl)))
  (e_Lok (e_rt (I := eI) (k := 4) ⟨(x_dk dn_245_0_0_ok 4 rfl), rfl⟩)))))
def te_245 : Nat → eE := te_245_0
theorem te_245_ok : ∀ pc, e_EOq eft cls elay eI n_245 pc (te_245 pc) := te_245_0_ok
theorem ho_246 : (xm_y n_246).cls = "RobotCellHouse" := rfl
def dn_246_0_0 : List (Nat × Instr × Nat) := [(0, .iload_n 1, 1), (1, .iconst 0, 1), (2, .aload_n 0, 1), (3, .getfield 94, 3), (6, .iconst 1, 1), (7, .isub, 1), (8, .invokestatic 82, 3), (11, .ireturn, 1)]
set_option maxRecDepth 20000 in
theorem dn_246_0_0_ok : dn_246_0_0.all (fun q => decide (decode (xm_b n_246) q.1 = .ok (q.2.1, q.2.2))) = true := xa_g_ok (by decide +kernel)
def te_246_0 : Nat → eE := (e_T 3 (e_T 1 (e_T 0 (e_L 0 (0, ei_load 1 0 1, 0, 0)) (e_L 1 (0, ei_push (0, 0) 2, 0, 0))) (e_T 2 (e_L 2 (0, ei_load 0 2 3, 0, 0)) (e_L 3 (0, ei_getf eft elay 11 11 6, 0, 0)))) (e_T 7 (e_T 6 (e_L 6 (0, ei_push (0, 1) 7, 0, 0)) (e_L 7 (0, ei_bin eF_sub 8, 0, 0))) (e_T 8 (e_L 8 (2, e_nof, 242, 3)) (e_L 11 (1, e_nof, 4, 0)))))
set_option maxRecDepth 20000 in
set_option maxHeartbeats 4000000 in
theorem te_246_0_ok : ∀ pc, e_EOq eft cls elay eI n_246 pc (te_246_0 pc) :=
  (e_Tok2
  (e_Tok2
  (e_Tok2
  (e_Lok (ld_iload_n_1 (x_dk dn_246_0_0_ok 0 rfl)))
  (e_Lok (ps_iconst_0 (x_dk dn_246_0_0_ok 1 rfl))))
  (e_Tok2
  (e_Lok (ld_aload_n_0 (x_dk dn_246_0_0_ok 2 rfl)))
  (e_Lok (lk_11_94g ho_246 (x_dk dn_246_0_0_ok 3 rfl)))))
  (e_Tok2
  (e_Tok2
  (e_Lok (ps_iconst_1 (x_dk dn_246_0_0_ok 4 rfl)))
  (e_Lok (sm_isub (x_dk dn_246_0_0_ok 5 rfl))))
  (e_Tok2
  (e_Lok (lk_11_82 ho_246 (x_dk dn_246_0_0_ok 6 rfl)))
  (e_Lok (e_rt (I := eI) (k := 4) ⟨(x_dk dn_246_0_0_ok 7 rfl), rfl⟩)))))
def te_246 : Nat → eE := te_246_0
theorem te_246_ok : ∀ pc, e_EOq eft cls elay eI n_246 pc (te_246 pc) := te_246_0_ok
theorem ho_247 : (xm_y n_247).cls = "RobotCellHouse" := rfl
def dn_247_0_0 : List (Nat × Instr × Nat) := [(0, .aload_n 0, 1), (1, .iload_n 1, 1), (2, .invokevirtual 103, 3), (5, .ifCond .eq 26, 3), (8, .iload_n 2, 1), (9, .iconst 0, 1), (10, .aload_n 0, 1), (11, .getfield 27, 3), (14, .iload_n 1, 1), (15, .aaload, 1), (16, .getfield 112, 3), (19, .iconst 1, 1), (20, .isub, 1), (21, .invokestatic 82, 3), (24, .ifCond .eq 7, 3), (27, .iconst 1, 1), (28, .goto 4, 3), (31, .iconst 0, 1), (32, .ireturn, 1)]
set_option maxRecDepth 20000 in
theorem dn_247_0_0_ok : dn_247_0_0.all (fun q => decide (decode (xm_b n_247) q.1 = .ok (q.2.1, q.2.2))) = true := xa_g_ok (by decide +kernel)
def te_247_0 : Nat → eE := (e_T 14 (e_T 5 (e_T 1 (e_T 0 (e_L 0 (0, ei_load 0 2 1, 0, 0)) (e_L 1 (0, ei_load 1 0 2, 0, 0))) (e_T 2 (e_L 2 (2, e_nof, 246, 2)) (e_L 5 (0, ei_if1 0 31 8, 0, 0)))) (e_T 9 (e_T 8 (e_L 8 (0, ei_load 2 0 9, 0, 0)) (e_L 9 (0, ei_push (0, 0) 10, 0, 0))) (e_T 10 (e_L 10 (0, ei_load 0 2 11, 0, 0)) (e_T 11 (e_L 11 (0, ei_getf eft elay 11 2 14, 0, 0)) (e_L 14 (0, ei_load 1 0 15, 0, 0)))))) (e_T 21 (e_T 16 (e_T 15 (e_L 15 (0, ei_aald elay 16, 0, 0)) (e_L 16 (0, ei_getf eft elay 0 8 19, 0, 0))) (e_T 19 (e_L 19 (0, ei_push (0, 1) 20, 0, 0)) (e_T 20 (e_L 20 (0, ei_bin eF_sub 21, 0, 0)) (e_L 21 (2, e_nof, 242, 3))))) (e_T 27 (e_T 24 (e_L 24 (0, ei_if1 0 31 27, 0, 0)) (e_L 27 (0, ei_push (0, 1) 28, 0, 0))) (e_T 28 (e_L 28 (0, ei_goto 32, 0, 0)) (e_T 31 (e_L 31 (0, ei_push (0, 0) 32, 0, 0)) (e_L 32 (1, e_nof, 4, 0)))))))
set_option maxRecDepth 20000 in
set_option maxHeartbeats 4000000 in
theorem te_247_0_ok : ∀ pc, e_EOq eft cls elay eI n_247 pc (te_247_0 pc) :=
  (e_Tok2
  (e_Tok2
  (e_Tok2
  (e_Tok2
  (e_Lok (ld_aload_n_0 (x_dk dn_247_0_0_ok 0 rfl)))
  (e_Lok (ld_iload_n_1 (x_dk dn_247_0_0_ok 1 rfl))))
  (e_Tok2
  (e_Lok (lk_11_103 ho_247 (x_dk dn_247_0_0_ok 2 rfl)))
  (e_Lok (e_st (I := eI) (er_ifeq (off := 26) (tg := 31) (x_dk dn_247_0_0_ok 3 rfl) (by decide)) nx_if1))))
  (e_Tok2
  (e_Tok2
  (e_Lok (ld_iload_n_2 (x_dk dn_247_0_0_ok 4 rfl)))
  (e_Lok (ps_iconst_0 (x_dk dn_247_0_0_ok 5 rfl))))
  (e_Tok2
  (e_Lok (ld_aload_n_0 (x_dk dn_247_0_0_ok 6 rfl)))
  (e_Tok2
  (e_Lok (lk_11_27g ho_247 (x_dk dn_247_0_0_ok 7 rfl)))
  (e_Lok (ld_iload_n_1 (x_dk dn_247_0_0_ok 8 rfl)))))))
  (e_Tok2
  (e_Tok2
  (e_Tok2
  (e_Lok (e_st (I := eI) (er_aaload (x_dk dn_247_0_0_ok 9 rfl)) nx_aald))
  (e_Lok (lk_11_112g ho_247 (x_dk dn_247_0_0_ok 10 rfl))))
  (e_Tok2
  (e_Lok (ps_iconst_1 (x_dk dn_247_0_0_ok 11 rfl)))
  (e_Tok2
  (e_Lok (sm_isub (x_dk dn_247_0_0_ok 12 rfl)))
  (e_Lok (lk_11_82 ho_247 (x_dk dn_247_0_0_ok 13 rfl))))))
  (e_Tok2
  (e_Tok2
  (e_Lok (e_st (I := eI) (er_ifeq (off := 7) (tg := 31) (x_dk dn_247_0_0_ok 14 rfl) (by decide)) nx_if1))
  (e_Lok (ps_iconst_1 (x_dk dn_247_0_0_ok 15 rfl))))
  (e_Tok2
  (e_Lok (e_st (I := eI) (er_goto (off := 4) (tg := 32) (x_dk dn_247_0_0_ok 16 rfl) (by decide)) nx_goto))
  (e_Tok2
  (e_Lok (ps_iconst_0 (x_dk dn_247_0_0_ok 17 rfl)))
  (e_Lok (e_rt (I := eI) (k := 4) ⟨(x_dk dn_247_0_0_ok 18 rfl), rfl⟩)))))))
def te_247 : Nat → eE := te_247_0
theorem te_247_ok : ∀ pc, e_EOq eft cls elay eI n_247 pc (te_247 pc) := te_247_0_ok
theorem ho_248 : (xm_y n_248).cls = "RobotCellHouse" := rfl
def dn_248_0_0 : List (Nat × Instr × Nat) := [(0, .iload_n 1, 1), (1, .iconst 0, 1), (2, .aload_n 0, 1), (3, .getfield 37, 3), (6, .getfield 167, 3), (9, .iconst 1, 1), (10, .isub, 1), (11, .invokestatic 82, 3), (14, .ireturn, 1)]
set_option maxRecDepth 20000 in
theorem dn_248_0_0_ok : dn_248_0_0.all (fun q => decide (decode (xm_b n_248) q.1 = .ok (q.2.1, q.2.2))) = true := xa_g_ok (by decide +kernel)
def te_248_0 : Nat → eE := (e_T 3 (e_T 1 (e_T 0 (e_L 0 (0, ei_load 1 0 1, 0, 0)) (e_L 1 (0, ei_push (0, 0) 2, 0, 0))) (e_T 2 (e_L 2 (0, ei_load 0 2 3, 0, 0)) (e_L 3 (0, ei_getf eft elay 11 4 6, 0, 0)))) (e_T 9 (e_T 6 (e_L 6 (0, ei_getf eft elay 4 0 9, 0, 0)) (e_L 9 (0, ei_push (0, 1) 10, 0, 0))) (e_T 10 (e_L 10 (0, ei_bin eF_sub 11, 0, 0)) (e_T 11 (e_L 11 (2, e_nof, 242, 3)) (e_L 14 (1, e_nof, 4, 0))))))
set_option maxRecDepth 20000 in
set_option maxHeartbeats 4000000 in
theorem te_248_0_ok : ∀ pc, e_EOq eft cls elay eI n_248 pc (te_248_0 pc) :=
  (e_Tok2
  (e_Tok2
  (e_Tok2
  (e_Lok (ld_iload_n_1 (x_dk dn_248_0_0_ok 0 rfl)))
  (e_Lok (ps_iconst_0 (x_dk dn_248_0_0_ok 1 rfl))))
  (e_Tok2
  (e_Lok (ld_aload_n_0 (x_dk dn_248_0_0_ok 2 rfl)))
  (e_Lok (lk_11_37g ho_248 (x_dk dn_248_0_0_ok 3 rfl)))))
  (e_Tok2
  (e_Tok2
  (e_Lok (lk_11_167g ho_248 (x_dk dn_248_0_0_ok 4 rfl)))
  (e_Lok (ps_iconst_1 (x_dk dn_248_0_0_ok 5 rfl))))
  (e_Tok2
  (e_Lok (sm_isub (x_dk dn_248_0_0_ok 6 rfl)))
  (e_Tok2
  (e_Lok (lk_11_82 ho_248 (x_dk dn_248_0_0_ok 7 rfl)))
  (e_Lok (e_rt (I := eI) (k := 4) ⟨(x_dk dn_248_0_0_ok 8 rfl), rfl⟩))))))
def te_248 : Nat → eE := te_248_0
theorem te_248_ok : ∀ pc, e_EOq eft cls elay eI n_248 pc (te_248 pc) := te_248_0_ok
theorem ho_250 : (xm_y n_250).cls = "RobotCellHouse" := rfl
def dn_250_0_0 : List (Nat × Instr × Nat) := [(0, .iload_n 0, 1), (1, .sipush 1024, 3), (4, .iadd, 1), (5, .invokestatic 410, 3), (8, .ireturn, 1)]
set_option maxRecDepth 20000 in
theorem dn_250_0_0_ok : dn_250_0_0.all (fun q => decide (decode (xm_b n_250) q.1 = .ok (q.2.1, q.2.2))) = true := xa_g_ok (by decide +kernel)
def te_250_0 : Nat → eE := (e_T 1 (e_T 0 (e_L 0 (0, ei_load 0 0 1, 0, 0)) (e_L 1 (0, ei_push (0, 1024) 4, 0, 0))) (e_T 4 (e_L 4 (0, ei_bin eF_add 5, 0, 0)) (e_T 5 (e_L 5 (2, e_nof, 249, 1)) (e_L 8 (1, e_nof, 1, 0)))))
set_option maxRecDepth 20000 in
set_option maxHeartbeats 4000000 in
theorem te_250_0_ok : ∀ pc, e_EOq eft cls elay eI n_250 pc (te_250_0 pc) :=
  (e_Tok2
  (e_Tok2
  (e_Lok (ld_iload_n_0 (x_dk dn_250_0_0_ok 0 rfl)))
  (e_Lok (ps_sipush_1024 (x_dk dn_250_0_0_ok 1 rfl))))
  (e_Tok2
  (e_Lok (sm_iadd (x_dk dn_250_0_0_ok 2 rfl)))
  (e_Tok2
  (e_Lok (lk_11_410 ho_250 (x_dk dn_250_0_0_ok 3 rfl)))
  (e_Lok (e_rt (I := eI) (k := 1) ⟨(x_dk dn_250_0_0_ok 4 rfl), rfl⟩)))))
def te_250 : Nat → eE := te_250_0
theorem te_250_ok : ∀ pc, e_EOq eft cls elay eI n_250 pc (te_250 pc) := te_250_0_ok
theorem ho_251 : (xm_y n_251).cls = "RobotCellHouse" := rfl
def dn_251_0_0 : List (Nat × Instr × Nat) := [(0, .aload_n 0, 1), (1, .iconst 0, 1), (2, .putfield 94, 3), (5, .aload_n 0, 1), (6, .iconst 0, 1), (7, .putfield 246, 3), (10, .aload_n 0, 1), (11, .iconst 0, 1), (12, .putfield 91, 3), (15, .iconst 0, 1), (16, .istore_n 1, 1), (17, .iload_n 1, 1), (18, .iconst 4, 1), (19, .if_icmp .ge 22, 3), (22, .aload_n 0, 1), (23, .getfield 27, 3), (26, .iload_n 1, 1), (27, .aaload, 1), (28, .iconst 0, 1), (29, .iconst 0, 1), (30, .iconst 0, 1), (31, .iconst 0, 1), (32, .invokevirtual 97, 3), (35, .iinc 1 1, 3), (38, .goto (-21), 3)]
set_option maxRecDepth 20000 in
theorem dn_251_0_0_ok : dn_251_0_0.all (fun q => decide (decode (xm_b n_251) q.1 = .ok (q.2.1, q.2.2))) = true := xa_g_ok (by decide +kernel)
def dn_251_0_1 : List (Nat × Instr × Nat) := [(41, .aload_n 0, 1), (42, .getfield 46, 3), (45, .iconst 0, 1), (46, .putfield 149, 3), (49, .aload_n 0, 1), (50, .getfield 46, 3), (53, .iconst 0, 1), (54, .putfield 198, 3), (57, .aload_n 0, 1), (58, .getfield 32, 3), (61, .invokevirtual 413, 3), (64, .aload_n 0, 1), (65, .getfield 37, 3), (68, .iconst 0, 1), (69, .putfield 167, 3), (72, .aload_n 0, 1), (73, .getfield 37, 3), (76, .iconst 0, 1), (77, .putfield 371, 3), (80, .aload_n 0, 1), (81, .getfield 42, 3), (84, .invokevirtual 414, 3), (87, .aload_n 0, 1), (88, .getfield 53, 3), (91, .iconst 0, 1)]
set_option maxRecDepth 20000 in
theorem dn_251_0_1_ok : dn_251_0_1.all (fun q => decide (decode (xm_b n_251) q.1 = .ok (q.2.1, q.2.2))) = true := xa_g_ok (by decide +kernel)
def dn_251_0_2 : List (Nat × Instr × Nat) := [(92, .putfield 293, 3), (95, .aload_n 0, 1), (96, .getfield 64, 3), (99, .iconst 0, 1), (100, .invokestatic 415, 3), (103, .aload_n 0, 1), (104, .invokevirtual 249, 3), (107, .return_, 1)]
set_option maxRecDepth 20000 in
theorem dn_251_0_2_ok : dn_251_0_2.all (fun q => decide (decode (xm_b n_251) q.1 = .ok (q.2.1, q.2.2))) = true := xa_g_ok (by decide +kernel)
def te_251_0 : Nat → eE := (e_T 19 (e_T 10 (e_T 2 (e_T 0 (e_L 0 (0, ei_load 0 2 1, 0, 0)) (e_T 1 (e_L 1 (0, ei_push (0, 0) 2, 0, 0)) (e_L 2 (0, ei_putf eft elay 11 11 0 5, 0, 0)))) (e_T 6 (e_T 5 (e_L 5 (0, ei_load 0 2 6, 0, 0)) (e_L 6 (0, ei_push (0, 0) 7, 0, 0))) (e_T 7 (e_L 7 (0, ei_putf eft elay 11 12 0 10, 0, 0)) (e_L 10 (0, ei_load 0 2 11, 0, 0))))) (e_T 15 (e_T 11 (e_L 11 (0, ei_push (0, 0) 12, 0, 0)) (e_T 12 (e_L 12 (0, ei_putf eft elay 11 13 1 15, 0, 0)) (e_L 15 (0, ei_push (0, 0) 16, 0, 0)))) (e_T 17 (e_T 16 (e_L 16 (0, ei_stor 1 0 17, 0, 0)) (e_L 17 (0, ei_load 1 0 18, 0, 0))) (e_T 18 (e_L 18 (0, ei_push (0, 4) 19, 0, 0)) (e_L 19 (0, ei_if2 3 41 22, 0, 0)))))) (e_T 30 (e_T 26 (e_T 22 (e_L 22 (0, ei_load 0 2 23, 0, 0)) (e_T 23 (e_L 23 (0, ei_getf eft elay 11 2 26, 0, 0)) (e_L 26 (0, ei_load 1 0 27, 0, 0)))) (e_T 28 (e_T 27 (e_L 27 (0, ei_aald elay 28, 0, 0)) (e_L 28 (0, ei_push (0, 0) 29, 0, 0))) (e_T 29 (e_L 29 (0, ei_push (0, 0) 30, 0, 0)) (e_L 30 (0, ei_push (0, 0) 31, 0, 0))))) (e_T 38 (e_T 32 (e_T 31 (e_L 31 (0, ei_push (0, 0) 32, 0, 0)) (e_L 32 (2, e_nof, 1, 5))) (e_T 35 (e_L 35 (0, ei_inc 1 1 38, 0, 0)) (e_L 38 (0, ei_goto 17, 0, 0)))) (e_T 42 (e_T 41 (e_L 41 (0, ei_load 0 2 42, 0, 0)) (e_L 42 (0, ei_getf eft elay 11 6 45, 0, 0))) (e_T 45 (e_L 45 (0, ei_push (0, 0) 46, 0, 0)) (e_L 46 (0, ei_putf eft elay 9 0 0 49, 0, 0)))))))
set_option maxRecDepth 20000 in
set_option maxHeartbeats 4000000 in
theorem te_251_0_ok : ∀ pc, e_EOq eft cls elay eI n_251 pc (te_251_0 pc) :=
  (e_Tok2
  (e_Tok2
  (e_Tok2
  (e_Tok2
  (e_Lok (ld_aload_n_0 (x_dk dn_251_0_0_ok 0 rfl)))
  (e_Tok2
  (e_Lok (ps_iconst_0 (x_dk dn_251_0_0_ok 1 rfl)))
  (e_Lok (lk_11_94p ho_251 (x_dk dn_251_0_0_ok 2 rfl)))))
  (e_Tok2
  (e_Tok2
  (e_Lok (ld_aload_n_0 (x_dk dn_251_0_0_ok 3 rfl)))
  (e_Lok (ps_iconst_0 (x_dk dn_251_0_0_ok 4 rfl))))
  (e_Tok2
  (e_Lok (lk_11_246p ho_251 (x_dk dn_251_0_0_ok 5 rfl)))
  (e_Lok (ld_aload_n_0 (x_dk dn_251_0_0_ok 6 rfl))))))
  (e_Tok2
  (e_Tok2
  (e_Lok (ps_iconst_0 (x_dk dn_251_0_0_ok 7 rfl)))
  (e_Tok2
  (e_Lok (lk_11_91p ho_251 (x_dk dn_251_0_0_ok 8 rfl)))
  (e_Lok (ps_iconst_0 (x_dk dn_251_0_0_ok 9 rfl)))))
  (e_Tok2
  (e_Tok2
  (e_Lok (e_st (I := eI) (er_istore_n (i := 1) (x_dk dn_251_0_0_ok 10 rfl) (by decide +kernel)) nx_stor))
  (e_Lok (ld_iload_n_1 (x_dk dn_251_0_0_ok 11 rfl))))
  (e_Tok2
  (e_Lok (ps_iconst_4 (x_dk dn_251_0_0_ok 12 rfl)))
  (e_Lok (e_st (I := eI) (er_icmpge (off := 22) (tg := 41) (x_dk dn_251_0_0_ok 13 rfl) (by decide)) nx_if2))))))
  (e_Tok2
  (e_Tok2
  (e_Tok2
  (e_Lok (ld_aload_n_0 (x_dk dn_251_0_0_ok 14 rfl)))
  (e_Tok2
  (e_Lok (lk_11_27g ho_251 (x_dk dn_251_0_0_ok 15 rfl)))
  (e_Lok (ld_iload_n_1 (x_dk dn_251_0_0_ok 16 rfl)))))
  (e_Tok2
  (e_Tok2
  (e_Lok (e_st (I := eI) (er_aaload (x_dk dn_251_0_0_ok 17 rfl)) nx_aald))
  (e_Lok (ps_iconst_0 (x_dk dn_251_0_0_ok 18 rfl))))
  (e_Tok2
  (e_Lok (ps_iconst_0 (x_dk dn_251_0_0_ok 19 rfl)))
  (e_Lok (ps_iconst_0 (x_dk dn_251_0_0_ok 20 rfl))))))
  (e_Tok2
  (e_Tok2
  (e_Tok2
  (e_Lok (ps_iconst_0 (x_dk dn_251_0_0_ok 21 rfl)))
  (e_Lok (lk_11_97 ho_251 (x_dk dn_251_0_0_ok 22 rfl))))
  (e_Tok2
  (e_Lok (e_st (I := eI) (er_iinc (i := 1) (n := 1) (x_dk dn_251_0_0_ok 23 rfl) (by decide +kernel) (by decide)) nx_inc))
  (e_Lok (e_st (I := eI) (er_goto (off := (-21)) (tg := 17) (x_dk dn_251_0_0_ok 24 rfl) (by decide)) nx_goto))))
  (e_Tok2
  (e_Tok2
  (e_Lok (ld_aload_n_0 (x_dk dn_251_0_1_ok 0 rfl)))
  (e_Lok (lk_11_46g ho_251 (x_dk dn_251_0_1_ok 1 rfl))))
  (e_Tok2
  (e_Lok (ps_iconst_0 (x_dk dn_251_0_1_ok 2 rfl)))
  (e_Lok (lk_11_149p ho_251 (x_dk dn_251_0_1_ok 3 rfl))))))))
def te_251_29 : Nat → eE := (e_T 76 (e_T 61 (e_T 53 (e_T 49 (e_L 49 (0, ei_load 0 2 50, 0, 0)) (e_T 50 (e_L 50 (0, ei_getf eft elay 11 6 53, 0, 0)) (e_L 53 (0, ei_push (0, 0) 54, 0, 0)))) (e_T 57 (e_T 54 (e_L 54 (0, ei_putf eft elay 9 1 0 57, 0, 0)) (e_L 57 (0, ei_load 0 2 58, 0, 0))) (e_T 58 (e_L 58 (0, ei_getf eft elay 11 3 61, 0, 0)) (e_L 61 (2, e_nof, 109, 1))))) (e_T 68 (e_T 64 (e_L 64 (0, ei_load 0 2 65, 0, 0)) (e_T 65 (e_L 65 (0, ei_getf eft elay 11 4 68, 0, 0)) (e_L 68 (0, ei_push (0, 0) 69, 0, 0)))) (e_T 72 (e_T 69 (e_L 69 (0, ei_putf eft elay 4 0 0 72, 0, 0)) (e_L 72 (0, ei_load 0 2 73, 0, 0))) (e_T 73 (e_L 73 (0, ei_getf eft elay 11 4 76, 0, 0)) (e_L 76 (0, ei_push (0, 0) 77, 0, 0)))))) (e_T 91 (e_T 81 (e_T 77 (e_L 77 (0, ei_putf eft elay 4 1 0 80, 0, 0)) (e_T 80 (e_L 80 (0, ei_load 0 2 81, 0, 0)) (e_L 81 (0, ei_getf eft elay 11 5 84, 0, 0)))) (e_T 87 (e_T 84 (e_L 84 (2, e_nof, 25, 1)) (e_L 87 (0, ei_load 0 2 88, 0, 0))) (e_T 88 (e_L 88 (0, ei_getf eft elay 11 7 91, 0, 0)) (e_L 91 (0, ei_push (0, 0) 92, 0, 0))))) (e_T 99 (e_T 95 (e_T 92 (e_L 92 (0, ei_putf eft elay 6 0 0 95, 0, 0)) (e_L 95 (0, ei_load 0 2 96, 0, 0))) (e_T 96 (e_L 96 (0, ei_getf eft elay 11 10 99, 0, 0)) (e_L 99 (0, ei_push (0, 0) 100, 0, 0)))) (e_T 103 (e_T 100 (e_L 100 (2, e_nof, 452, 2)) (e_L 103 (0, ei_load 0 2 104, 0, 0))) (e_T 104 (e_L 104 (2, e_nof, 252, 1)) (e_L 107 (1, e_nof, 0, 0)))))))
set_option maxRecDepth 20000 in
set_option maxHeartbeats 4000000 in
theorem te_251_29_ok : ∀ pc, e_EOq eft cls elay eI n_251 pc (te_251_29 pc) :=
  (e_Tok2
  (e_Tok2
  (e_Tok2
  (e_Tok2
  (e_Lok (ld_aload_n_0 (x_dk dn_251_0_1_ok 4 rfl)))
  (e_Tok2
  (e_Lok (lk_11_46g ho_251 (x_dk dn_251_0_1_ok 5 rfl)))
  (e_Lok (ps_iconst_0 (x_dk dn_251_0_1_ok 6 rfl)))))
  (e_Tok2
  (e_Tok2
  (e_Lok (lk_11_198p ho_251 (x_dk dn_251_0_1_ok 7 rfl)))
  (e_Lok (ld_aload_n_0 (x_dk dn_251_0_1_ok 8 rfl))))
  (e_Tok2
  (e_Lok (lk_11_32g ho_251 (x_dk dn_251_0_1_ok 9 rfl)))
  (e_Lok (lk_11_413 ho_251 (x_dk dn_251_0_1_ok 10 rfl))))))
  (e_Tok2
  (e_Tok2
  (e_Lok (ld_aload_n_0 (x_dk dn_251_0_1_ok 11 rfl)))
  (e_Tok2
  (e_Lok (lk_11_37g ho_251 (x_dk dn_251_0_1_ok 12 rfl)))
  (e_Lok (ps_iconst_0 (x_dk dn_251_0_1_ok 13 rfl)))))
  (e_Tok2
  (e_Tok2
  (e_Lok (lk_11_167p ho_251 (x_dk dn_251_0_1_ok 14 rfl)))
  (e_Lok (ld_aload_n_0 (x_dk dn_251_0_1_ok 15 rfl))))
  (e_Tok2
  (e_Lok (lk_11_37g ho_251 (x_dk dn_251_0_1_ok 16 rfl)))
  (e_Lok (ps_iconst_0 (x_dk dn_251_0_1_ok 17 rfl)))))))
  (e_Tok2
  (e_Tok2
  (e_Tok2
  (e_Lok (lk_11_371p ho_251 (x_dk dn_251_0_1_ok 18 rfl)))
  (e_Tok2
  (e_Lok (ld_aload_n_0 (x_dk dn_251_0_1_ok 19 rfl)))
  (e_Lok (lk_11_42g ho_251 (x_dk dn_251_0_1_ok 20 rfl)))))
  (e_Tok2
  (e_Tok2
  (e_Lok (lk_11_414 ho_251 (x_dk dn_251_0_1_ok 21 rfl)))
  (e_Lok (ld_aload_n_0 (x_dk dn_251_0_1_ok 22 rfl))))
  (e_Tok2
  (e_Lok (lk_11_53g ho_251 (x_dk dn_251_0_1_ok 23 rfl)))
  (e_Lok (ps_iconst_0 (x_dk dn_251_0_1_ok 24 rfl))))))
  (e_Tok2
  (e_Tok2
  (e_Tok2
  (e_Lok (lk_11_293p ho_251 (x_dk dn_251_0_2_ok 0 rfl)))
  (e_Lok (ld_aload_n_0 (x_dk dn_251_0_2_ok 1 rfl))))
  (e_Tok2
  (e_Lok (lk_11_64g ho_251 (x_dk dn_251_0_2_ok 2 rfl)))
  (e_Lok (ps_iconst_0 (x_dk dn_251_0_2_ok 3 rfl)))))
  (e_Tok2
  (e_Tok2
  (e_Lok (lk_11_415 ho_251 (x_dk dn_251_0_2_ok 4 rfl)))
  (e_Lok (ld_aload_n_0 (x_dk dn_251_0_2_ok 5 rfl))))
  (e_Tok2
  (e_Lok (lk_11_249 ho_251 (x_dk dn_251_0_2_ok 6 rfl)))
  (e_Lok (e_rt (I := eI) (k := 0) ⟨(x_dk dn_251_0_2_ok 7 rfl), rfl⟩)))))))
def te_251 : Nat → eE := (e_T 46 te_251_0 te_251_29)
theorem te_251_ok : ∀ pc, e_EOq eft cls elay eI n_251 pc (te_251 pc) := (e_Tok2 (te_251_0_ok) (te_251_29_ok))
theorem ho_252 : (xm_y n_252).cls = "RobotCellHouse" := rfl
def dn_252_0_0 : List (Nat × Instr × Nat) := [(0, .iconst 0, 1), (1, .istore_n 1, 1), (2, .iload_n 1, 1), (3, .iconst 4, 1), (4, .if_icmp .ge 18, 3), (7, .aload_n 0, 1), (8, .getfield 27, 3), (11, .iload_n 1, 1), (12, .aaload, 1), (13, .invokevirtual 421, 3), (16, .iinc 1 1, 3), (19, .goto (-17), 3), (22, .aload_n 0, 1), (23, .getfield 32, 3), (26, .invokevirtual 422, 3), (29, .aload_n 0, 1), (30, .getfield 37, 3), (33, .invokevirtual 423, 3), (36, .aload_n 0, 1), (37, .getfield 42, 3), (40, .invokevirtual 424, 3), (43, .aload_n 0, 1), (44, .getfield 19, 3), (47, .invokevirtual 425, 3), (50, .aload_n 0, 1)]
set_option maxRecDepth 20000 in
theorem dn_252_0_0_ok : dn_252_0_0.all (fun q => decide (decode (xm_b n_252) q.1 = .ok (q.2.1, q.2.2))) = true := xa_g_ok (by decide +kernel)
def dn_252_0_1 : List (Nat × Instr × Nat) := [(51, .getfield 57, 3), (54, .iconst 0, 1), (55, .invokestatic 415, 3), (58, .return_, 1)]
set_option maxRecDepth 20000 in
theorem dn_252_0_1_ok : dn_252_0_1.all (fun q => decide (decode (xm_b n_252) q.1 = .ok (q.2.1, q.2.2))) = true := xa_g_ok (by decide +kernel)
def te_252_0 : Nat → eE := (e_T 23 (e_T 8 (e_T 2 (e_T 0 (e_L 0 (0, ei_push (0, 0) 1, 0, 0)) (e_T 1 (e_L 1 (0, ei_stor 1 0 2, 0, 0)) (e_L 2 (0, ei_load 1 0 3, 0, 0)))) (e_T 4 (e_T 3 (e_L 3 (0, ei_push (0, 4) 4, 0, 0)) (e_L 4 (0, ei_if2 3 22 7, 0, 0))) (e_T 7 (e_L 7 (0, ei_load 0 2 8, 0, 0)) (e_L 8 (0, ei_getf eft elay 11 2 11, 0, 0))))) (e_T 13 (e_T 11 (e_L 11 (0, ei_load 1 0 12, 0, 0)) (e_T 12 (e_L 12 (0, ei_aald elay 13, 0, 0)) (e_L 13 (2, e_nof, 3, 1)))) (e_T 19 (e_T 16 (e_L 16 (0, ei_inc 1 1 19, 0, 0)) (e_L 19 (0, ei_goto 2, 0, 0))) (e_T 22 (e_L 22 (0, ei_load 0 2 23, 0, 0)) (e_L 23 (0, ei_getf eft elay 11 3 26, 0, 0)))))) (e_T 40 (e_T 30 (e_T 26 (e_L 26 (2, e_nof, 110, 1)) (e_T 29 (e_L 29 (0, ei_load 0 2 30, 0, 0)) (e_L 30 (0, ei_getf eft elay 11 4 33, 0, 0)))) (e_T 36 (e_T 33 (e_L 33 (2, e_nof, 77, 1)) (e_L 36 (0, ei_load 0 2 37, 0, 0))) (e_T 37 (e_L 37 (0, ei_getf eft elay 11 5 40, 0, 0)) (e_L 40 (2, e_nof, 26, 1))))) (e_T 50 (e_T 44 (e_T 43 (e_L 43 (0, ei_load 0 2 44, 0, 0)) (e_L 44 (0, ei_getf eft elay 11 1 47, 0, 0))) (e_T 47 (e_L 47 (2, e_nof, 35, 1)) (e_L 50 (0, ei_load 0 2 51, 0, 0)))) (e_T 54 (e_T 51 (e_L 51 (0, ei_getf eft elay 11 8 54, 0, 0)) (e_L 54 (0, ei_push (0, 0) 55, 0, 0))) (e_T 55 (e_L 55 (2, e_nof, 452, 2)) (e_L 58 (1, e_nof, 0, 0)))))))
set_option maxRecDepth 20000 in
set_option maxHeartbeats 4000000 in
theorem te_252_0_ok : ∀ pc, e_EOq eft cls elay eI n_252 pc (te_252_0 pc) :=
  (e_Tok2
  (e_Tok2
  (e_Tok2
  (e_Tok2
  (e_Lok (ps_iconst_0 (x_dk dn_252_0_0_ok 0 rfl)))
  (e_Tok2
  (e_Lok (e_st (I := eI) (er_istore_n (i := 1) (x_dk dn_252_0_0_ok 1 rfl) (by decide +kernel)) nx_stor))
  (e_Lok (ld_iload_n_1 (x_dk dn_252_0_0_ok 2 rfl)))))
  (e_Tok2
  (e_Tok2
  (e_Lok (ps_iconst_4 (x_dk dn_252_0_0_ok 3 rfl)))
  (e_Lok (e_st (I := eI) (er_icmpge (off := 18) (tg := 22) (x_dk dn_252_0_0_ok 4 rfl) (by decide)) nx_if2)))
  (e_Tok2
  (e_Lok (ld_aload_n_0 (x_dk dn_252_0_0_ok 5 rfl)))
  (e_Lok (lk_11_27g ho_252 (x_dk dn_252_0_0_ok 6 rfl))))))
  (e_Tok2
  (e_Tok2
  (e_Lok (ld_iload_n_1 (x_dk dn_252_0_0_ok 7 rfl)))
  (e_Tok2
  (e_Lok (e_st (I := eI) (er_aaload (x_dk dn_252_0_0_ok 8 rfl)) nx_aald))
  (e_Lok (lk_11_421 ho_252 (x_dk dn_252_0_0_ok 9 rfl)))))
  (e_Tok2
  (e_Tok2
  (e_Lok (e_st (I := eI) (er_iinc (i := 1) (n := 1) (x_dk dn_252_0_0_ok 10 rfl) (by decide +kernel) (by decide)) nx_inc))
  (e_Lok (e_st (I := eI) (er_goto (off := (-17)) (tg := 2) (x_dk dn_252_0_0_ok 11 rfl) (by decide)) nx_goto)))
  (e_Tok2
  (e_Lok (ld_aload_n_0 (x_dk dn_252_0_0_ok 12 rfl)))
  (e_Lok (lk_11_32g ho_252 (x_dk dn_252_0_0_ok 13 rfl)))))))
  (e_Tok2
  (e_Tok2
  (e_Tok2
  (e_Lok (lk_11_422 ho_252 (x_dk dn_252_0_0_ok 14 rfl)))
  (e_Tok2
  (e_Lok (ld_aload_n_0 (x_dk dn_252_0_0_ok 15 rfl)))
  (e_Lok (lk_11_37g ho_252 (x_dk dn_252_0_0_ok 16 rfl)))))
  (e_Tok2
  (e_Tok2
  (e_Lok (lk_11_423 ho_252 (x_dk dn_252_0_0_ok 17 rfl)))
  (e_Lok (ld_aload_n_0 (x_dk dn_252_0_0_ok 18 rfl))))
  (e_Tok2
  (e_Lok (lk_11_42g ho_252 (x_dk dn_252_0_0_ok 19 rfl)))
  (e_Lok (lk_11_424 ho_252 (x_dk dn_252_0_0_ok 20 rfl))))))
  (e_Tok2
  (e_Tok2
  (e_Tok2
  (e_Lok (ld_aload_n_0 (x_dk dn_252_0_0_ok 21 rfl)))
  (e_Lok (lk_11_19g ho_252 (x_dk dn_252_0_0_ok 22 rfl))))
  (e_Tok2
  (e_Lok (lk_11_425 ho_252 (x_dk dn_252_0_0_ok 23 rfl)))
  (e_Lok (ld_aload_n_0 (x_dk dn_252_0_0_ok 24 rfl)))))
  (e_Tok2
  (e_Tok2
  (e_Lok (lk_11_57g ho_252 (x_dk dn_252_0_1_ok 0 rfl)))
  (e_Lok (ps_iconst_0 (x_dk dn_252_0_1_ok 1 rfl))))
  (e_Tok2
  (e_Lok (lk_11_415 ho_252 (x_dk dn_252_0_1_ok 2 rfl)))
  (e_Lok (e_rt (I := eI) (k := 0) ⟨(x_dk dn_252_0_1_ok 3 rfl), rfl⟩)))))))
def te_252 : Nat → eE := te_252_0
theorem te_252_ok : ∀ pc, e_EOq eft cls elay eI n_252 pc (te_252 pc) := te_252_0_ok
theorem ho_253 : (xm_y n_253).cls = "RobotCellHouse" := rfl
def dn_253_0_0 : List (Nat × Instr × Nat) := [(0, .aload_n 0, 1), (1, .getfield 246, 3), (4, .sipush 2000, 3), (7, .if_icmp .ge 7, 3), (10, .iconst 1, 1), (11, .goto 4, 3), (14, .iconst 0, 1), (15, .ireturn, 1)]
set_option maxRecDepth 20000 in
theorem dn_253_0_0_ok : dn_253_0_0.all (fun q => decide (decode (xm_b n_253) q.1 = .ok (q.2.1, q.2.2))) = true := xa_g_ok (by decide +kernel)
def te_253_0 : Nat → eE := (e_T 7 (e_T 1 (e_T 0 (e_L 0 (0, ei_load 0 2 1, 0, 0)) (e_L 1 (0, ei_getf eft elay 11 12 4, 0, 0))) (e_T 4 (e_L 4 (0, ei_push (0, 2000) 7, 0, 0)) (e_L 7 (0, ei_if2 3 14 10, 0, 0)))) (e_T 11 (e_T 10 (e_L 10 (0, ei_push (0, 1) 11, 0, 0)) (e_L 11 (0, ei_goto 15, 0, 0))) (e_T 14 (e_L 14 (0, ei_push (0, 0) 15, 0, 0)) (e_L 15 (1, e_nof, 4, 0)))))
set_option maxRecDepth 20000 in
set_option maxHeartbeats 4000000 in
theorem te_253_0_ok : ∀ pc, e_EOq eft cls elay eI n_253 pc (te_253_0 pc) :=
  (e_Tok2
  (e_Tok2
  (e_Tok2
  (e_Lok (ld_aload_n_0 (x_dk dn_253_0_0_ok 0 rfl)))
  (e_Lok (lk_11_246g ho_253 (x_dk dn_253_0_0_ok 1 rfl))))
  (e_Tok2
  (e_Lok (ps_sipush_2000 (x_dk dn_253_0_0_ok 2 rfl)))
  (e_Lok (e_st (I := eI) (er_icmpge (off := 7) (tg := 14) (x_dk dn_253_0_0_ok 3 rfl) (by decide)) nx_if2))))
  (e_Tok2
  (e_Tok2
  (e_Lok (ps_iconst_1 (x_dk dn_253_0_0_ok 4 rfl)))
  (e_Lok (e_st (I := eI) (er_goto (off := 4) (tg := 15) (x_dk dn_253_0_0_ok 5 rfl) (by decide)) nx_goto)))
  (e_Tok2
  (e_Lok (ps_iconst_0 (x_dk dn_253_0_0_ok 6 rfl)))
  (e_Lok (e_rt (I := eI) (k := 4) ⟨(x_dk dn_253_0_0_ok 7 rfl), rfl⟩)))))
def te_253 : Nat → eE := te_253_0
theorem te_253_ok : ∀ pc, e_EOq eft cls elay eI n_253 pc (te_253 pc) := te_253_0_ok
theorem ho_254 : (xm_y n_254).cls = "RobotCellHouse" := rfl
def dn_254_0_0 : List (Nat × Instr × Nat) := [(0, .aload_n 0, 1), (1, .getfield 246, 3), (4, .iconst 4, 1), (5, .imul, 1), (6, .istore 5, 2), (8, .aload_n 0, 1), (9, .getfield 61, 3), (12, .iload 5, 2), (14, .iload_n 1, 1), (15, .iastore, 1), (16, .aload_n 0, 1), (17, .getfield 61, 3), (20, .iload 5, 2), (22, .iconst 1, 1), (23, .iadd, 1), (24, .iload_n 2, 1), (25, .iastore, 1), (26, .aload_n 0, 1), (27, .getfield 61, 3), (30, .iload 5, 2), (32, .iconst 2, 1), (33, .iadd, 1), (34, .iload_n 3, 1), (35, .iastore, 1), (36, .aload_n 0, 1)]
set_option maxRecDepth 20000 in
theorem dn_254_0_0_ok : dn_254_0_0.all (fun q => decide (decode (xm_b n_254) q.1 = .ok (q.2.1, q.2.2))) = true := xa_g_ok (by decide +kernel)
def dn_254_0_1 : List (Nat × Instr × Nat) := [(37, .getfield 61, 3), (40, .iload 5, 2), (42, .iconst 3, 1), (43, .iadd, 1), (44, .iload 4, 2), (46, .iastore, 1), (47, .aload_n 0, 1), (48, .dup, 1), (49, .getfield 246, 3), (52, .iconst 1, 1), (53, .iadd, 1), (54, .putfield 246, 3), (57, .return_, 1)]
set_option maxRecDepth 20000 in
theorem dn_254_0_1_ok : dn_254_0_1.all (fun q => decide (decode (xm_b n_254) q.1 = .ok (q.2.1, q.2.2))) = true := xa_g_ok (by decide +kernel)
def te_254_0 : Nat → eE := (e_T 27 (e_T 14 (e_T 5 (e_T 1 (e_T 0 (e_L 0 (0, ei_load 0 2 1, 0, 0)) (e_L 1 (0, ei_getf eft elay 11 12 4, 0, 0))) (e_T 4 (e_L 4 (0, ei_push (0, 4) 5, 0, 0)) (e_L 5 (0, ei_bin eF_mul 6, 0, 0)))) (e_T 8 (e_T 6 (e_L 6 (0, ei_stor 5 0 8, 0, 0)) (e_L 8 (0, ei_load 0 2 9, 0, 0))) (e_T 9 (e_L 9 (0, ei_getf eft elay 11 9 12, 0, 0)) (e_T 12 (e_L 12 (0, ei_load 5 0 14, 0, 0)) (e_L 14 (0, ei_load 1 0 15, 0, 0)))))) (e_T 22 (e_T 16 (e_T 15 (e_L 15 (0, ei_ast elay false 16, 0, 0)) (e_L 16 (0, ei_load 0 2 17, 0, 0))) (e_T 17 (e_L 17 (0, ei_getf eft elay 11 9 20, 0, 0)) (e_T 20 (e_L 20 (0, ei_load 5 0 22, 0, 0)) (e_L 22 (0, ei_push (0, 1) 23, 0, 0))))) (e_T 24 (e_T 23 (e_L 23 (0, ei_bin eF_add 24, 0, 0)) (e_L 24 (0, ei_load 2 0 25, 0, 0))) (e_T 25 (e_L 25 (0, ei_ast elay false 26, 0, 0)) (e_T 26 (e_L 26 (0, ei_load 0 2 27, 0, 0)) (e_L 27 (0, ei_getf eft elay 11 9 30, 0, 0))))))) (e_T 42 (e_T 34 (e_T 32 (e_T 30 (e_L 30 (0, ei_load 5 0 32, 0, 0)) (e_L 32 (0, ei_push (0, 2) 33, 0, 0))) (e_T 33 (e_L 33 (0, ei_bin eF_add 34, 0, 0)) (e_L 34 (0, ei_load 3 0 35, 0, 0)))) (e_T 36 (e_T 35 (e_L 35 (0, ei_ast elay false 36, 0, 0)) (e_L 36 (0, ei_load 0 2 37, 0, 0))) (e_T 37 (e_L 37 (0, ei_getf eft elay 11 9 40, 0, 0)) (e_T 40 (e_L 40 (0, ei_load 5 0 42, 0, 0)) (e_L 42 (0, ei_push (0, 3) 43, 0, 0)))))) (e_T 48 (e_T 44 (e_T 43 (e_L 43 (0, ei_bin eF_add 44, 0, 0)) (e_L 44 (0, ei_load 4 0 46, 0, 0))) (e_T 46 (e_L 46 (0, ei_ast elay false 47, 0, 0)) (e_T 47 (e_L 47 (0, ei_load 0 2 48, 0, 0)) (e_L 48 (0, ei_stk ef_dup 49, 0, 0))))) (e_T 52 (e_T 49 (e_L 49 (0, ei_getf eft elay 11 12 52, 0, 0)) (e_L 52 (0, ei_push (0, 1) 53, 0, 0))) (e_T 53 (e_L 53 (0, ei_bin eF_add 54, 0, 0)) (e_T 54 (e_L 54 (0, ei_putf eft elay 11 12 0 57, 0, 0)) (e_L 57 (1, e_nof, 0, 0))))))))
set_option maxRecDepth 20000 in
set_option maxHeartbeats 4000000 in
theorem te_254_0_ok : ∀ pc, e_EOq eft cls elay eI n_254 pc (te_254_0 pc) :=
  (e_Tok2
  (e_Tok2
  (e_Tok2
  (e_Tok2
  (e_Tok2
  (e_Lok (ld_aload_n_0 (x_dk dn_254_0_0_ok 0 rfl)))
  (e_Lok (lk_11_246g ho_254 (x_dk dn_254_0_0_ok 1 rfl))))
  (e_Tok2
  (e_Lok (ps_iconst_4 (x_dk dn_254_0_0_ok 2 rfl)))
  (e_Lok (sm_imul (x_dk dn_254_0_0_ok 3 rfl)))))
  (e_Tok2
  (e_Tok2
  (e_Lok (e_st (I := eI) (er_istore (i := 5) (x_dk dn_254_0_0_ok 4 rfl) (by decide +kernel)) nx_stor))
  (e_Lok (ld_aload_n_0 (x_dk dn_254_0_0_ok 5 rfl))))
  (e_Tok2
  (e_Lok (lk_11_61g ho_254 (x_dk dn_254_0_0_ok 6 rfl)))
  (e_Tok2
  (e_Lok (ld_iload_5 (x_dk dn_254_0_0_ok 7 rfl)))
  (e_Lok (ld_iload_n_1 (x_dk dn_254_0_0_ok 8 rfl)))))))
  (e_Tok2
  (e_Tok2
  (e_Tok2
  (e_Lok (sm_iastore (x_dk dn_254_0_0_ok 9 rfl)))
  (e_Lok (ld_aload_n_0 (x_dk dn_254_0_0_ok 10 rfl))))
  (e_Tok2
  (e_Lok (lk_11_61g ho_254 (x_dk dn_254_0_0_ok 11 rfl)))
  (e_Tok2
  (e_Lok (ld_iload_5 (x_dk dn_254_0_0_ok 12 rfl)))
  (e_Lok (ps_iconst_1 (x_dk dn_254_0_0_ok 13 rfl))))))
  (e_Tok2
  (e_Tok2
  (e_Lok (sm_iadd (x_dk dn_254_0_0_ok 14 rfl)))
  (e_Lok (ld_iload_n_2 (x_dk dn_254_0_0_ok 15 rfl))))
  (e_Tok2
  (e_Lok (sm_iastore (x_dk dn_254_0_0_ok 16 rfl)))
  (e_Tok2
  (e_Lok (ld_aload_n_0 (x_dk dn_254_0_0_ok 17 rfl)))
  (e_Lok (lk_11_61g ho_254 (x_dk dn_254_0_0_ok 18 rfl))))))))
  (e_Tok2
  (e_Tok2
  (e_Tok2
  (e_Tok2
  (e_Lok (ld_iload_5 (x_dk dn_254_0_0_ok 19 rfl)))
  (e_Lok (ps_iconst_2 (x_dk dn_254_0_0_ok 20 rfl))))
  (e_Tok2
  (e_Lok (sm_iadd (x_dk dn_254_0_0_ok 21 rfl)))
  (e_Lok (ld_iload_n_3 (x_dk dn_254_0_0_ok 22 rfl)))))
  (e_Tok2
  (e_Tok2
  (e_Lok (sm_iastore (x_dk dn_254_0_0_ok 23 rfl)))
  (e_Lok (ld_aload_n_0 (x_dk dn_254_0_0_ok 24 rfl))))
  (e_Tok2
  (e_Lok (lk_11_61g ho_254 (x_dk dn_254_0_1_ok 0 rfl)))
  (e_Tok2
  (e_Lok (ld_iload_5 (x_dk dn_254_0_1_ok 1 rfl)))
  (e_Lok (ps_iconst_3 (x_dk dn_254_0_1_ok 2 rfl)))))))
  (e_Tok2
  (e_Tok2
  (e_Tok2
  (e_Lok (sm_iadd (x_dk dn_254_0_1_ok 3 rfl)))
  (e_Lok (ld_iload_4 (x_dk dn_254_0_1_ok 4 rfl))))
  (e_Tok2
  (e_Lok (sm_iastore (x_dk dn_254_0_1_ok 5 rfl)))
  (e_Tok2
  (e_Lok (ld_aload_n_0 (x_dk dn_254_0_1_ok 6 rfl)))
  (e_Lok (e_st (I := eI) (er_dup (x_dk dn_254_0_1_ok 7 rfl)) (nx_stk bf_dup))))))
  (e_Tok2
  (e_Tok2
  (e_Lok (lk_11_246g ho_254 (x_dk dn_254_0_1_ok 8 rfl)))
  (e_Lok (ps_iconst_1 (x_dk dn_254_0_1_ok 9 rfl))))
  (e_Tok2
  (e_Lok (sm_iadd (x_dk dn_254_0_1_ok 10 rfl)))
  (e_Tok2
  (e_Lok (lk_11_246p ho_254 (x_dk dn_254_0_1_ok 11 rfl)))
  (e_Lok (e_rt (I := eI) (k := 0) ⟨(x_dk dn_254_0_1_ok 12 rfl), rfl⟩))))))))
def te_254 : Nat → eE := te_254_0
theorem te_254_ok : ∀ pc, e_EOq eft cls elay eI n_254 pc (te_254 pc) := te_254_0_ok
theorem ho_255 : (xm_y n_255).cls = "RobotCellHouse" := rfl
def dn_255_0_0 : List (Nat × Instr × Nat) := [(0, .aload_n 0, 1), (1, .invokevirtual 264, 3), (4, .ifCond .ne 6, 3), (7, .bipush (-3), 2), (9, .ireturn, 1), (10, .aload_n 0, 1), (11, .iload_n 1, 1), (12, .iload_n 2, 1), (13, .iload_n 3, 1), (14, .iload 4, 2), (16, .invokevirtual 268, 3), (19, .aload_n 0, 1), (20, .iload_n 1, 1), (21, .iload_n 2, 1), (22, .iload_n 3, 1), (23, .iload 4, 2), (25, .invokevirtual 311, 3), (28, .ireturn, 1)]
set_option maxRecDepth 20000 in
theorem dn_255_0_0_ok : dn_255_0_0.all (fun q => decide (decode (xm_b n_255) q.1 = .ok (q.2.1, q.2.2))) = true := xa_g_ok (by decide +kernel)
def te_255_0 : Nat → eE := (e_T 13 (e_T 7 (e_T 1 (e_T 0 (e_L 0 (0, ei_load 0 2 1, 0, 0)) (e_L 1 (2, e_nof, 253, 1))) (e_T 4 (e_L 4 (0, ei_if1 1 10 7, 0, 0)) (e_L 7 (0, ei_push (0, (-3)) 9, 0, 0)))) (e_T 10 (e_T 9 (e_L 9 (1, e_nof, 1, 0)) (e_L 10 (0, ei_load 0 2 11, 0, 0))) (e_T 11 (e_L 11 (0, ei_load 1 0 12, 0, 0)) (e_T 12 (e_L 12 (0, ei_load 2 0 13, 0, 0)) (e_L 13 (0, ei_load 3 0 14, 0, 0)))))) (e_T 20 (e_T 16 (e_T 14 (e_L 14 (0, ei_load 4 0 16, 0, 0)) (e_L 16 (2, e_nof, 254, 5))) (e_T 19 (e_L 19 (0, ei_load 0 2 20, 0, 0)) (e_L 20 (0, ei_load 1 0 21, 0, 0)))) (e_T 22 (e_T 21 (e_L 21 (0, ei_load 2 0 22, 0, 0)) (e_L 22 (0, ei_load 3 0 23, 0, 0))) (e_T 23 (e_L 23 (0, ei_load 4 0 25, 0, 0)) (e_T 25 (e_L 25 (2, e_nof, 256, 5)) (e_L 28 (1, e_nof, 1, 0)))))))
set_option maxRecDepth 20000 in
set_option maxHeartbeats 4000000 in
theorem te_255_0_ok : ∀ pc, e_EOq eft cls elay eI n_255 pc (te_255_0 pc) :=
  (e_Tok2
  (e_Tok2
  (e_Tok2
  (e_Tok2
  (e_Lok (ld_aload_n_0 (x_dk dn_255_0_0_ok 0 rfl)))
  (e_Lok (lk_11_264 ho_255 (x_dk dn_255_0_0_ok 1 rfl))))
  (e_Tok2
  (e_Lok (e_st (I := eI) (er_ifne (off := 6) (tg := 10) (x_dk dn_255_0_0_ok 2 rfl) (by decide)) nx_if1))
  (e_Lok (ps_bipush_m3 (x_dk dn_255_0_0_ok 3 rfl)))))
  (e_Tok2
  (e_Tok2
  (e_Lok (e_rt (I := eI) (k := 1) ⟨(x_dk dn_255_0_0_ok 4 rfl), rfl⟩))
  (e_Lok (ld_aload_n_0 (x_dk dn_255_0_0_ok 5 rfl))))
  (e_Tok2
  (e_Lok (ld_iload_n_1 (x_dk dn_255_0_0_ok 6 rfl)))
  (e_Tok2
  (e_Lok (ld_iload_n_2 (x_dk dn_255_0_0_ok 7 rfl)))
  (e_Lok (ld_iload_n_3 (x_dk dn_255_0_0_ok 8 rfl)))))))
  (e_Tok2
  (e_Tok2
  (e_Tok2
  (e_Lok (ld_iload_4 (x_dk dn_255_0_0_ok 9 rfl)))
  (e_Lok (lk_11_268 ho_255 (x_dk dn_255_0_0_ok 10 rfl))))
  (e_Tok2
  (e_Lok (ld_aload_n_0 (x_dk dn_255_0_0_ok 11 rfl)))
  (e_Lok (ld_iload_n_1 (x_dk dn_255_0_0_ok 12 rfl)))))
  (e_Tok2
  (e_Tok2
  (e_Lok (ld_iload_n_2 (x_dk dn_255_0_0_ok 13 rfl)))
  (e_Lok (ld_iload_n_3 (x_dk dn_255_0_0_ok 14 rfl))))
  (e_Tok2
  (e_Lok (ld_iload_4 (x_dk dn_255_0_0_ok 15 rfl)))
  (e_Tok2
  (e_Lok (lk_11_311 ho_255 (x_dk dn_255_0_0_ok 16 rfl)))
  (e_Lok (e_rt (I := eI) (k := 1) ⟨(x_dk dn_255_0_0_ok 17 rfl), rfl⟩)))))))
def te_255 : Nat → eE := te_255_0
theorem te_255_ok : ∀ pc, e_EOq eft cls elay eI n_255 pc (te_255 pc) := te_255_0_ok
theorem ho_256 : (xm_y n_256).cls = "RobotCellHouse" := rfl
def dn_256_0_0 : List (Nat × Instr × Nat) := [(0, .iload_n 1, 1), (1, .tableswitch 202 0 11 #[63, 202, 73, 83, 103, 131, 140, 146, 155, 164, 173, 188], 63), (64, .aload_n 0, 1), (65, .getfield 19, 3), (68, .iload_n 2, 1), (69, .iload_n 3, 1), (70, .invokevirtual 426, 3), (73, .ireturn, 1), (74, .aload_n 0, 1), (75, .getfield 32, 3), (78, .iload_n 2, 1), (79, .iload_n 3, 1), (80, .invokevirtual 429, 3), (83, .ireturn, 1), (84, .aload_n 0, 1), (85, .getfield 32, 3), (88, .iload_n 2, 1), (89, .iload_n 3, 1), (90, .iload 4, 2), (92, .ifCond .eq 7, 3), (95, .iconst 1, 1), (96, .goto 4, 3), (99, .iconst 0, 1), (100, .invokevirtual 432, 3), (103, .ireturn, 1)]
set_option maxRecDepth 20000 in
theorem dn_256_0_0_ok : dn_256_0_0.all (fun q => decide (decode (xm_b n_256) q.1 = .ok (q.2.1, q.2.2))) = true := xa_g_ok (by decide +kernel)
def dn_256_0_1 : List (Nat × Instr × Nat) := [(104, .aload_n 0, 1), (105, .getfield 42, 3), (108, .iload_n 2, 1), (109, .iload_n 3, 1), (110, .ifCond .eq 7, 3), (113, .iconst 1, 1), (114, .goto 4, 3), (117, .iconst 0, 1), (118, .iload 4, 2), (120, .ifCond .eq 7, 3), (123, .iconst 1, 1), (124, .goto 4, 3), (127, .iconst 0, 1), (128, .invokevirtual 436, 3), (131, .ireturn, 1), (132, .aload_n 0, 1), (133, .getfield 42, 3), (136, .iload_n 2, 1), (137, .invokevirtual 440, 3), (140, .ireturn, 1), (141, .aload_n 0, 1), (142, .iload_n 2, 1), (143, .invokevirtual 443, 3), (146, .ireturn, 1), (147, .aload_n 0, 1)]
set_option maxRecDepth 20000 in
theorem dn_256_0_1_ok : dn_256_0_1.all (fun q => decide (decode (xm_b n_256) q.1 = .ok (q.2.1, q.2.2))) = true := xa_g_ok (by decide +kernel)
def dn_256_0_2 : List (Nat × Instr × Nat) := [(148, .getfield 19, 3), (151, .iload_n 2, 1), (152, .invokevirtual 446, 3), (155, .ireturn, 1), (156, .aload_n 0, 1), (157, .iload_n 2, 1), (158, .iload_n 3, 1), (159, .iload 4, 2), (161, .invokevirtual 449, 3), (164, .ireturn, 1), (165, .aload_n 0, 1), (166, .getfield 57, 3), (169, .iload_n 2, 1), (170, .iload_n 3, 1), (171, .iastore, 1), (172, .iconst 0, 1), (173, .ireturn, 1), (174, .aload_n 0, 1), (175, .getfield 53, 3), (178, .aload_n 0, 1), (179, .getfield 27, 3), (182, .iload_n 2, 1), (183, .aaload, 1), (184, .iload_n 3, 1), (185, .invokevirtual 453, 3)]
set_option maxRecDepth 20000 in
theorem dn_256_0_2_ok : dn_256_0_2.all (fun q => decide (decode (xm_b n_256) q.1 = .ok (q.2.1, q.2.2))) = true := xa_g_ok (by decide +kernel)
def dn_256_0_3 : List (Nat × Instr × Nat) := [(188, .ireturn, 1), (189, .aload_n 0, 1), (190, .getfield 53, 3), (193, .aload_n 0, 1), (194, .getfield 27, 3), (197, .iload_n 2, 1), (198, .aaload, 1), (199, .invokevirtual 456, 3), (202, .ireturn, 1), (203, .iconst 0, 1), (204, .ireturn, 1)]
set_option maxRecDepth 20000 in
theorem dn_256_0_3_ok : dn_256_0_3.all (fun q => decide (decode (xm_b n_256) q.1 = .ok (q.2.1, q.2.2))) = true := xa_g_ok (by decide +kernel)
def te_256_0 : Nat → eE := (e_T 75 (e_T 68 (e_T 1 (e_T 0 (e_L 0 (0, ei_load 1 0 1, 0, 0)) (e_L 1 (0, ei_sw [((-2147483648), (-1), 203), (0, 0, 64), (1, 1, 203), (2, 2, 74), (3, 3, 84), (4, 4, 104), (5, 5, 132), (6, 6, 141), (7, 7, 147), (8, 8, 156), (9, 9, 165), (10, 10, 174), (11, 11, 189), (12, 2147483647, 203)], 0, 0))) (e_T 64 (e_L 64 (0, ei_load 0 2 65, 0, 0)) (e_T 65 (e_L 65 (0, ei_getf eft elay 11 1 68, 0, 0)) (e_L 68 (0, ei_load 2 0 69, 0, 0))))) (e_T 70 (e_T 69 (e_L 69 (0, ei_load 3 0 70, 0, 0)) (e_L 70 (2, e_nof, 37, 3))) (e_T 73 (e_L 73 (1, e_nof, 1, 0)) (e_T 74 (e_L 74 (0, ei_load 0 2 75, 0, 0)) (e_L 75 (0, ei_getf eft elay 11 3 78, 0, 0)))))) (e_T 84 (e_T 79 (e_T 78 (e_L 78 (0, ei_load 2 0 79, 0, 0)) (e_L 79 (0, ei_load 3 0 80, 0, 0))) (e_T 80 (e_L 80 (2, e_nof, 113, 3)) (e_T 83 (e_L 83 (1, e_nof, 1, 0)) (e_L 84 (0, ei_load 0 2 85, 0, 0))))) (e_T 89 (e_T 85 (e_L 85 (0, ei_getf eft elay 11 3 88, 0, 0)) (e_T 88 (e_L 88 (0, ei_load 2 0 89, 0, 0)) (e_L 89 (0, ei_load 3 0 90, 0, 0)))) (e_T 90 (e_L 90 (0, ei_load 4 0 92, 0, 0)) (e_T 92 (e_L 92 (0, ei_if1 0 99 95, 0, 0)) (e_L 95 (0, ei_push (0, 1) 96, 0, 0)))))))
set_option maxRecDepth 20000 in
set_option maxHeartbeats 4000000 in
theorem te_256_0_ok : ∀ pc, e_EOq eft cls elay eI n_256 pc (te_256_0 pc) :=
  (e_Tok2
  (e_Tok2
  (e_Tok2
  (e_Tok2
  (e_Lok (ld_iload_n_1 (x_dk dn_256_0_0_ok 0 rfl)))
  (e_Lok (e_st (I := eI) (er_tsw (dflt := 202) (lo := 0) (hi := 11) (offs := #[63, 202, 73, 83, 103, 131, 140, 146, 155, 164, 173, 188]) (len := 63) (n := 12) (x_dk dn_256_0_0_ok 1 rfl) (by decide) (by decide +kernel)) nx_sw)))
  (e_Tok2
  (e_Lok (ld_aload_n_0 (x_dk dn_256_0_0_ok 2 rfl)))
  (e_Tok2
  (e_Lok (lk_11_19g ho_256 (x_dk dn_256_0_0_ok 3 rfl)))
  (e_Lok (ld_iload_n_2 (x_dk dn_256_0_0_ok 4 rfl))))))
  (e_Tok2
  (e_Tok2
  (e_Lok (ld_iload_n_3 (x_dk dn_256_0_0_ok 5 rfl)))
  (e_Lok (lk_11_426 ho_256 (x_dk dn_256_0_0_ok 6 rfl))))
  (e_Tok2
  (e_Lok (e_rt (I := eI) (k := 1) ⟨(x_dk dn_256_0_0_ok 7 rfl), rfl⟩))
  (e_Tok2
  (e_Lok (ld_aload_n_0 (x_dk dn_256_0_0_ok 8 rfl)))
  (e_Lok (lk_11_32g ho_256 (x_dk dn_256_0_0_ok 9 rfl)))))))
  (e_Tok2
  (e_Tok2
  (e_Tok2
  (e_Lok (ld_iload_n_2 (x_dk dn_256_0_0_ok 10 rfl)))
  (e_Lok (ld_iload_n_3 (x_dk dn_256_0_0_ok 11 rfl))))
  (e_Tok2
  (e_Lok (lk_11_429 ho_256 (x_dk dn_256_0_0_ok 12 rfl)))
  (e_Tok2
  (e_Lok (e_rt (I := eI) (k := 1) ⟨(x_dk dn_256_0_0_ok 13 rfl), rfl⟩))
  (e_Lok (ld_aload_n_0 (x_dk dn_256_0_0_ok 14 rfl))))))
  (e_Tok2
  (e_Tok2
  (e_Lok (lk_11_32g ho_256 (x_dk dn_256_0_0_ok 15 rfl)))
  (e_Tok2
  (e_Lok (ld_iload_n_2 (x_dk dn_256_0_0_ok 16 rfl)))
  (e_Lok (ld_iload_n_3 (x_dk dn_256_0_0_ok 17 rfl)))))
  (e_Tok2
  (e_Lok (ld_iload_4 (x_dk dn_256_0_0_ok 18 rfl)))
  (e_Tok2
  (e_Lok (e_st (I := eI) (er_ifeq (off := 7) (tg := 99) (x_dk dn_256_0_0_ok 19 rfl) (by decide)) nx_if1))
  (e_Lok (ps_iconst_1 (x_dk dn_256_0_0_ok 20 rfl))))))))
def te_256_21 : Nat → eE := (e_T 114 (e_T 104 (e_T 99 (e_T 96 (e_L 96 (0, ei_goto 100, 0, 0)) (e_L 99 (0, ei_push (0, 0) 100, 0, 0))) (e_T 100 (e_L 100 (2, e_nof, 114, 4)) (e_T 103 (e_L 103 (1, e_nof, 1, 0)) (e_L 104 (0, ei_load 0 2 105, 0, 0))))) (e_T 109 (e_T 105 (e_L 105 (0, ei_getf eft elay 11 5 108, 0, 0)) (e_T 108 (e_L 108 (0, ei_load 2 0 109, 0, 0)) (e_L 109 (0, ei_load 3 0 110, 0, 0)))) (e_T 110 (e_L 110 (0, ei_if1 0 117 113, 0, 0)) (e_T 113 (e_L 113 (0, ei_push (0, 1) 114, 0, 0)) (e_L 114 (0, ei_goto 118, 0, 0)))))) (e_T 124 (e_T 118 (e_T 117 (e_L 117 (0, ei_push (0, 0) 118, 0, 0)) (e_L 118 (0, ei_load 4 0 120, 0, 0))) (e_T 120 (e_L 120 (0, ei_if1 0 127 123, 0, 0)) (e_T 123 (e_L 123 (0, ei_push (0, 1) 124, 0, 0)) (e_L 124 (0, ei_goto 128, 0, 0))))) (e_T 131 (e_T 127 (e_L 127 (0, ei_push (0, 0) 128, 0, 0)) (e_T 128 (e_L 128 (2, e_nof, 28, 4)) (e_L 131 (1, e_nof, 1, 0)))) (e_T 132 (e_L 132 (0, ei_load 0 2 133, 0, 0)) (e_T 133 (e_L 133 (0, ei_getf eft elay 11 5 136, 0, 0)) (e_L 136 (0, ei_load 2 0 137, 0, 0)))))))
set_option maxRecDepth 20000 in
set_option maxHeartbeats 4000000 in
theorem te_256_21_ok : ∀ pc, e_EOq eft cls elay eI n_256 pc (te_256_21 pc) :=
  (e_Tok2
  (e_Tok2
  (e_Tok2
  (e_Tok2
  (e_Lok (e_st (I := eI) (er_goto (off := 4) (tg := 100) (x_dk dn_256_0_0_ok 21 rfl) (by decide)) nx_goto))
  (e_Lok (ps_iconst_0 (x_dk dn_256_0_0_ok 22 rfl))))
  (e_Tok2
  (e_Lok (lk_11_432 ho_256 (x_dk dn_256_0_0_ok 23 rfl)))
  (e_Tok2
  (e_Lok (e_rt (I := eI) (k := 1) ⟨(x_dk dn_256_0_0_ok 24 rfl), rfl⟩))
  (e_Lok (ld_aload_n_0 (x_dk dn_256_0_1_ok 0 rfl))))))
  (e_Tok2
  (e_Tok2
  (e_Lok (lk_11_42g ho_256 (x_dk dn_256_0_1_ok 1 rfl)))
  (e_Tok2
  (e_Lok (ld_iload_n_2 (x_dk dn_256_0_1_ok 2 rfl)))
  (e_Lok (ld_iload_n_3 (x_dk dn_256_0_1_ok 3 rfl)))))
  (e_Tok2
  (e_Lok (e_st (I := eI) (er_ifeq (off := 7) (tg := 117) (x_dk dn_256_0_1_ok 4 rfl) (by decide)) nx_if1))
  (e_Tok2
  (e_Lok (ps_iconst_1 (x_dk dn_256_0_1_ok 5 rfl)))
  (e_Lok (e_st (I := eI) (er_goto (off := 4) (tg := 118) (x_dk dn_256_0_1_ok 6 rfl) (by decide)) nx_goto))))))
  (e_Tok2
  (e_Tok2
  (e_Tok2
  (e_Lok (ps_iconst_0 (x_dk dn_256_0_1_ok 7 rfl)))
  (e_Lok (ld_iload_4 (x_dk dn_256_0_1_ok 8 rfl))))
  (e_Tok2
  (e_Lok (e_st (I := eI) (er_ifeq (off := 7) (tg := 127) (x_dk dn_256_0_1_ok 9 rfl) (by decide)) nx_if1))
  (e_Tok2
  (e_Lok (ps_iconst_1 (x_dk dn_256_0_1_ok 10 rfl)))
  (e_Lok (e_st (I := eI) (er_goto (off := 4) (tg := 128) (x_dk dn_256_0_1_ok 11 rfl) (by decide)) nx_goto)))))
  (e_Tok2
  (e_Tok2
  (e_Lok (ps_iconst_0 (x_dk dn_256_0_1_ok 12 rfl)))
  (e_Tok2
  (e_Lok (lk_11_436 ho_256 (x_dk dn_256_0_1_ok 13 rfl)))
  (e_Lok (e_rt (I := eI) (k := 1) ⟨(x_dk dn_256_0_1_ok 14 rfl), rfl⟩))))
  (e_Tok2
  (e_Lok (ld_aload_n_0 (x_dk dn_256_0_1_ok 15 rfl)))
  (e_Tok2
  (e_Lok (lk_11_42g ho_256 (x_dk dn_256_0_1_ok 16 rfl)))
  (e_Lok (ld_iload_n_2 (x_dk dn_256_0_1_ok 17 rfl))))))))
def te_256_43 : Nat → eE := (e_T 152 (e_T 143 (e_T 140 (e_T 137 (e_L 137 (2, e_nof, 33, 2)) (e_L 140 (1, e_nof, 1, 0))) (e_T 141 (e_L 141 (0, ei_load 0 2 142, 0, 0)) (e_T 142 (e_L 142 (0, ei_load 2 0 143, 0, 0)) (e_L 143 (2, e_nof, 257, 2))))) (e_T 147 (e_T 146 (e_L 146 (1, e_nof, 1, 0)) (e_L 147 (0, ei_load 0 2 148, 0, 0))) (e_T 148 (e_L 148 (0, ei_getf eft elay 11 1 151, 0, 0)) (e_T 151 (e_L 151 (0, ei_load 2 0 152, 0, 0)) (e_L 152 (2, e_nof, 38, 2)))))) (e_T 159 (e_T 156 (e_T 155 (e_L 155 (1, e_nof, 1, 0)) (e_L 156 (0, ei_load 0 2 157, 0, 0))) (e_T 157 (e_L 157 (0, ei_load 2 0 158, 0, 0)) (e_T 158 (e_L 158 (0, ei_load 3 0 159, 0, 0)) (e_L 159 (0, ei_load 4 0 161, 0, 0))))) (e_T 165 (e_T 161 (e_L 161 (2, e_nof, 258, 4)) (e_T 164 (e_L 164 (1, e_nof, 1, 0)) (e_L 165 (0, ei_load 0 2 166, 0, 0)))) (e_T 166 (e_L 166 (0, ei_getf eft elay 11 8 169, 0, 0)) (e_T 169 (e_L 169 (0, ei_load 2 0 170, 0, 0)) (e_L 170 (0, ei_load 3 0 171, 0, 0)))))))
set_option maxRecDepth 20000 in
set_option maxHeartbeats 4000000 in
theorem te_256_43_ok : ∀ pc, e_EOq eft cls elay eI n_256 pc (te_256_43 pc) :=
  (e_Tok2
  (e_Tok2
  (e_Tok2
  (e_Tok2
  (e_Lok (lk_11_440 ho_256 (x_dk dn_256_0_1_ok 18 rfl)))
  (e_Lok (e_rt (I := eI) (k := 1) ⟨(x_dk dn_256_0_1_ok 19 rfl), rfl⟩)))
  (e_Tok2
  (e_Lok (ld_aload_n_0 (x_dk dn_256_0_1_ok 20 rfl)))
  (e_Tok2
  (e_Lok (ld_iload_n_2 (x_dk dn_256_0_1_ok 21 rfl)))
  (e_Lok (lk_11_443 ho_256 (x_dk dn_256_0_1_ok 22 rfl))))))
  (e_Tok2
  (e_Tok2
  (e_Lok (e_rt (I := eI) (k := 1) ⟨(x_dk dn_256_0_1_ok 23 rfl), rfl⟩))
  (e_Lok (ld_aload_n_0 (x_dk dn_256_0_1_ok 24 rfl))))
  (e_Tok2
  (e_Lok (lk_11_19g ho_256 (x_dk dn_256_0_2_ok 0 rfl)))
  (e_Tok2
  (e_Lok (ld_iload_n_2 (x_dk dn_256_0_2_ok 1 rfl)))
  (e_Lok (lk_11_446 ho_256 (x_dk dn_256_0_2_ok 2 rfl)))))))
  (e_Tok2
  (e_Tok2
  (e_Tok2
  (e_Lok (e_rt (I := eI) (k := 1) ⟨(x_dk dn_256_0_2_ok 3 rfl), rfl⟩))
  (e_Lok (ld_aload_n_0 (x_dk dn_256_0_2_ok 4 rfl))))
  (e_Tok2
  (e_Lok (ld_iload_n_2 (x_dk dn_256_0_2_ok 5 rfl)))
  (e_Tok2
  (e_Lok (ld_iload_n_3 (x_dk dn_256_0_2_ok 6 rfl)))
  (e_Lok (ld_iload_4 (x_dk dn_256_0_2_ok 7 rfl))))))
  (e_Tok2
  (e_Tok2
  (e_Lok (lk_11_449 ho_256 (x_dk dn_256_0_2_ok 8 rfl)))
  (e_Tok2
  (e_Lok (e_rt (I := eI) (k := 1) ⟨(x_dk dn_256_0_2_ok 9 rfl), rfl⟩))
  (e_Lok (ld_aload_n_0 (x_dk dn_256_0_2_ok 10 rfl)))))
  (e_Tok2
  (e_Lok (lk_11_57g ho_256 (x_dk dn_256_0_2_ok 11 rfl)))
  (e_Tok2
  (e_Lok (ld_iload_n_2 (x_dk dn_256_0_2_ok 12 rfl)))
  (e_Lok (ld_iload_n_3 (x_dk dn_256_0_2_ok 13 rfl))))))))
def te_256_64 : Nat → eE := (e_T 185 (e_T 175 (e_T 172 (e_T 171 (e_L 171 (0, ei_ast elay false 172, 0, 0)) (e_L 172 (0, ei_push (0, 0) 173, 0, 0))) (e_T 173 (e_L 173 (1, e_nof, 1, 0)) (e_T 174 (e_L 174 (0, ei_load 0 2 175, 0, 0)) (e_L 175 (0, ei_getf eft elay 11 7 178, 0, 0))))) (e_T 182 (e_T 178 (e_L 178 (0, ei_load 0 2 179, 0, 0)) (e_T 179 (e_L 179 (0, ei_getf eft elay 11 2 182, 0, 0)) (e_L 182 (0, ei_load 2 0 183, 0, 0)))) (e_T 183 (e_L 183 (0, ei_aald elay 184, 0, 0)) (e_T 184 (e_L 184 (0, ei_load 3 0 185, 0, 0)) (e_L 185 (2, e_nof, 97, 3)))))) (e_T 194 (e_T 189 (e_T 188 (e_L 188 (1, e_nof, 1, 0)) (e_L 189 (0, ei_load 0 2 190, 0, 0))) (e_T 190 (e_L 190 (0, ei_getf eft elay 11 7 193, 0, 0)) (e_T 193 (e_L 193 (0, ei_load 0 2 194, 0, 0)) (e_L 194 (0, ei_getf eft elay 11 2 197, 0, 0))))) (e_T 199 (e_T 197 (e_L 197 (0, ei_load 2 0 198, 0, 0)) (e_T 198 (e_L 198 (0, ei_aald elay 199, 0, 0)) (e_L 199 (2, e_nof, 107, 2)))) (e_T 202 (e_L 202 (1, e_nof, 1, 0)) (e_T 203 (e_L 203 (0, ei_push (0, 0) 204, 0, 0)) (e_L 204 (1, e_nof, 1, 0)))))))
set_option maxRecDepth 20000 in
set_option maxHeartbeats 4000000 in
theorem te_256_64_ok : ∀ pc, e_EOq eft cls elay eI n_256 pc (te_256_64 pc) :=
  (e_Tok2
  (e_Tok2
  (e_Tok2
  (e_Tok2
  (e_Lok (sm_iastore (x_dk dn_256_0_2_ok 14 rfl)))
  (e_Lok (ps_iconst_0 (x_dk dn_256_0_2_ok 15 rfl))))
  (e_Tok2
  (e_Lok (e_rt (I := eI) (k := 1) ⟨(x_dk dn_256_0_2_ok 16 rfl), rfl⟩))
  (e_Tok2
  (e_Lok (ld_aload_n_0 (x_dk dn_256_0_2_ok 17 rfl)))
  (e_Lok (lk_11_53g ho_256 (x_dk dn_256_0_2_ok 18 rfl))))))
  (e_Tok2
  (e_Tok2
  (e_Lok (ld_aload_n_0 (x_dk dn_256_0_2_ok 19 rfl)))
  (e_Tok2
  (e_Lok (lk_11_27g ho_256 (x_dk dn_256_0_2_ok 20 rfl)))
  (e_Lok (ld_iload_n_2 (x_dk dn_256_0_2_ok 21 rfl)))))
  (e_Tok2
  (e_Lok (e_st (I := eI) (er_aaload (x_dk dn_256_0_2_ok 22 rfl)) nx_aald))
  (e_Tok2
  (e_Lok (ld_iload_n_3 (x_dk dn_256_0_2_ok 23 rfl)))
  (e_Lok (lk_11_453 ho_256 (x_dk dn_256_0_2_ok 24 rfl)))))))
  (e_Tok2
  (e_Tok2
  (e_Tok2
  (e_Lok (e_rt (I := eI) (k := 1) ⟨(x_dk dn_256_0_3_ok 0 rfl), rfl⟩))
  (e_Lok (ld_aload_n_0 (x_dk dn_256_0_3_ok 1 rfl))))
  (e_Tok2
  (e_Lok (lk_11_53g ho_256 (x_dk dn_256_0_3_ok 2 rfl)))
  (e_Tok2
  (e_Lok (ld_aload_n_0 (x_dk dn_256_0_3_ok 3 rfl)))
  (e_Lok (lk_11_27g ho_256 (x_dk dn_256_0_3_ok 4 rfl))))))
  (e_Tok2
  (e_Tok2
  (e_Lok (ld_iload_n_2 (x_dk dn_256_0_3_ok 5 rfl)))
  (e_Tok2
  (e_Lok (e_st (I := eI) (er_aaload (x_dk dn_256_0_3_ok 6 rfl)) nx_aald))
  (e_Lok (lk_11_456 ho_256 (x_dk dn_256_0_3_ok 7 rfl)))))
  (e_Tok2
  (e_Lok (e_rt (I := eI) (k := 1) ⟨(x_dk dn_256_0_3_ok 8 rfl), rfl⟩))
  (e_Tok2
  (e_Lok (ps_iconst_0 (x_dk dn_256_0_3_ok 9 rfl)))
  (e_Lok (e_rt (I := eI) (k := 1) ⟨(x_dk dn_256_0_3_ok 10 rfl), rfl⟩)))))))
def te_256 : Nat → eE := (e_T 136 (e_T 95 te_256_0 te_256_21) (e_T 170 te_256_43 te_256_64))
theorem te_256_ok : ∀ pc, e_EOq eft cls elay eI n_256 pc (te_256 pc) := (e_Tok2 ((e_Tok2 (te_256_0_ok) (te_256_21_ok))) ((e_Tok2 (te_256_43_ok) (te_256_64_ok))))
end
