noncomputable section
theorem ho_304 : (xm_y n_304).cls = "RobotCellHouseModel" := rfl
def dn_304_0_0 : List (Nat × Instr × Nat) := [(0, .aload_n 0, 1), (1, .getfield 43, 3), (4, .iload_n 1, 1), (5, .iaload, 1), (6, .aload_n 0, 1), (7, .getfield 8, 3), (10, .iload_n 1, 1), (11, .invokestatic 294, 3), (14, .iconst 1, 1), (15, .iadd, 1), (16, .iaload, 1), (17, .ifCond .lt 7, 3), (20, .iconst 1, 1), (21, .goto 4, 3), (24, .iconst 0, 1), (25, .iadd, 1), (26, .ireturn, 1)]
set_option maxRecDepth 20000 in
theorem dn_304_0_0_ok : dn_304_0_0.all (fun q => decide (decode (xm_b n_304) q.1 = .ok (q.2.1, q.2.2))) = true := xa_g_ok (by decide +kernel)
def te_304_0 : Nat → eE := (e_T 11 (e_T 5 (e_T 1 (e_T 0 (e_L 0 (0, ei_load 0 2 1, 0, 0)) (e_L 1 (0, ei_getf eft elay 12 15 4, 0, 0))) (e_T 4 (e_L 4 (0, ei_load 1 0 5, 0, 0)) (e_L 5 (0, ei_ald elay false 6, 0, 0)))) (e_T 7 (e_T 6 (e_L 6 (0, ei_load 0 2 7, 0, 0)) (e_L 7 (0, ei_getf eft elay 12 0 10, 0, 0))) (e_T 10 (e_L 10 (0, ei_load 1 0 11, 0, 0)) (e_L 11 (2, e_nof, 268, 1))))) (e_T 17 (e_T 15 (e_T 14 (e_L 14 (0, ei_push (0, 1) 15, 0, 0)) (e_L 15 (0, ei_bin eF_add 16, 0, 0))) (e_T 16 (e_L 16 (0, ei_ald elay false 17, 0, 0)) (e_L 17 (0, ei_if1 2 24 20, 0, 0)))) (e_T 21 (e_T 20 (e_L 20 (0, ei_push (0, 1) 21, 0, 0)) (e_L 21 (0, ei_goto 25, 0, 0))) (e_T 24 (e_L 24 (0, ei_push (0, 0) 25, 0, 0)) (e_T 25 (e_L 25 (0, ei_bin eF_add 26, 0, 0)) (e_L 26 (1, e_nof, 1, 0)))))))
set_option maxRecDepth 20000 in
set_option maxHeartbeats 4000000 in
theorem te_304_0_ok : ∀ pc, e_EOq eft cls elay eI n_304 pc (te_304_0 pc) :=
  (e_Tok2
  (e_Tok2
  (e_Tok2
  (e_Tok2
  (e_Lok (ld_aload_n_0 (x_dk dn_304_0_0_ok 0 rfl)))
  (e_Lok (lk_12_43g ho_304 (x_dk dn_304_0_0_ok 1 rfl))))
  (e_Tok2
  (e_Lok (ld_iload_n_1 (x_dk dn_304_0_0_ok 2 rfl)))
  (e_Lok (sm_iaload (x_dk dn_304_0_0_ok 3 rfl)))))
  (e_Tok2
  (e_Tok2
  (e_Lok (ld_aload_n_0 (x_dk dn_304_0_0_ok 4 rfl)))
  (e_Lok (lk_12_8g ho_304 (x_dk dn_304_0_0_ok 5 rfl))))
  (e_Tok2
  (e_Lok (ld_iload_n_1 (x_dk dn_304_0_0_ok 6 rfl)))
  (e_Lok (lk_12_294 ho_304 (x_dk dn_304_0_0_ok 7 rfl))))))
  (e_Tok2
  (e_Tok2
  (e_Tok2
  (e_Lok (ps_iconst_1 (x_dk dn_304_0_0_ok 8 rfl)))
  (e_Lok (sm_iadd (x_dk dn_304_0_0_ok 9 rfl))))
  (e_Tok2
  (e_Lok (sm_iaload (x_dk dn_304_0_0_ok 10 rfl)))
  (e_Lok (e_st (I := eI) (er_iflt (off := 7) (tg := 24) (x_dk dn_304_0_0_ok 11 rfl) (by decide)) nx_if1))))
  (e_Tok2
  (e_Tok2
  (e_Lok (ps_iconst_1 (x_dk dn_304_0_0_ok 12 rfl)))
  (e_Lok (e_st (I := eI) (er_goto (off := 4) (tg := 25) (x_dk dn_304_0_0_ok 13 rfl) (by decide)) nx_goto)))
  (e_Tok2
  (e_Lok (ps_iconst_0 (x_dk dn_304_0_0_ok 14 rfl)))
  (e_Tok2
  (e_Lok (sm_iadd (x_dk dn_304_0_0_ok 15 rfl)))
  (e_Lok (e_rt (I := eI) (k := 1) ⟨(x_dk dn_304_0_0_ok 16 rfl), rfl⟩)))))))
def te_304 : Nat → eE := te_304_0
theorem te_304_ok : ∀ pc, e_EOq eft cls elay eI n_304 pc (te_304 pc) := te_304_0_ok
theorem ho_305 : (xm_y n_305).cls = "RobotCellHouseModel" := rfl
def dn_305_0_0 : List (Nat × Instr × Nat) := [(0, .iload_n 2, 1), (1, .aload_n 0, 1), (2, .getfield 43, 3), (5, .iload_n 1, 1), (6, .iaload, 1), (7, .if_icmp .ne 7, 3), (10, .iconst 1, 1), (11, .goto 4, 3), (14, .iconst 0, 1), (15, .istore 4, 2), (17, .aload_n 0, 1), (18, .iload_n 3, 1), (19, .iload_n 2, 1), (20, .iadd, 1), (21, .putfield 404, 3), (24, .aload_n 0, 1), (25, .iload 4, 2), (27, .ifCond .eq 9, 3), (30, .iload_n 3, 1), (31, .iload_n 2, 1), (32, .iadd, 1), (33, .goto 8, 3), (36, .iload_n 3, 1), (37, .iload_n 2, 1), (38, .iadd, 1)]
set_option maxRecDepth 20000 in
theorem dn_305_0_0_ok : dn_305_0_0.all (fun q => decide (decode (xm_b n_305) q.1 = .ok (q.2.1, q.2.2))) = true := xa_g_ok (by decide +kernel)
def dn_305_0_1 : List (Nat × Instr × Nat) := [(39, .iconst 1, 1), (40, .iadd, 1), (41, .putfield 407, 3), (44, .aload_n 0, 1), (45, .iload 4, 2), (47, .ifCond .eq 22, 3), (50, .aload_n 0, 1), (51, .getfield 113, 3), (54, .aload_n 0, 1), (55, .getfield 8, 3), (58, .iload_n 1, 1), (59, .invokestatic 294, 3), (62, .iconst 1, 1), (63, .iadd, 1), (64, .iaload, 1), (65, .iaload, 1), (66, .goto 14, 3), (69, .aload_n 0, 1), (70, .getfield 64, 3), (73, .bipush 6, 2), (75, .iload_n 1, 1), (76, .imul, 1), (77, .iload_n 2, 1), (78, .iadd, 1), (79, .iaload, 1)]
set_option maxRecDepth 20000 in
theorem dn_305_0_1_ok : dn_305_0_1.all (fun q => decide (decode (xm_b n_305) q.1 = .ok (q.2.1, q.2.2))) = true := xa_g_ok (by decide +kernel)
def dn_305_0_2 : List (Nat × Instr × Nat) := [(80, .putfield 410, 3), (83, .return_, 1)]
set_option maxRecDepth 20000 in
theorem dn_305_0_2_ok : dn_305_0_2.all (fun q => decide (decode (xm_b n_305) q.1 = .ok (q.2.1, q.2.2))) = true := xa_g_ok (by decide +kernel)
def te_305_0 : Nat → eE := (e_T 19 (e_T 7 (e_T 2 (e_T 0 (e_L 0 (0, ei_load 2 0 1, 0, 0)) (e_T 1 (e_L 1 (0, ei_load 0 2 2, 0, 0)) (e_L 2 (0, ei_getf eft elay 12 15 5, 0, 0)))) (e_T 5 (e_L 5 (0, ei_load 1 0 6, 0, 0)) (e_T 6 (e_L 6 (0, ei_ald elay false 7, 0, 0)) (e_L 7 (0, ei_if2 1 14 10, 0, 0))))) (e_T 14 (e_T 10 (e_L 10 (0, ei_push (0, 1) 11, 0, 0)) (e_T 11 (e_L 11 (0, ei_goto 15, 0, 0)) (e_L 14 (0, ei_push (0, 0) 15, 0, 0)))) (e_T 17 (e_T 15 (e_L 15 (0, ei_stor 4 0 17, 0, 0)) (e_L 17 (0, ei_load 0 2 18, 0, 0))) (e_T 18 (e_L 18 (0, ei_load 3 0 19, 0, 0)) (e_L 19 (0, ei_load 2 0 20, 0, 0)))))) (e_T 30 (e_T 24 (e_T 20 (e_L 20 (0, ei_bin eF_add 21, 0, 0)) (e_T 21 (e_L 21 (0, ei_putf eft elay 12 58 0 24, 0, 0)) (e_L 24 (0, ei_load 0 2 25, 0, 0)))) (e_T 25 (e_L 25 (0, ei_load 4 0 27, 0, 0)) (e_T 27 (e_L 27 (0, ei_if1 0 36 30, 0, 0)) (e_L 30 (0, ei_load 3 0 31, 0, 0))))) (e_T 33 (e_T 31 (e_L 31 (0, ei_load 2 0 32, 0, 0)) (e_T 32 (e_L 32 (0, ei_bin eF_add 33, 0, 0)) (e_L 33 (0, ei_goto 41, 0, 0)))) (e_T 37 (e_T 36 (e_L 36 (0, ei_load 3 0 37, 0, 0)) (e_L 37 (0, ei_load 2 0 38, 0, 0))) (e_T 38 (e_L 38 (0, ei_bin eF_add 39, 0, 0)) (e_L 39 (0, ei_push (0, 1) 40, 0, 0)))))))
set_option maxRecDepth 20000 in
set_option maxHeartbeats 4000000 in
theorem te_305_0_ok : ∀ pc, e_EOq eft cls elay eI n_305 pc (te_305_0 pc) :=
  (e_Tok2
  (e_Tok2
  (e_Tok2
  (e_Tok2
  (e_Lok (ld_iload_n_2 (x_dk dn_305_0_0_ok 0 rfl)))
  (e_Tok2
  (e_Lok (ld_aload_n_0 (x_dk dn_305_0_0_ok 1 rfl)))
  (e_Lok (lk_12_43g ho_305 (x_dk dn_305_0_0_ok 2 rfl)))))
  (e_Tok2
  (e_Lok (ld_iload_n_1 (x_dk dn_305_0_0_ok 3 rfl)))
  (e_Tok2
  (e_Lok (sm_iaload (x_dk dn_305_0_0_ok 4 rfl)))
  (e_Lok (e_st (I := eI) (er_icmpne (off := 7) (tg := 14) (x_dk dn_305_0_0_ok 5 rfl) (by decide)) nx_if2)))))
  (e_Tok2
  (e_Tok2
  (e_Lok (ps_iconst_1 (x_dk dn_305_0_0_ok 6 rfl)))
  (e_Tok2
  (e_Lok (e_st (I := eI) (er_goto (off := 4) (tg := 15) (x_dk dn_305_0_0_ok 7 rfl) (by decide)) nx_goto))
  (e_Lok (ps_iconst_0 (x_dk dn_305_0_0_ok 8 rfl)))))
  (e_Tok2
  (e_Tok2
  (e_Lok (e_st (I := eI) (er_istore (i := 4) (x_dk dn_305_0_0_ok 9 rfl) (by decide +kernel)) nx_stor))
  (e_Lok (ld_aload_n_0 (x_dk dn_305_0_0_ok 10 rfl))))
  (e_Tok2
  (e_Lok (ld_iload_n_3 (x_dk dn_305_0_0_ok 11 rfl)))
  (e_Lok (ld_iload_n_2 (x_dk dn_305_0_0_ok 12 rfl)))))))
  (e_Tok2
  (e_Tok2
  (e_Tok2
  (e_Lok (sm_iadd (x_dk dn_305_0_0_ok 13 rfl)))
  (e_Tok2
  (e_Lok (lk_12_404p ho_305 (x_dk dn_305_0_0_ok 14 rfl)))
  (e_Lok (ld_aload_n_0 (x_dk dn_305_0_0_ok 15 rfl)))))
  (e_Tok2
  (e_Lok (ld_iload_4 (x_dk dn_305_0_0_ok 16 rfl)))
  (e_Tok2
  (e_Lok (e_st (I := eI) (er_ifeq (off := 9) (tg := 36) (x_dk dn_305_0_0_ok 17 rfl) (by decide)) nx_if1))
  (e_Lok (ld_iload_n_3 (x_dk dn_305_0_0_ok 18 rfl))))))
  (e_Tok2
  (e_Tok2
  (e_Lok (ld_iload_n_2 (x_dk dn_305_0_0_ok 19 rfl)))
  (e_Tok2
  (e_Lok (sm_iadd (x_dk dn_305_0_0_ok 20 rfl)))
  (e_Lok (e_st (I := eI) (er_goto (off := 8) (tg := 41) (x_dk dn_305_0_0_ok 21 rfl) (by decide)) nx_goto))))
  (e_Tok2
  (e_Tok2
  (e_Lok (ld_iload_n_3 (x_dk dn_305_0_0_ok 22 rfl)))
  (e_Lok (ld_iload_n_2 (x_dk dn_305_0_0_ok 23 rfl))))
  (e_Tok2
  (e_Lok (sm_iadd (x_dk dn_305_0_0_ok 24 rfl)))
  (e_Lok (ps_iconst_1 (x_dk dn_305_0_1_ok 0 rfl))))))))
def te_305_26 : Nat → eE := (e_T 63 (e_T 50 (e_T 44 (e_T 40 (e_L 40 (0, ei_bin eF_add 41, 0, 0)) (e_T 41 (e_L 41 (0, ei_putf eft elay 12 59 0 44, 0, 0)) (e_L 44 (0, ei_load 0 2 45, 0, 0)))) (e_T 45 (e_L 45 (0, ei_load 4 0 47, 0, 0)) (e_T 47 (e_L 47 (0, ei_if1 0 69 50, 0, 0)) (e_L 50 (0, ei_load 0 2 51, 0, 0))))) (e_T 55 (e_T 51 (e_L 51 (0, ei_getf eft elay 12 41 54, 0, 0)) (e_T 54 (e_L 54 (0, ei_load 0 2 55, 0, 0)) (e_L 55 (0, ei_getf eft elay 12 0 58, 0, 0)))) (e_T 59 (e_T 58 (e_L 58 (0, ei_load 1 0 59, 0, 0)) (e_L 59 (2, e_nof, 268, 1))) (e_T 62 (e_L 62 (0, ei_push (0, 1) 63, 0, 0)) (e_L 63 (0, ei_bin eF_add 64, 0, 0)))))) (e_T 73 (e_T 66 (e_T 64 (e_L 64 (0, ei_ald elay false 65, 0, 0)) (e_T 65 (e_L 65 (0, ei_ald elay false 66, 0, 0)) (e_L 66 (0, ei_goto 80, 0, 0)))) (e_T 69 (e_L 69 (0, ei_load 0 2 70, 0, 0)) (e_T 70 (e_L 70 (0, ei_getf eft elay 12 22 73, 0, 0)) (e_L 73 (0, ei_push (0, 6) 75, 0, 0))))) (e_T 77 (e_T 75 (e_L 75 (0, ei_load 1 0 76, 0, 0)) (e_T 76 (e_L 76 (0, ei_bin eF_mul 77, 0, 0)) (e_L 77 (0, ei_load 2 0 78, 0, 0)))) (e_T 79 (e_T 78 (e_L 78 (0, ei_bin eF_add 79, 0, 0)) (e_L 79 (0, ei_ald elay false 80, 0, 0))) (e_T 80 (e_L 80 (0, ei_putf eft elay 12 60 0 83, 0, 0)) (e_L 83 (1, e_nof, 0, 0)))))))
set_option maxRecDepth 20000 in
set_option maxHeartbeats 4000000 in
theorem te_305_26_ok : ∀ pc, e_EOq eft cls elay eI n_305 pc (te_305_26 pc) :=
  (e_Tok2
  (e_Tok2
  (e_Tok2
  (e_Tok2
  (e_Lok (sm_iadd (x_dk dn_305_0_1_ok 1 rfl)))
  (e_Tok2
  (e_Lok (lk_12_407p ho_305 (x_dk dn_305_0_1_ok 2 rfl)))
  (e_Lok (ld_aload_n_0 (x_dk dn_305_0_1_ok 3 rfl)))))
  (e_Tok2
  (e_Lok (ld_iload_4 (x_dk dn_305_0_1_ok 4 rfl)))
  (e_Tok2
  (e_Lok (e_st (I := eI) (er_ifeq (off := 22) (tg := 69) (x_dk dn_305_0_1_ok 5 rfl) (by decide)) nx_if1))
  (e_Lok (ld_aload_n_0 (x_dk dn_305_0_1_ok 6 rfl))))))
  (e_Tok2
  (e_Tok2
  (e_Lok (lk_12_113g ho_305 (x_dk dn_305_0_1_ok 7 rfl)))
  (e_Tok2
  (e_Lok (ld_aload_n_0 (x_dk dn_305_0_1_ok 8 rfl)))
  (e_Lok (lk_12_8g ho_305 (x_dk dn_305_0_1_ok 9 rfl)))))
  (e_Tok2
  (e_Tok2
  (e_Lok (ld_iload_n_1 (x_dk dn_305_0_1_ok 10 rfl)))
  (e_Lok (lk_12_294 ho_305 (x_dk dn_305_0_1_ok 11 rfl))))
  (e_Tok2
  (e_Lok (ps_iconst_1 (x_dk dn_305_0_1_ok 12 rfl)))
  (e_Lok (sm_iadd (x_dk dn_305_0_1_ok 13 rfl)))))))
  (e_Tok2
  (e_Tok2
  (e_Tok2
  (e_Lok (sm_iaload (x_dk dn_305_0_1_ok 14 rfl)))
  (e_Tok2
  (e_Lok (sm_iaload (x_dk dn_305_0_1_ok 15 rfl)))
  (e_Lok (e_st (I := eI) (er_goto (off := 14) (tg := 80) (x_dk dn_305_0_1_ok 16 rfl) (by decide)) nx_goto))))
  (e_Tok2
  (e_Lok (ld_aload_n_0 (x_dk dn_305_0_1_ok 17 rfl)))
  (e_Tok2
  (e_Lok (lk_12_64g ho_305 (x_dk dn_305_0_1_ok 18 rfl)))
  (e_Lok (ps_bipush_6 (x_dk dn_305_0_1_ok 19 rfl))))))
  (e_Tok2
  (e_Tok2
  (e_Lok (ld_iload_n_1 (x_dk dn_305_0_1_ok 20 rfl)))
  (e_Tok2
  (e_Lok (sm_imul (x_dk dn_305_0_1_ok 21 rfl)))
  (e_Lok (ld_iload_n_2 (x_dk dn_305_0_1_ok 22 rfl)))))
  (e_Tok2
  (e_Tok2
  (e_Lok (sm_iadd (x_dk dn_305_0_1_ok 23 rfl)))
  (e_Lok (sm_iaload (x_dk dn_305_0_1_ok 24 rfl))))
  (e_Tok2
  (e_Lok (lk_12_410p ho_305 (x_dk dn_305_0_2_ok 0 rfl)))
  (e_Lok (e_rt (I := eI) (k := 0) ⟨(x_dk dn_305_0_2_ok 1 rfl), rfl⟩)))))))
def te_305 : Nat → eE := (e_T 39 te_305_0 te_305_26)
theorem te_305_ok : ∀ pc, e_EOq eft cls elay eI n_305 pc (te_305 pc) := (e_Tok2 (te_305_0_ok) (te_305_26_ok))
theorem ho_306 : (xm_y n_306).cls = "RobotCellHouseModel" := rfl
def dn_306_0_0 : List (Nat × Instr × Nat) := [(0, .lload_n 0, 1), (1, .lload_n 0, 1), (2, .lmul, 1), (3, .lload_n 2, 1), (4, .lload_n 2, 1), (5, .lmul, 1), (6, .ladd, 1), (7, .lload 4, 2), (9, .lload 4, 2), (11, .lmul, 1), (12, .lcmp, 1), (13, .ifCond .gt 7, 3), (16, .iconst 1, 1), (17, .goto 4, 3), (20, .iconst 0, 1), (21, .ireturn, 1)]
set_option maxRecDepth 20000 in
theorem dn_306_0_0_ok : dn_306_0_0.all (fun q => decide (decode (xm_b n_306) q.1 = .ok (q.2.1, q.2.2))) = true := xa_g_ok (by decide +kernel)
def te_306_0 : Nat → eE := (e_T 7 (e_T 3 (e_T 1 (e_T 0 (e_L 0 (0, ei_load 0 1 1, 0, 0)) (e_L 1 (0, ei_load 0 1 2, 0, 0))) (e_T 2 (e_L 2 (0, ei_binL eG_mul 3, 0, 0)) (e_L 3 (0, ei_load 2 1 4, 0, 0)))) (e_T 5 (e_T 4 (e_L 4 (0, ei_load 2 1 5, 0, 0)) (e_L 5 (0, ei_binL eG_mul 6, 0, 0))) (e_T 6 (e_L 6 (0, ei_binL eG_add 7, 0, 0)) (e_L 7 (0, ei_load 4 1 9, 0, 0))))) (e_T 13 (e_T 11 (e_T 9 (e_L 9 (0, ei_load 4 1 11, 0, 0)) (e_L 11 (0, ei_binL eG_mul 12, 0, 0))) (e_T 12 (e_L 12 (0, ei_binL eG_cmp 13, 0, 0)) (e_L 13 (0, ei_if1 4 20 16, 0, 0)))) (e_T 17 (e_T 16 (e_L 16 (0, ei_push (0, 1) 17, 0, 0)) (e_L 17 (0, ei_goto 21, 0, 0))) (e_T 20 (e_L 20 (0, ei_push (0, 0) 21, 0, 0)) (e_L 21 (1, e_nof, 4, 0))))))
set_option maxRecDepth 20000 in
set_option maxHeartbeats 4000000 in
theorem te_306_0_ok : ∀ pc, e_EOq eft cls elay eI n_306 pc (te_306_0 pc) :=
  (e_Tok2
  (e_Tok2
  (e_Tok2
  (e_Tok2
  (e_Lok (ld_lload_n_0 (x_dk dn_306_0_0_ok 0 rfl)))
  (e_Lok (ld_lload_n_0 (x_dk dn_306_0_0_ok 1 rfl))))
  (e_Tok2
  (e_Lok (e_st (I := eI) (er_lmul (x_dk dn_306_0_0_ok 2 rfl)) (nx_binL bG_lmul)))
  (e_Lok (ld_lload_n_2 (x_dk dn_306_0_0_ok 3 rfl)))))
  (e_Tok2
  (e_Tok2
  (e_Lok (ld_lload_n_2 (x_dk dn_306_0_0_ok 4 rfl)))
  (e_Lok (e_st (I := eI) (er_lmul (x_dk dn_306_0_0_ok 5 rfl)) (nx_binL bG_lmul))))
  (e_Tok2
  (e_Lok (e_st (I := eI) (er_ladd (x_dk dn_306_0_0_ok 6 rfl)) (nx_binL bG_ladd)))
  (e_Lok (ld_lload_4 (x_dk dn_306_0_0_ok 7 rfl))))))
  (e_Tok2
  (e_Tok2
  (e_Tok2
  (e_Lok (ld_lload_4 (x_dk dn_306_0_0_ok 8 rfl)))
  (e_Lok (e_st (I := eI) (er_lmul (x_dk dn_306_0_0_ok 9 rfl)) (nx_binL bG_lmul))))
  (e_Tok2
  (e_Lok (e_st (I := eI) (er_lcmp (x_dk dn_306_0_0_ok 10 rfl)) (nx_binL bG_lcmp)))
  (e_Lok (e_st (I := eI) (er_ifgt (off := 7) (tg := 20) (x_dk dn_306_0_0_ok 11 rfl) (by decide)) nx_if1))))
  (e_Tok2
  (e_Tok2
  (e_Lok (ps_iconst_1 (x_dk dn_306_0_0_ok 12 rfl)))
  (e_Lok (e_st (I := eI) (er_goto (off := 4) (tg := 21) (x_dk dn_306_0_0_ok 13 rfl) (by decide)) nx_goto)))
  (e_Tok2
  (e_Lok (ps_iconst_0 (x_dk dn_306_0_0_ok 14 rfl)))
  (e_Lok (e_rt (I := eI) (k := 4) ⟨(x_dk dn_306_0_0_ok 15 rfl), rfl⟩))))))
def te_306 : Nat → eE := te_306_0
theorem te_306_ok : ∀ pc, e_EOq eft cls elay eI n_306 pc (te_306 pc) := te_306_0_ok
theorem ho_307 : (xm_y n_307).cls = "RobotCellHouseModel" := rfl
def dn_307_0_0 : List (Nat × Instr × Nat) := [(0, .lload 8, 2), (2, .lload 4, 2), (4, .lsub, 1), (5, .lstore 14, 2), (7, .lload 10, 2), (9, .lload 6, 2), (11, .lsub, 1), (12, .lstore 16, 2), (14, .lload_n 0, 1), (15, .lload 4, 2), (17, .lsub, 1), (18, .lstore 18, 2), (20, .lload_n 2, 1), (21, .lload 6, 2), (23, .lsub, 1), (24, .lstore 20, 2), (26, .lload 14, 2), (28, .lload 18, 2), (30, .lmul, 1), (31, .lload 16, 2), (33, .lload 20, 2), (35, .lmul, 1), (36, .ladd, 1), (37, .lstore 22, 2), (39, .lload 14, 2)]
set_option maxRecDepth 20000 in
theorem dn_307_0_0_ok : dn_307_0_0.all (fun q => decide (decode (xm_b n_307) q.1 = .ok (q.2.1, q.2.2))) = true := xa_g_ok (by decide +kernel)
def dn_307_0_1 : List (Nat × Instr × Nat) := [(41, .lload 14, 2), (43, .lmul, 1), (44, .lload 16, 2), (46, .lload 16, 2), (48, .lmul, 1), (49, .ladd, 1), (50, .lstore 24, 2), (52, .lload 22, 2), (54, .lconst 0, 1), (55, .lcmp, 1), (56, .ifCond .gt 13, 3), (59, .lload 18, 2), (61, .lload 20, 2), (63, .lload 12, 2), (65, .invokestatic 413, 3), (68, .ireturn, 1), (69, .lload 22, 2), (71, .lload 24, 2), (73, .lcmp, 1), (74, .ifCond .lt 17, 3), (77, .lload_n 0, 1), (78, .lload 8, 2), (80, .lsub, 1), (81, .lload_n 2, 1), (82, .lload 10, 2)]
set_option maxRecDepth 20000 in
theorem dn_307_0_1_ok : dn_307_0_1.all (fun q => decide (decode (xm_b n_307) q.1 = .ok (q.2.1, q.2.2))) = true := xa_g_ok (by decide +kernel)
def dn_307_0_2 : List (Nat × Instr × Nat) := [(84, .lsub, 1), (85, .lload 12, 2), (87, .invokestatic 413, 3), (90, .ireturn, 1), (91, .lload 14, 2), (93, .lload 20, 2), (95, .lmul, 1), (96, .lload 16, 2), (98, .lload 18, 2), (100, .lmul, 1), (101, .lsub, 1), (102, .lstore 26, 2), (104, .lload 26, 2), (106, .lload 26, 2), (108, .lmul, 1), (109, .lload 12, 2), (111, .lload 12, 2), (113, .lmul, 1), (114, .lload 24, 2), (116, .lmul, 1), (117, .lcmp, 1), (118, .ifCond .gt 7, 3), (121, .iconst 1, 1), (122, .goto 4, 3), (125, .iconst 0, 1)]
set_option maxRecDepth 20000 in
theorem dn_307_0_2_ok : dn_307_0_2.all (fun q => decide (decode (xm_b n_307) q.1 = .ok (q.2.1, q.2.2))) = true := xa_g_ok (by decide +kernel)
def dn_307_0_3 : List (Nat × Instr × Nat) := [(126, .ireturn, 1)]
set_option maxRecDepth 20000 in
theorem dn_307_0_3_ok : dn_307_0_3.all (fun q => decide (decode (xm_b n_307) q.1 = .ok (q.2.1, q.2.2))) = true := xa_g_ok (by decide +kernel)
def te_307_0 : Nat → eE := (e_T 30 (e_T 14 (e_T 5 (e_T 2 (e_T 0 (e_L 0 (0, ei_load 8 1 2, 0, 0)) (e_L 2 (0, ei_load 4 1 4, 0, 0))) (e_T 4 (e_L 4 (0, ei_binL eG_sub 5, 0, 0)) (e_L 5 (0, ei_stor 14 1 7, 0, 0)))) (e_T 9 (e_T 7 (e_L 7 (0, ei_load 10 1 9, 0, 0)) (e_L 9 (0, ei_load 6 1 11, 0, 0))) (e_T 11 (e_L 11 (0, ei_binL eG_sub 12, 0, 0)) (e_T 12 (e_L 12 (0, ei_stor 16 1 14, 0, 0)) (e_L 14 (0, ei_load 0 1 15, 0, 0)))))) (e_T 21 (e_T 17 (e_T 15 (e_L 15 (0, ei_load 4 1 17, 0, 0)) (e_L 17 (0, ei_binL eG_sub 18, 0, 0))) (e_T 18 (e_L 18 (0, ei_stor 18 1 20, 0, 0)) (e_T 20 (e_L 20 (0, ei_load 2 1 21, 0, 0)) (e_L 21 (0, ei_load 6 1 23, 0, 0))))) (e_T 24 (e_T 23 (e_L 23 (0, ei_binL eG_sub 24, 0, 0)) (e_L 24 (0, ei_stor 20 1 26, 0, 0))) (e_T 26 (e_L 26 (0, ei_load 14 1 28, 0, 0)) (e_T 28 (e_L 28 (0, ei_load 18 1 30, 0, 0)) (e_L 30 (0, ei_binL eG_mul 31, 0, 0))))))) (e_T 44 (e_T 36 (e_T 33 (e_T 31 (e_L 31 (0, ei_load 16 1 33, 0, 0)) (e_L 33 (0, ei_load 20 1 35, 0, 0))) (e_T 35 (e_L 35 (0, ei_binL eG_mul 36, 0, 0)) (e_L 36 (0, ei_binL eG_add 37, 0, 0)))) (e_T 39 (e_T 37 (e_L 37 (0, ei_stor 22 1 39, 0, 0)) (e_L 39 (0, ei_load 14 1 41, 0, 0))) (e_T 41 (e_L 41 (0, ei_load 14 1 43, 0, 0)) (e_T 43 (e_L 43 (0, ei_binL eG_mul 44, 0, 0)) (e_L 44 (0, ei_load 16 1 46, 0, 0)))))) (e_T 52 (e_T 48 (e_T 46 (e_L 46 (0, ei_load 16 1 48, 0, 0)) (e_L 48 (0, ei_binL eG_mul 49, 0, 0))) (e_T 49 (e_L 49 (0, ei_binL eG_add 50, 0, 0)) (e_T 50 (e_L 50 (0, ei_stor 24 1 52, 0, 0)) (e_L 52 (0, ei_load 22 1 54, 0, 0))))) (e_T 55 (e_T 54 (e_L 54 (0, ei_push (4, 0) 55, 0, 0)) (e_L 55 (0, ei_binL eG_cmp 56, 0, 0))) (e_T 56 (e_L 56 (0, ei_if1 4 69 59, 0, 0)) (e_T 59 (e_L 59 (0, ei_load 18 1 61, 0, 0)) (e_L 61 (0, ei_load 20 1 63, 0, 0))))))))
set_option maxRecDepth 20000 in
set_option maxHeartbeats 4000000 in
theorem te_307_0_ok : ∀ pc, e_EOq eft cls elay eI n_307 pc (te_307_0 pc) :=
  (e_Tok2
  (e_Tok2
  (e_Tok2
  (e_Tok2
  (e_Tok2
  (e_Lok (ld_lload_8 (x_dk dn_307_0_0_ok 0 rfl)))
  (e_Lok (ld_lload_4 (x_dk dn_307_0_0_ok 1 rfl))))
  (e_Tok2
  (e_Lok (e_st (I := eI) (er_lsub (x_dk dn_307_0_0_ok 2 rfl)) (nx_binL bG_lsub)))
  (e_Lok (e_st (I := eI) (er_lstore (i := 14) (x_dk dn_307_0_0_ok 3 rfl) (by decide +kernel)) nx_stor))))
  (e_Tok2
  (e_Tok2
  (e_Lok (ld_lload_10 (x_dk dn_307_0_0_ok 4 rfl)))
  (e_Lok (ld_lload_6 (x_dk dn_307_0_0_ok 5 rfl))))
  (e_Tok2
  (e_Lok (e_st (I := eI) (er_lsub (x_dk dn_307_0_0_ok 6 rfl)) (nx_binL bG_lsub)))
  (e_Tok2
  (e_Lok (e_st (I := eI) (er_lstore (i := 16) (x_dk dn_307_0_0_ok 7 rfl) (by decide +kernel)) nx_stor))
  (e_Lok (ld_lload_n_0 (x_dk dn_307_0_0_ok 8 rfl)))))))
  (e_Tok2
  (e_Tok2
  (e_Tok2
  (e_Lok (ld_lload_4 (x_dk dn_307_0_0_ok 9 rfl)))
  (e_Lok (e_st (I := eI) (er_lsub (x_dk dn_307_0_0_ok 10 rfl)) (nx_binL bG_lsub))))
  (e_Tok2
  (e_Lok (e_st (I := eI) (er_lstore (i := 18) (x_dk dn_307_0_0_ok 11 rfl) (by decide +kernel)) nx_stor))
  (e_Tok2
  (e_Lok (ld_lload_n_2 (x_dk dn_307_0_0_ok 12 rfl)))
  (e_Lok (ld_lload_6 (x_dk dn_307_0_0_ok 13 rfl))))))
  (e_Tok2
  (e_Tok2
  (e_Lok (e_st (I := eI) (er_lsub (x_dk dn_307_0_0_ok 14 rfl)) (nx_binL bG_lsub)))
  (e_Lok (e_st (I := eI) (er_lstore (i := 20) (x_dk dn_307_0_0_ok 15 rfl) (by decide +kernel)) nx_stor)))
  (e_Tok2
  (e_Lok (ld_lload_14 (x_dk dn_307_0_0_ok 16 rfl)))
  (e_Tok2
  (e_Lok (ld_lload_18 (x_dk dn_307_0_0_ok 17 rfl)))
  (e_Lok (e_st (I := eI) (er_lmul (x_dk dn_307_0_0_ok 18 rfl)) (nx_binL bG_lmul))))))))
  (e_Tok2
  (e_Tok2
  (e_Tok2
  (e_Tok2
  (e_Lok (ld_lload_16 (x_dk dn_307_0_0_ok 19 rfl)))
  (e_Lok (ld_lload_20 (x_dk dn_307_0_0_ok 20 rfl))))
  (e_Tok2
  (e_Lok (e_st (I := eI) (er_lmul (x_dk dn_307_0_0_ok 21 rfl)) (nx_binL bG_lmul)))
  (e_Lok (e_st (I := eI) (er_ladd (x_dk dn_307_0_0_ok 22 rfl)) (nx_binL bG_ladd)))))
  (e_Tok2
  (e_Tok2
  (e_Lok (e_st (I := eI) (er_lstore (i := 22) (x_dk dn_307_0_0_ok 23 rfl) (by decide +kernel)) nx_stor))
  (e_Lok (ld_lload_14 (x_dk dn_307_0_0_ok 24 rfl))))
  (e_Tok2
  (e_Lok (ld_lload_14 (x_dk dn_307_0_1_ok 0 rfl)))
  (e_Tok2
  (e_Lok (e_st (I := eI) (er_lmul (x_dk dn_307_0_1_ok 1 rfl)) (nx_binL bG_lmul)))
  (e_Lok (ld_lload_16 (x_dk dn_307_0_1_ok 2 rfl)))))))
  (e_Tok2
  (e_Tok2
  (e_Tok2
  (e_Lok (ld_lload_16 (x_dk dn_307_0_1_ok 3 rfl)))
  (e_Lok (e_st (I := eI) (er_lmul (x_dk dn_307_0_1_ok 4 rfl)) (nx_binL bG_lmul))))
  (e_Tok2
  (e_Lok (e_st (I := eI) (er_ladd (x_dk dn_307_0_1_ok 5 rfl)) (nx_binL bG_ladd)))
  (e_Tok2
  (e_Lok (e_st (I := eI) (er_lstore (i := 24) (x_dk dn_307_0_1_ok 6 rfl) (by decide +kernel)) nx_stor))
  (e_Lok (ld_lload_22 (x_dk dn_307_0_1_ok 7 rfl))))))
  (e_Tok2
  (e_Tok2
  (e_Lok (ps_lconst_0 (x_dk dn_307_0_1_ok 8 rfl)))
  (e_Lok (e_st (I := eI) (er_lcmp (x_dk dn_307_0_1_ok 9 rfl)) (nx_binL bG_lcmp))))
  (e_Tok2
  (e_Lok (e_st (I := eI) (er_ifgt (off := 13) (tg := 69) (x_dk dn_307_0_1_ok 10 rfl) (by decide)) nx_if1))
  (e_Tok2
  (e_Lok (ld_lload_18 (x_dk dn_307_0_1_ok 11 rfl)))
  (e_Lok (ld_lload_20 (x_dk dn_307_0_1_ok 12 rfl)))))))))
def te_307_38 : Nat → eE := (e_T 95 (e_T 78 (e_T 69 (e_T 65 (e_T 63 (e_L 63 (0, ei_load 12 1 65, 0, 0)) (e_L 65 (2, e_nof, 306, 3))) (e_T 68 (e_L 68 (1, e_nof, 4, 0)) (e_L 69 (0, ei_load 22 1 71, 0, 0)))) (e_T 73 (e_T 71 (e_L 71 (0, ei_load 24 1 73, 0, 0)) (e_L 73 (0, ei_binL eG_cmp 74, 0, 0))) (e_T 74 (e_L 74 (0, ei_if1 2 91 77, 0, 0)) (e_T 77 (e_L 77 (0, ei_load 0 1 78, 0, 0)) (e_L 78 (0, ei_load 8 1 80, 0, 0)))))) (e_T 85 (e_T 81 (e_T 80 (e_L 80 (0, ei_binL eG_sub 81, 0, 0)) (e_L 81 (0, ei_load 2 1 82, 0, 0))) (e_T 82 (e_L 82 (0, ei_load 10 1 84, 0, 0)) (e_T 84 (e_L 84 (0, ei_binL eG_sub 85, 0, 0)) (e_L 85 (0, ei_load 12 1 87, 0, 0))))) (e_T 90 (e_T 87 (e_L 87 (2, e_nof, 306, 3)) (e_L 90 (1, e_nof, 4, 0))) (e_T 91 (e_L 91 (0, ei_load 14 1 93, 0, 0)) (e_T 93 (e_L 93 (0, ei_load 20 1 95, 0, 0)) (e_L 95 (0, ei_binL eG_mul 96, 0, 0))))))) (e_T 109 (e_T 101 (e_T 98 (e_T 96 (e_L 96 (0, ei_load 16 1 98, 0, 0)) (e_L 98 (0, ei_load 18 1 100, 0, 0))) (e_T 100 (e_L 100 (0, ei_binL eG_mul 101, 0, 0)) (e_L 101 (0, ei_binL eG_sub 102, 0, 0)))) (e_T 104 (e_T 102 (e_L 102 (0, ei_stor 26 1 104, 0, 0)) (e_L 104 (0, ei_load 26 1 106, 0, 0))) (e_T 106 (e_L 106 (0, ei_load 26 1 108, 0, 0)) (e_T 108 (e_L 108 (0, ei_binL eG_mul 109, 0, 0)) (e_L 109 (0, ei_load 12 1 111, 0, 0)))))) (e_T 117 (e_T 113 (e_T 111 (e_L 111 (0, ei_load 12 1 113, 0, 0)) (e_L 113 (0, ei_binL eG_mul 114, 0, 0))) (e_T 114 (e_L 114 (0, ei_load 24 1 116, 0, 0)) (e_T 116 (e_L 116 (0, ei_binL eG_mul 117, 0, 0)) (e_L 117 (0, ei_binL eG_cmp 118, 0, 0))))) (e_T 121 (e_T 118 (e_L 118 (0, ei_if1 4 125 121, 0, 0)) (e_L 121 (0, ei_push (0, 1) 122, 0, 0))) (e_T 122 (e_L 122 (0, ei_goto 126, 0, 0)) (e_T 125 (e_L 125 (0, ei_push (0, 0) 126, 0, 0)) (e_L 126 (1, e_nof, 4, 0))))))))
set_option maxRecDepth 20000 in
set_option maxHeartbeats 4000000 in
theorem te_307_38_ok : ∀ pc, e_EOq eft cls elay eI n_307 pc (te_307_38 pc) :=
  (e_Tok2
  (e_Tok2
  (e_Tok2
  (e_Tok2
  (e_Tok2
  (e_Lok (ld_lload_12 (x_dk dn_307_0_1_ok 13 rfl)))
  (e_Lok (lk_12_413 ho_307 (x_dk dn_307_0_1_ok 14 rfl))))
  (e_Tok2
  (e_Lok (e_rt (I := eI) (k := 4) ⟨(x_dk dn_307_0_1_ok 15 rfl), rfl⟩))
  (e_Lok (ld_lload_22 (x_dk dn_307_0_1_ok 16 rfl)))))
  (e_Tok2
  (e_Tok2
  (e_Lok (ld_lload_24 (x_dk dn_307_0_1_ok 17 rfl)))
  (e_Lok (e_st (I := eI) (er_lcmp (x_dk dn_307_0_1_ok 18 rfl)) (nx_binL bG_lcmp))))
  (e_Tok2
  (e_Lok (e_st (I := eI) (er_iflt (off := 17) (tg := 91) (x_dk dn_307_0_1_ok 19 rfl) (by decide)) nx_if1))
  (e_Tok2
  (e_Lok (ld_lload_n_0 (x_dk dn_307_0_1_ok 20 rfl)))
  (e_Lok (ld_lload_8 (x_dk dn_307_0_1_ok 21 rfl)))))))
  (e_Tok2
  (e_Tok2
  (e_Tok2
  (e_Lok (e_st (I := eI) (er_lsub (x_dk dn_307_0_1_ok 22 rfl)) (nx_binL bG_lsub)))
  (e_Lok (ld_lload_n_2 (x_dk dn_307_0_1_ok 23 rfl))))
  (e_Tok2
  (e_Lok (ld_lload_10 (x_dk dn_307_0_1_ok 24 rfl)))
  (e_Tok2
  (e_Lok (e_st (I := eI) (er_lsub (x_dk dn_307_0_2_ok 0 rfl)) (nx_binL bG_lsub)))
  (e_Lok (ld_lload_12 (x_dk dn_307_0_2_ok 1 rfl))))))
  (e_Tok2
  (e_Tok2
  (e_Lok (lk_12_413 ho_307 (x_dk dn_307_0_2_ok 2 rfl)))
  (e_Lok (e_rt (I := eI) (k := 4) ⟨(x_dk dn_307_0_2_ok 3 rfl), rfl⟩)))
  (e_Tok2
  (e_Lok (ld_lload_14 (x_dk dn_307_0_2_ok 4 rfl)))
  (e_Tok2
  (e_Lok (ld_lload_20 (x_dk dn_307_0_2_ok 5 rfl)))
  (e_Lok (e_st (I := eI) (er_lmul (x_dk dn_307_0_2_ok 6 rfl)) (nx_binL bG_lmul))))))))
  (e_Tok2
  (e_Tok2
  (e_Tok2
  (e_Tok2
  (e_Lok (ld_lload_16 (x_dk dn_307_0_2_ok 7 rfl)))
  (e_Lok (ld_lload_18 (x_dk dn_307_0_2_ok 8 rfl))))
  (e_Tok2
  (e_Lok (e_st (I := eI) (er_lmul (x_dk dn_307_0_2_ok 9 rfl)) (nx_binL bG_lmul)))
  (e_Lok (e_st (I := eI) (er_lsub (x_dk dn_307_0_2_ok 10 rfl)) (nx_binL bG_lsub)))))
  (e_Tok2
  (e_Tok2
  (e_Lok (e_st (I := eI) (er_lstore (i := 26) (x_dk dn_307_0_2_ok 11 rfl) (by decide +kernel)) nx_stor))
  (e_Lok (ld_lload_26 (x_dk dn_307_0_2_ok 12 rfl))))
  (e_Tok2
  (e_Lok (ld_lload_26 (x_dk dn_307_0_2_ok 13 rfl)))
  (e_Tok2
  (e_Lok (e_st (I := eI) (er_lmul (x_dk dn_307_0_2_ok 14 rfl)) (nx_binL bG_lmul)))
  (e_Lok (ld_lload_12 (x_dk dn_307_0_2_ok 15 rfl)))))))
  (e_Tok2
  (e_Tok2
  (e_Tok2
  (e_Lok (ld_lload_12 (x_dk dn_307_0_2_ok 16 rfl)))
  (e_Lok (e_st (I := eI) (er_lmul (x_dk dn_307_0_2_ok 17 rfl)) (nx_binL bG_lmul))))
  (e_Tok2
  (e_Lok (ld_lload_24 (x_dk dn_307_0_2_ok 18 rfl)))
  (e_Tok2
  (e_Lok (e_st (I := eI) (er_lmul (x_dk dn_307_0_2_ok 19 rfl)) (nx_binL bG_lmul)))
  (e_Lok (e_st (I := eI) (er_lcmp (x_dk dn_307_0_2_ok 20 rfl)) (nx_binL bG_lcmp))))))
  (e_Tok2
  (e_Tok2
  (e_Lok (e_st (I := eI) (er_ifgt (off := 7) (tg := 125) (x_dk dn_307_0_2_ok 21 rfl) (by decide)) nx_if1))
  (e_Lok (ps_iconst_1 (x_dk dn_307_0_2_ok 22 rfl))))
  (e_Tok2
  (e_Lok (e_st (I := eI) (er_goto (off := 4) (tg := 126) (x_dk dn_307_0_2_ok 23 rfl) (by decide)) nx_goto))
  (e_Tok2
  (e_Lok (ps_iconst_0 (x_dk dn_307_0_2_ok 24 rfl)))
  (e_Lok (e_rt (I := eI) (k := 4) ⟨(x_dk dn_307_0_3_ok 0 rfl), rfl⟩))))))))
def te_307 : Nat → eE := (e_T 61 te_307_0 te_307_38)
theorem te_307_ok : ∀ pc, e_EOq eft cls elay eI n_307 pc (te_307 pc) := (e_Tok2 (te_307_0_ok) (te_307_38_ok))
theorem ho_308 : (xm_y n_308).cls = "RobotCellHouseModel" := rfl
def dn_308_0_0 : List (Nat × Instr × Nat) := [(0, .lload 4, 2), (2, .lload_n 0, 1), (3, .lsub, 1), (4, .lload 10, 2), (6, .lload_n 2, 1), (7, .lsub, 1), (8, .lmul, 1), (9, .lload 6, 2), (11, .lload_n 2, 1), (12, .lsub, 1), (13, .lload 8, 2), (15, .lload_n 0, 1), (16, .lsub, 1), (17, .lmul, 1), (18, .lsub, 1), (19, .lstore 12, 2), (21, .lload 12, 2), (23, .lconst 0, 1), (24, .lcmp, 1), (25, .ifCond .le 7, 3), (28, .iconst 1, 1), (29, .goto 15, 3), (32, .lload 12, 2), (34, .lconst 0, 1), (35, .lcmp, 1)]
set_option maxRecDepth 20000 in
theorem dn_308_0_0_ok : dn_308_0_0.all (fun q => decide (decode (xm_b n_308) q.1 = .ok (q.2.1, q.2.2))) = true := xa_g_ok (by decide +kernel)
def dn_308_0_1 : List (Nat × Instr × Nat) := [(36, .ifCond .ge 7, 3), (39, .iconst (-1), 1), (40, .goto 4, 3), (43, .iconst 0, 1), (44, .ireturn, 1)]
set_option maxRecDepth 20000 in
theorem dn_308_0_1_ok : dn_308_0_1.all (fun q => decide (decode (xm_b n_308) q.1 = .ok (q.2.1, q.2.2))) = true := xa_g_ok (by decide +kernel)
def te_308_0 : Nat → eE := (e_T 18 (e_T 8 (e_T 3 (e_T 0 (e_L 0 (0, ei_load 4 1 2, 0, 0)) (e_T 2 (e_L 2 (0, ei_load 0 1 3, 0, 0)) (e_L 3 (0, ei_binL eG_sub 4, 0, 0)))) (e_T 6 (e_T 4 (e_L 4 (0, ei_load 10 1 6, 0, 0)) (e_L 6 (0, ei_load 2 1 7, 0, 0))) (e_T 7 (e_L 7 (0, ei_binL eG_sub 8, 0, 0)) (e_L 8 (0, ei_binL eG_mul 9, 0, 0))))) (e_T 13 (e_T 11 (e_T 9 (e_L 9 (0, ei_load 6 1 11, 0, 0)) (e_L 11 (0, ei_load 2 1 12, 0, 0))) (e_T 12 (e_L 12 (0, ei_binL eG_sub 13, 0, 0)) (e_L 13 (0, ei_load 8 1 15, 0, 0)))) (e_T 16 (e_T 15 (e_L 15 (0, ei_load 0 1 16, 0, 0)) (e_L 16 (0, ei_binL eG_sub 17, 0, 0))) (e_T 17 (e_L 17 (0, ei_binL eG_mul 18, 0, 0)) (e_L 18 (0, ei_binL eG_sub 19, 0, 0)))))) (e_T 29 (e_T 23 (e_T 19 (e_L 19 (0, ei_stor 12 1 21, 0, 0)) (e_T 21 (e_L 21 (0, ei_load 12 1 23, 0, 0)) (e_L 23 (0, ei_push (4, 0) 24, 0, 0)))) (e_T 25 (e_T 24 (e_L 24 (0, ei_binL eG_cmp 25, 0, 0)) (e_L 25 (0, ei_if1 5 32 28, 0, 0))) (e_T 28 (e_L 28 (0, ei_push (0, 1) 29, 0, 0)) (e_L 29 (0, ei_goto 44, 0, 0))))) (e_T 36 (e_T 34 (e_T 32 (e_L 32 (0, ei_load 12 1 34, 0, 0)) (e_L 34 (0, ei_push (4, 0) 35, 0, 0))) (e_T 35 (e_L 35 (0, ei_binL eG_cmp 36, 0, 0)) (e_L 36 (0, ei_if1 3 43 39, 0, 0)))) (e_T 40 (e_T 39 (e_L 39 (0, ei_push (0, (-1)) 40, 0, 0)) (e_L 40 (0, ei_goto 44, 0, 0))) (e_T 43 (e_L 43 (0, ei_push (0, 0) 44, 0, 0)) (e_L 44 (1, e_nof, 1, 0)))))))
set_option maxRecDepth 20000 in
set_option maxHeartbeats 4000000 in
theorem te_308_0_ok : ∀ pc, e_EOq eft cls elay eI n_308 pc (te_308_0 pc) :=
  (e_Tok2
  (e_Tok2
  (e_Tok2
  (e_Tok2
  (e_Lok (ld_lload_4 (x_dk dn_308_0_0_ok 0 rfl)))
  (e_Tok2
  (e_Lok (ld_lload_n_0 (x_dk dn_308_0_0_ok 1 rfl)))
  (e_Lok (e_st (I := eI) (er_lsub (x_dk dn_308_0_0_ok 2 rfl)) (nx_binL bG_lsub)))))
  (e_Tok2
  (e_Tok2
  (e_Lok (ld_lload_10 (x_dk dn_308_0_0_ok 3 rfl)))
  (e_Lok (ld_lload_n_2 (x_dk dn_308_0_0_ok 4 rfl))))
  (e_Tok2
  (e_Lok (e_st (I := eI) (er_lsub (x_dk dn_308_0_0_ok 5 rfl)) (nx_binL bG_lsub)))
  (e_Lok (e_st (I := eI) (er_lmul (x_dk dn_308_0_0_ok 6 rfl)) (nx_binL bG_lmul))))))
  (e_Tok2
  (e_Tok2
  (e_Tok2
  (e_Lok (ld_lload_6 (x_dk dn_308_0_0_ok 7 rfl)))
  (e_Lok (ld_lload_n_2 (x_dk dn_308_0_0_ok 8 rfl))))
  (e_Tok2
  (e_Lok (e_st (I := eI) (er_lsub (x_dk dn_308_0_0_ok 9 rfl)) (nx_binL bG_lsub)))
  (e_Lok (ld_lload_8 (x_dk dn_308_0_0_ok 10 rfl)))))
  (e_Tok2
  (e_Tok2
  (e_Lok (ld_lload_n_0 (x_dk dn_308_0_0_ok 11 rfl)))
  (e_Lok (e_st (I := eI) (er_lsub (x_dk dn_308_0_0_ok 12 rfl)) (nx_binL bG_lsub))))
  (e_Tok2
  (e_Lok (e_st (I := eI) (er_lmul (x_dk dn_308_0_0_ok 13 rfl)) (nx_binL bG_lmul)))
  (e_Lok (e_st (I := eI) (er_lsub (x_dk dn_308_0_0_ok 14 rfl)) (nx_binL bG_lsub)))))))
  (e_Tok2
  (e_Tok2
  (e_Tok2
  (e_Lok (e_st (I := eI) (er_lstore (i := 12) (x_dk dn_308_0_0_ok 15 rfl) (by decide +kernel)) nx_stor))
  (e_Tok2
  (e_Lok (ld_lload_12 (x_dk dn_308_0_0_ok 16 rfl)))
  (e_Lok (ps_lconst_0 (x_dk dn_308_0_0_ok 17 rfl)))))
  (e_Tok2
  (e_Tok2
  (e_Lok (e_st (I := eI) (er_lcmp (x_dk dn_308_0_0_ok 18 rfl)) (nx_binL bG_lcmp)))
  (e_Lok (e_st (I := eI) (er_ifle (off := 7) (tg := 32) (x_dk dn_308_0_0_ok 19 rfl) (by decide)) nx_if1)))
  (e_Tok2
  (e_Lok (ps_iconst_1 (x_dk dn_308_0_0_ok 20 rfl)))
  (e_Lok (e_st (I := eI) (er_goto (off := 15) (tg := 44) (x_dk dn_308_0_0_ok 21 rfl) (by decide)) nx_goto)))))
  (e_Tok2
  (e_Tok2
  (e_Tok2
  (e_Lok (ld_lload_12 (x_dk dn_308_0_0_ok 22 rfl)))
  (e_Lok (ps_lconst_0 (x_dk dn_308_0_0_ok 23 rfl))))
  (e_Tok2
  (e_Lok (e_st (I := eI) (er_lcmp (x_dk dn_308_0_0_ok 24 rfl)) (nx_binL bG_lcmp)))
  (e_Lok (e_st (I := eI) (er_ifge (off := 7) (tg := 43) (x_dk dn_308_0_1_ok 0 rfl) (by decide)) nx_if1))))
  (e_Tok2
  (e_Tok2
  (e_Lok (ps_iconst_m1 (x_dk dn_308_0_1_ok 1 rfl)))
  (e_Lok (e_st (I := eI) (er_goto (off := 4) (tg := 44) (x_dk dn_308_0_1_ok 2 rfl) (by decide)) nx_goto)))
  (e_Tok2
  (e_Lok (ps_iconst_0 (x_dk dn_308_0_1_ok 3 rfl)))
  (e_Lok (e_rt (I := eI) (k := 1) ⟨(x_dk dn_308_0_1_ok 4 rfl), rfl⟩)))))))
def te_308 : Nat → eE := te_308_0
theorem te_308_ok : ∀ pc, e_EOq eft cls elay eI n_308 pc (te_308 pc) := te_308_0_ok
theorem ho_309 : (xm_y n_309).cls = "RobotCellHouseModel" := rfl
def dn_309_0_0 : List (Nat × Instr × Nat) := [(0, .lload_n 0, 1), (1, .lload_n 2, 1), (2, .lcmp, 1), (3, .ifCond .ge 7, 3), (6, .lload_n 0, 1), (7, .goto 4, 3), (10, .lload_n 2, 1), (11, .lload 4, 2), (13, .lload 6, 2), (15, .lcmp, 1), (16, .ifCond .ge 8, 3), (19, .lload 6, 2), (21, .goto 5, 3), (24, .lload 4, 2), (26, .lsub, 1), (27, .lload 8, 2), (29, .lcmp, 1), (30, .ifCond .gt 36, 3), (33, .lload 4, 2), (35, .lload 6, 2), (37, .lcmp, 1), (38, .ifCond .ge 8, 3), (41, .lload 4, 2), (43, .goto 5, 3), (46, .lload 6, 2)]
set_option maxRecDepth 20000 in
theorem dn_309_0_0_ok : dn_309_0_0.all (fun q => decide (decode (xm_b n_309) q.1 = .ok (q.2.1, q.2.2))) = true := xa_g_ok (by decide +kernel)
def dn_309_0_1 : List (Nat × Instr × Nat) := [(48, .lload_n 0, 1), (49, .lload_n 2, 1), (50, .lcmp, 1), (51, .ifCond .ge 7, 3), (54, .lload_n 2, 1), (55, .goto 4, 3), (58, .lload_n 0, 1), (59, .lsub, 1), (60, .lload 8, 2), (62, .lcmp, 1), (63, .ifCond .le 7, 3), (66, .iconst 1, 1), (67, .goto 4, 3), (70, .iconst 0, 1), (71, .ireturn, 1)]
set_option maxRecDepth 20000 in
theorem dn_309_0_1_ok : dn_309_0_1.all (fun q => decide (decode (xm_b n_309) q.1 = .ok (q.2.1, q.2.2))) = true := xa_g_ok (by decide +kernel)
def te_309_0 : Nat → eE := (e_T 35 (e_T 15 (e_T 6 (e_T 1 (e_T 0 (e_L 0 (0, ei_load 0 1 1, 0, 0)) (e_L 1 (0, ei_load 2 1 2, 0, 0))) (e_T 2 (e_L 2 (0, ei_binL eG_cmp 3, 0, 0)) (e_T 3 (e_L 3 (0, ei_if1 3 10 6, 0, 0)) (e_L 6 (0, ei_load 0 1 7, 0, 0))))) (e_T 10 (e_T 7 (e_L 7 (0, ei_goto 11, 0, 0)) (e_L 10 (0, ei_load 2 1 11, 0, 0))) (e_T 11 (e_L 11 (0, ei_load 4 1 13, 0, 0)) (e_T 13 (e_L 13 (0, ei_load 6 1 15, 0, 0)) (e_L 15 (0, ei_binL eG_cmp 16, 0, 0)))))) (e_T 26 (e_T 19 (e_T 16 (e_L 16 (0, ei_if1 3 24 19, 0, 0)) (e_L 19 (0, ei_load 6 1 21, 0, 0))) (e_T 21 (e_L 21 (0, ei_goto 26, 0, 0)) (e_T 24 (e_L 24 (0, ei_load 4 1 26, 0, 0)) (e_L 26 (0, ei_binL eG_sub 27, 0, 0))))) (e_T 29 (e_T 27 (e_L 27 (0, ei_load 8 1 29, 0, 0)) (e_L 29 (0, ei_binL eG_cmp 30, 0, 0))) (e_T 30 (e_L 30 (0, ei_if1 4 66 33, 0, 0)) (e_T 33 (e_L 33 (0, ei_load 4 1 35, 0, 0)) (e_L 35 (0, ei_load 6 1 37, 0, 0))))))) (e_T 54 (e_T 46 (e_T 38 (e_T 37 (e_L 37 (0, ei_binL eG_cmp 38, 0, 0)) (e_L 38 (0, ei_if1 3 46 41, 0, 0))) (e_T 41 (e_L 41 (0, ei_load 4 1 43, 0, 0)) (e_T 43 (e_L 43 (0, ei_goto 48, 0, 0)) (e_L 46 (0, ei_load 6 1 48, 0, 0))))) (e_T 49 (e_T 48 (e_L 48 (0, ei_load 0 1 49, 0, 0)) (e_L 49 (0, ei_load 2 1 50, 0, 0))) (e_T 50 (e_L 50 (0, ei_binL eG_cmp 51, 0, 0)) (e_T 51 (e_L 51 (0, ei_if1 3 58 54, 0, 0)) (e_L 54 (0, ei_load 2 1 55, 0, 0)))))) (e_T 62 (e_T 58 (e_T 55 (e_L 55 (0, ei_goto 59, 0, 0)) (e_L 58 (0, ei_load 0 1 59, 0, 0))) (e_T 59 (e_L 59 (0, ei_binL eG_sub 60, 0, 0)) (e_T 60 (e_L 60 (0, ei_load 8 1 62, 0, 0)) (e_L 62 (0, ei_binL eG_cmp 63, 0, 0))))) (e_T 66 (e_T 63 (e_L 63 (0, ei_if1 5 70 66, 0, 0)) (e_L 66 (0, ei_push (0, 1) 67, 0, 0))) (e_T 67 (e_L 67 (0, ei_goto 71, 0, 0)) (e_T 70 (e_L 70 (0, ei_push (0, 0) 71, 0, 0)) (e_L 71 (1, e_nof, 4, 0))))))))
set_option maxRecDepth 20000 in
set_option maxHeartbeats 4000000 in
theorem te_309_0_ok : ∀ pc, e_EOq eft cls elay eI n_309 pc (te_309_0 pc) :=
  (e_Tok2
  (e_Tok2
  (e_Tok2
  (e_Tok2
  (e_Tok2
  (e_Lok (ld_lload_n_0 (x_dk dn_309_0_0_ok 0 rfl)))
  (e_Lok (ld_lload_n_2 (x_dk dn_309_0_0_ok 1 rfl))))
  (e_Tok2
  (e_Lok (e_st (I := eI) (er_lcmp (x_dk dn_309_0_0_ok 2 rfl)) (nx_binL bG_lcmp)))
  (e_Tok2
  (e_Lok (e_st (I := eI) (er_ifge (off := 7) (tg := 10) (x_dk dn_309_0_0_ok 3 rfl) (by decide)) nx_if1))
  (e_Lok (ld_lload_n_0 (x_dk dn_309_0_0_ok 4 rfl))))))
  (e_Tok2
  (e_Tok2
  (e_Lok (e_st (I := eI) (er_goto (off := 4) (tg := 11) (x_dk dn_309_0_0_ok 5 rfl) (by decide)) nx_goto))
  (e_Lok (ld_lload_n_2 (x_dk dn_309_0_0_ok 6 rfl))))
  (e_Tok2
  (e_Lok (ld_lload_4 (x_dk dn_309_0_0_ok 7 rfl)))
  (e_Tok2
  (e_Lok (ld_lload_6 (x_dk dn_309_0_0_ok 8 rfl)))
  (e_Lok (e_st (I := eI) (er_lcmp (x_dk dn_309_0_0_ok 9 rfl)) (nx_binL bG_lcmp)))))))
  (e_Tok2
  (e_Tok2
  (e_Tok2
  (e_Lok (e_st (I := eI) (er_ifge (off := 8) (tg := 24) (x_dk dn_309_0_0_ok 10 rfl) (by decide)) nx_if1))
  (e_Lok (ld_lload_6 (x_dk dn_309_0_0_ok 11 rfl))))
  (e_Tok2
  (e_Lok (e_st (I := eI) (er_goto (off := 5) (tg := 26) (x_dk dn_309_0_0_ok 12 rfl) (by decide)) nx_goto))
  (e_Tok2
  (e_Lok (ld_lload_4 (x_dk dn_309_0_0_ok 13 rfl)))
  (e_Lok (e_st (I := eI) (er_lsub (x_dk dn_309_0_0_ok 14 rfl)) (nx_binL bG_lsub))))))
  (e_Tok2
  (e_Tok2
  (e_Lok (ld_lload_8 (x_dk dn_309_0_0_ok 15 rfl)))
  (e_Lok (e_st (I := eI) (er_lcmp (x_dk dn_309_0_0_ok 16 rfl)) (nx_binL bG_lcmp))))
  (e_Tok2
  (e_Lok (e_st (I := eI) (er_ifgt (off := 36) (tg := 66) (x_dk dn_309_0_0_ok 17 rfl) (by decide)) nx_if1))
  (e_Tok2
  (e_Lok (ld_lload_4 (x_dk dn_309_0_0_ok 18 rfl)))
  (e_Lok (ld_lload_6 (x_dk dn_309_0_0_ok 19 rfl))))))))
  (e_Tok2
  (e_Tok2
  (e_Tok2
  (e_Tok2
  (e_Lok (e_st (I := eI) (er_lcmp (x_dk dn_309_0_0_ok 20 rfl)) (nx_binL bG_lcmp)))
  (e_Lok (e_st (I := eI) (er_ifge (off := 8) (tg := 46) (x_dk dn_309_0_0_ok 21 rfl) (by decide)) nx_if1)))
  (e_Tok2
  (e_Lok (ld_lload_4 (x_dk dn_309_0_0_ok 22 rfl)))
  (e_Tok2
  (e_Lok (e_st (I := eI) (er_goto (off := 5) (tg := 48) (x_dk dn_309_0_0_ok 23 rfl) (by decide)) nx_goto))
  (e_Lok (ld_lload_6 (x_dk dn_309_0_0_ok 24 rfl))))))
  (e_Tok2
  (e_Tok2
  (e_Lok (ld_lload_n_0 (x_dk dn_309_0_1_ok 0 rfl)))
  (e_Lok (ld_lload_n_2 (x_dk dn_309_0_1_ok 1 rfl))))
  (e_Tok2
  (e_Lok (e_st (I := eI) (er_lcmp (x_dk dn_309_0_1_ok 2 rfl)) (nx_binL bG_lcmp)))
  (e_Tok2
  (e_Lok (e_st (I := eI) (er_ifge (off := 7) (tg := 58) (x_dk dn_309_0_1_ok 3 rfl) (by decide)) nx_if1))
  (e_Lok (ld_lload_n_2 (x_dk dn_309_0_1_ok 4 rfl)))))))
  (e_Tok2
  (e_Tok2
  (e_Tok2
  (e_Lok (e_st (I := eI) (er_goto (off := 4) (tg := 59) (x_dk dn_309_0_1_ok 5 rfl) (by decide)) nx_goto))
  (e_Lok (ld_lload_n_0 (x_dk dn_309_0_1_ok 6 rfl))))
  (e_Tok2
  (e_Lok (e_st (I := eI) (er_lsub (x_dk dn_309_0_1_ok 7 rfl)) (nx_binL bG_lsub)))
  (e_Tok2
  (e_Lok (ld_lload_8 (x_dk dn_309_0_1_ok 8 rfl)))
  (e_Lok (e_st (I := eI) (er_lcmp (x_dk dn_309_0_1_ok 9 rfl)) (nx_binL bG_lcmp))))))
  (e_Tok2
  (e_Tok2
  (e_Lok (e_st (I := eI) (er_ifle (off := 7) (tg := 70) (x_dk dn_309_0_1_ok 10 rfl) (by decide)) nx_if1))
  (e_Lok (ps_iconst_1 (x_dk dn_309_0_1_ok 11 rfl))))
  (e_Tok2
  (e_Lok (e_st (I := eI) (er_goto (off := 4) (tg := 71) (x_dk dn_309_0_1_ok 12 rfl) (by decide)) nx_goto))
  (e_Tok2
  (e_Lok (ps_iconst_0 (x_dk dn_309_0_1_ok 13 rfl)))
  (e_Lok (e_rt (I := eI) (k := 4) ⟨(x_dk dn_309_0_1_ok 14 rfl), rfl⟩))))))))
def te_309 : Nat → eE := te_309_0
theorem te_309_ok : ∀ pc, e_EOq eft cls elay eI n_309 pc (te_309 pc) := te_309_0_ok
theorem ho_310 : (xm_y n_310).cls = "RobotCellHouseModel" := rfl
def dn_310_0_0 : List (Nat × Instr × Nat) := [(0, .aload_n 0, 1), (1, .iconst 0, 1), (2, .iaload, 1), (3, .i2l, 1), (4, .aload_n 0, 1), (5, .iconst 2, 1), (6, .iaload, 1), (7, .i2l, 1), (8, .aload_n 1, 1), (9, .iconst 0, 1), (10, .iaload, 1), (11, .i2l, 1), (12, .aload_n 1, 1), (13, .iconst 2, 1), (14, .iaload, 1), (15, .i2l, 1), (16, .lload_n 2, 1), (17, .invokestatic 416, 3), (20, .ifCond .ne 26, 3), (23, .aload_n 0, 1), (24, .iconst 1, 1), (25, .iaload, 1), (26, .i2l, 1), (27, .aload_n 0, 1), (28, .iconst 3, 1)]
set_option maxRecDepth 20000 in
theorem dn_310_0_0_ok : dn_310_0_0.all (fun q => decide (decode (xm_b n_310) q.1 = .ok (q.2.1, q.2.2))) = true := xa_g_ok (by decide +kernel)
def dn_310_0_1 : List (Nat × Instr × Nat) := [(29, .iaload, 1), (30, .i2l, 1), (31, .aload_n 1, 1), (32, .iconst 1, 1), (33, .iaload, 1), (34, .i2l, 1), (35, .aload_n 1, 1), (36, .iconst 3, 1), (37, .iaload, 1), (38, .i2l, 1), (39, .lload_n 2, 1), (40, .invokestatic 416, 3), (43, .ifCond .eq 5, 3), (46, .iconst 0, 1), (47, .ireturn, 1), (48, .aload_n 0, 1), (49, .iconst 0, 1), (50, .iaload, 1), (51, .i2l, 1), (52, .aload_n 0, 1), (53, .iconst 1, 1), (54, .iaload, 1), (55, .i2l, 1), (56, .aload_n 0, 1), (57, .iconst 2, 1)]
set_option maxRecDepth 20000 in
theorem dn_310_0_1_ok : dn_310_0_1.all (fun q => decide (decode (xm_b n_310) q.1 = .ok (q.2.1, q.2.2))) = true := xa_g_ok (by decide +kernel)
def dn_310_0_2 : List (Nat × Instr × Nat) := [(58, .iaload, 1), (59, .i2l, 1), (60, .aload_n 0, 1), (61, .iconst 3, 1), (62, .iaload, 1), (63, .i2l, 1), (64, .aload_n 1, 1), (65, .iconst 0, 1), (66, .iaload, 1), (67, .i2l, 1), (68, .aload_n 1, 1), (69, .iconst 1, 1), (70, .iaload, 1), (71, .i2l, 1), (72, .invokestatic 420, 3), (75, .aload_n 0, 1), (76, .iconst 0, 1), (77, .iaload, 1), (78, .i2l, 1), (79, .aload_n 0, 1), (80, .iconst 1, 1), (81, .iaload, 1), (82, .i2l, 1), (83, .aload_n 0, 1), (84, .iconst 2, 1)]
set_option maxRecDepth 20000 in
theorem dn_310_0_2_ok : dn_310_0_2.all (fun q => decide (decode (xm_b n_310) q.1 = .ok (q.2.1, q.2.2))) = true := xa_g_ok (by decide +kernel)
def dn_310_0_3 : List (Nat × Instr × Nat) := [(85, .iaload, 1), (86, .i2l, 1), (87, .aload_n 0, 1), (88, .iconst 3, 1), (89, .iaload, 1), (90, .i2l, 1), (91, .aload_n 1, 1), (92, .iconst 2, 1), (93, .iaload, 1), (94, .i2l, 1), (95, .aload_n 1, 1), (96, .iconst 3, 1), (97, .iaload, 1), (98, .i2l, 1), (99, .invokestatic 420, 3), (102, .imul, 1), (103, .ifCond .ge 7, 3), (106, .iconst 1, 1), (107, .goto 4, 3), (110, .iconst 0, 1), (111, .istore 4, 2), (113, .iload 4, 2), (115, .ifCond .eq 63, 3), (118, .aload_n 1, 1), (119, .iconst 0, 1)]
set_option maxRecDepth 20000 in
theorem dn_310_0_3_ok : dn_310_0_3.all (fun q => decide (decode (xm_b n_310) q.1 = .ok (q.2.1, q.2.2))) = true := xa_g_ok (by decide +kernel)
def dn_310_1_0 : List (Nat × Instr × Nat) := [(120, .iaload, 1), (121, .i2l, 1), (122, .aload_n 1, 1), (123, .iconst 1, 1), (124, .iaload, 1), (125, .i2l, 1), (126, .aload_n 1, 1), (127, .iconst 2, 1), (128, .iaload, 1), (129, .i2l, 1), (130, .aload_n 1, 1), (131, .iconst 3, 1), (132, .iaload, 1), (133, .i2l, 1), (134, .aload_n 0, 1), (135, .iconst 0, 1), (136, .iaload, 1), (137, .i2l, 1), (138, .aload_n 0, 1), (139, .iconst 1, 1), (140, .iaload, 1), (141, .i2l, 1), (142, .invokestatic 420, 3), (145, .aload_n 1, 1), (146, .iconst 0, 1)]
set_option maxRecDepth 20000 in
theorem dn_310_1_0_ok : dn_310_1_0.all (fun q => decide (decode (xm_b n_310) q.1 = .ok (q.2.1, q.2.2))) = true := xa_g_ok (by decide +kernel)
def dn_310_1_1 : List (Nat × Instr × Nat) := [(147, .iaload, 1), (148, .i2l, 1), (149, .aload_n 1, 1), (150, .iconst 1, 1), (151, .iaload, 1), (152, .i2l, 1), (153, .aload_n 1, 1), (154, .iconst 2, 1), (155, .iaload, 1), (156, .i2l, 1), (157, .aload_n 1, 1), (158, .iconst 3, 1), (159, .iaload, 1), (160, .i2l, 1), (161, .aload_n 0, 1), (162, .iconst 2, 1), (163, .iaload, 1), (164, .i2l, 1), (165, .aload_n 0, 1), (166, .iconst 3, 1), (167, .iaload, 1), (168, .i2l, 1), (169, .invokestatic 420, 3), (172, .imul, 1), (173, .ifCond .ge 5, 3)]
set_option maxRecDepth 20000 in
theorem dn_310_1_1_ok : dn_310_1_1.all (fun q => decide (decode (xm_b n_310) q.1 = .ok (q.2.1, q.2.2))) = true := xa_g_ok (by decide +kernel)
def dn_310_1_2 : List (Nat × Instr × Nat) := [(176, .iconst 1, 1), (177, .ireturn, 1), (178, .aload_n 0, 1), (179, .iconst 0, 1), (180, .iaload, 1), (181, .i2l, 1), (182, .aload_n 0, 1), (183, .iconst 1, 1), (184, .iaload, 1), (185, .i2l, 1), (186, .aload_n 1, 1), (187, .iconst 0, 1), (188, .iaload, 1), (189, .i2l, 1), (190, .aload_n 1, 1), (191, .iconst 1, 1), (192, .iaload, 1), (193, .i2l, 1), (194, .aload_n 1, 1), (195, .iconst 2, 1), (196, .iaload, 1), (197, .i2l, 1), (198, .aload_n 1, 1), (199, .iconst 3, 1), (200, .iaload, 1)]
set_option maxRecDepth 20000 in
theorem dn_310_1_2_ok : dn_310_1_2.all (fun q => decide (decode (xm_b n_310) q.1 = .ok (q.2.1, q.2.2))) = true := xa_g_ok (by decide +kernel)
def dn_310_1_3 : List (Nat × Instr × Nat) := [(201, .i2l, 1), (202, .lload_n 2, 1), (203, .invokestatic 424, 3), (206, .ifCond .ne 96, 3), (209, .aload_n 0, 1), (210, .iconst 2, 1), (211, .iaload, 1), (212, .i2l, 1), (213, .aload_n 0, 1), (214, .iconst 3, 1), (215, .iaload, 1), (216, .i2l, 1), (217, .aload_n 1, 1), (218, .iconst 0, 1), (219, .iaload, 1), (220, .i2l, 1), (221, .aload_n 1, 1), (222, .iconst 1, 1), (223, .iaload, 1), (224, .i2l, 1), (225, .aload_n 1, 1), (226, .iconst 2, 1), (227, .iaload, 1), (228, .i2l, 1), (229, .aload_n 1, 1)]
set_option maxRecDepth 20000 in
theorem dn_310_1_3_ok : dn_310_1_3.all (fun q => decide (decode (xm_b n_310) q.1 = .ok (q.2.1, q.2.2))) = true := xa_g_ok (by decide +kernel)
def dn_310_2_0 : List (Nat × Instr × Nat) := [(230, .iconst 3, 1), (231, .iaload, 1), (232, .i2l, 1), (233, .lload_n 2, 1), (234, .invokestatic 424, 3), (237, .ifCond .ne 65, 3), (240, .aload_n 1, 1), (241, .iconst 0, 1), (242, .iaload, 1), (243, .i2l, 1), (244, .aload_n 1, 1), (245, .iconst 1, 1), (246, .iaload, 1), (247, .i2l, 1), (248, .aload_n 0, 1), (249, .iconst 0, 1), (250, .iaload, 1), (251, .i2l, 1), (252, .aload_n 0, 1), (253, .iconst 1, 1), (254, .iaload, 1), (255, .i2l, 1), (256, .aload_n 0, 1), (257, .iconst 2, 1), (258, .iaload, 1)]
set_option maxRecDepth 20000 in
theorem dn_310_2_0_ok : dn_310_2_0.all (fun q => decide (decode (xm_b n_310) q.1 = .ok (q.2.1, q.2.2))) = true := xa_g_ok (by decide +kernel)
def dn_310_2_1 : List (Nat × Instr × Nat) := [(259, .i2l, 1), (260, .aload_n 0, 1), (261, .iconst 3, 1), (262, .iaload, 1), (263, .i2l, 1), (264, .lload_n 2, 1), (265, .invokestatic 424, 3), (268, .ifCond .ne 34, 3), (271, .aload_n 1, 1), (272, .iconst 2, 1), (273, .iaload, 1), (274, .i2l, 1), (275, .aload_n 1, 1), (276, .iconst 3, 1), (277, .iaload, 1), (278, .i2l, 1), (279, .aload_n 0, 1), (280, .iconst 0, 1), (281, .iaload, 1), (282, .i2l, 1), (283, .aload_n 0, 1), (284, .iconst 1, 1), (285, .iaload, 1), (286, .i2l, 1), (287, .aload_n 0, 1)]
set_option maxRecDepth 20000 in
theorem dn_310_2_1_ok : dn_310_2_1.all (fun q => decide (decode (xm_b n_310) q.1 = .ok (q.2.1, q.2.2))) = true := xa_g_ok (by decide +kernel)
def dn_310_2_2 : List (Nat × Instr × Nat) := [(288, .iconst 2, 1), (289, .iaload, 1), (290, .i2l, 1), (291, .aload_n 0, 1), (292, .iconst 3, 1), (293, .iaload, 1), (294, .i2l, 1), (295, .lload_n 2, 1), (296, .invokestatic 424, 3), (299, .ifCond .eq 7, 3), (302, .iconst 1, 1), (303, .goto 4, 3), (306, .iconst 0, 1), (307, .ireturn, 1)]
set_option maxRecDepth 20000 in
theorem dn_310_2_2_ok : dn_310_2_2.all (fun q => decide (decode (xm_b n_310) q.1 = .ok (q.2.1, q.2.2))) = true := xa_g_ok (by decide +kernel)
def te_310_0 : Nat → eE := (e_T 15 (e_T 7 (e_T 3 (e_T 1 (e_T 0 (e_L 0 (0, ei_load 0 2 1, 0, 0)) (e_L 1 (0, ei_push (0, 0) 2, 0, 0))) (e_T 2 (e_L 2 (0, ei_ald elay false 3, 0, 0)) (e_L 3 (0, ei_un (fun x => (4, x)) 4, 0, 0)))) (e_T 5 (e_T 4 (e_L 4 (0, ei_load 0 2 5, 0, 0)) (e_L 5 (0, ei_push (0, 2) 6, 0, 0))) (e_T 6 (e_L 6 (0, ei_ald elay false 7, 0, 0)) (e_L 7 (0, ei_un (fun x => (4, x)) 8, 0, 0))))) (e_T 11 (e_T 9 (e_T 8 (e_L 8 (0, ei_load 1 2 9, 0, 0)) (e_L 9 (0, ei_push (0, 0) 10, 0, 0))) (e_T 10 (e_L 10 (0, ei_ald elay false 11, 0, 0)) (e_L 11 (0, ei_un (fun x => (4, x)) 12, 0, 0)))) (e_T 13 (e_T 12 (e_L 12 (0, ei_load 1 2 13, 0, 0)) (e_L 13 (0, ei_push (0, 2) 14, 0, 0))) (e_T 14 (e_L 14 (0, ei_ald elay false 15, 0, 0)) (e_L 15 (0, ei_un (fun x => (4, x)) 16, 0, 0)))))) (e_T 27 (e_T 23 (e_T 17 (e_T 16 (e_L 16 (0, ei_load 2 1 17, 0, 0)) (e_L 17 (2, e_nof, 309, 5))) (e_T 20 (e_L 20 (0, ei_if1 1 46 23, 0, 0)) (e_L 23 (0, ei_load 0 2 24, 0, 0)))) (e_T 25 (e_T 24 (e_L 24 (0, ei_push (0, 1) 25, 0, 0)) (e_L 25 (0, ei_ald elay false 26, 0, 0))) (e_T 26 (e_L 26 (0, ei_un (fun x => (4, x)) 27, 0, 0)) (e_L 27 (0, ei_load 0 2 28, 0, 0))))) (e_T 31 (e_T 29 (e_T 28 (e_L 28 (0, ei_push (0, 3) 29, 0, 0)) (e_L 29 (0, ei_ald elay false 30, 0, 0))) (e_T 30 (e_L 30 (0, ei_un (fun x => (4, x)) 31, 0, 0)) (e_L 31 (0, ei_load 1 2 32, 0, 0)))) (e_T 33 (e_T 32 (e_L 32 (0, ei_push (0, 1) 33, 0, 0)) (e_L 33 (0, ei_ald elay false 34, 0, 0))) (e_T 34 (e_L 34 (0, ei_un (fun x => (4, x)) 35, 0, 0)) (e_T 35 (e_L 35 (0, ei_load 1 2 36, 0, 0)) (e_L 36 (0, ei_push (0, 3) 37, 0, 0))))))))
set_option maxRecDepth 20000 in
set_option maxHeartbeats 4000000 in
theorem te_310_0_ok : ∀ pc, e_EOq eft cls elay eI n_310 pc (te_310_0 pc) :=
  (e_Tok2
  (e_Tok2
  (e_Tok2
  (e_Tok2
  (e_Tok2
  (e_Lok (ld_aload_n_0 (x_dk dn_310_0_0_ok 0 rfl)))
  (e_Lok (ps_iconst_0 (x_dk dn_310_0_0_ok 1 rfl))))
  (e_Tok2
  (e_Lok (sm_iaload (x_dk dn_310_0_0_ok 2 rfl)))
  (e_Lok (e_st (I := eI) (er_i2l (x_dk dn_310_0_0_ok 3 rfl)) (nx_un (fun _ => rfl))))))
  (e_Tok2
  (e_Tok2
  (e_Lok (ld_aload_n_0 (x_dk dn_310_0_0_ok 4 rfl)))
  (e_Lok (ps_iconst_2 (x_dk dn_310_0_0_ok 5 rfl))))
  (e_Tok2
  (e_Lok (sm_iaload (x_dk dn_310_0_0_ok 6 rfl)))
  (e_Lok (e_st (I := eI) (er_i2l (x_dk dn_310_0_0_ok 7 rfl)) (nx_un (fun _ => rfl)))))))
  (e_Tok2
  (e_Tok2
  (e_Tok2
  (e_Lok (ld_aload_n_1 (x_dk dn_310_0_0_ok 8 rfl)))
  (e_Lok (ps_iconst_0 (x_dk dn_310_0_0_ok 9 rfl))))
  (e_Tok2
  (e_Lok (sm_iaload (x_dk dn_310_0_0_ok 10 rfl)))
  (e_Lok (e_st (I := eI) (er_i2l (x_dk dn_310_0_0_ok 11 rfl)) (nx_un (fun _ => rfl))))))
  (e_Tok2
  (e_Tok2
  (e_Lok (ld_aload_n_1 (x_dk dn_310_0_0_ok 12 rfl)))
  (e_Lok (ps_iconst_2 (x_dk dn_310_0_0_ok 13 rfl))))
  (e_Tok2
  (e_Lok (sm_iaload (x_dk dn_310_0_0_ok 14 rfl)))
  (e_Lok (e_st (I := eI) (er_i2l (x_dk dn_310_0_0_ok 15 rfl)) (nx_un (fun _ => rfl))))))))
  (e_Tok2
  (e_Tok2
  (e_Tok2
  (e_Tok2
  (e_Lok (ld_lload_n_2 (x_dk dn_310_0_0_ok 16 rfl)))
  (e_Lok (lk_12_416 ho_310 (x_dk dn_310_0_0_ok 17 rfl))))
  (e_Tok2
  (e_Lok (e_st (I := eI) (er_ifne (off := 26) (tg := 46) (x_dk dn_310_0_0_ok 18 rfl) (by decide)) nx_if1))
  (e_Lok (ld_aload_n_0 (x_dk dn_310_0_0_ok 19 rfl)))))
  (e_Tok2
  (e_Tok2
  (e_Lok (ps_iconst_1 (x_dk dn_310_0_0_ok 20 rfl)))
  (e_Lok (sm_iaload (x_dk dn_310_0_0_ok 21 rfl))))
  (e_Tok2
  (e_Lok (e_st (I := eI) (er_i2l (x_dk dn_310_0_0_ok 22 rfl)) (nx_un (fun _ => rfl))))
  (e_Lok (ld_aload_n_0 (x_dk dn_310_0_0_ok 23 rfl))))))
  (e_Tok2
  (e_Tok2
  (e_Tok2
  (e_Lok (ps_iconst_3 (x_dk dn_310_0_0_ok 24 rfl)))
  (e_Lok (sm_iaload (x_dk dn_310_0_1_ok 0 rfl))))
  (e_Tok2
  (e_Lok (e_st (I := eI) (er_i2l (x_dk dn_310_0_1_ok 1 rfl)) (nx_un (fun _ => rfl))))
  (e_Lok (ld_aload_n_1 (x_dk dn_310_0_1_ok 2 rfl)))))
  (e_Tok2
  (e_Tok2
  (e_Lok (ps_iconst_1 (x_dk dn_310_0_1_ok 3 rfl)))
  (e_Lok (sm_iaload (x_dk dn_310_0_1_ok 4 rfl))))
  (e_Tok2
  (e_Lok (e_st (I := eI) (er_i2l (x_dk dn_310_0_1_ok 5 rfl)) (nx_un (fun _ => rfl))))
  (e_Tok2
  (e_Lok (ld_aload_n_1 (x_dk dn_310_0_1_ok 6 rfl)))
  (e_Lok (ps_iconst_3 (x_dk dn_310_0_1_ok 7 rfl)))))))))
def te_310_33 : Nat → eE := (e_T 56 (e_T 48 (e_T 40 (e_T 38 (e_T 37 (e_L 37 (0, ei_ald elay false 38, 0, 0)) (e_L 38 (0, ei_un (fun x => (4, x)) 39, 0, 0))) (e_T 39 (e_L 39 (0, ei_load 2 1 40, 0, 0)) (e_L 40 (2, e_nof, 309, 5)))) (e_T 46 (e_T 43 (e_L 43 (0, ei_if1 0 48 46, 0, 0)) (e_L 46 (0, ei_push (0, 0) 47, 0, 0))) (e_T 47 (e_L 47 (1, e_nof, 4, 0)) (e_L 48 (0, ei_load 0 2 49, 0, 0))))) (e_T 52 (e_T 50 (e_T 49 (e_L 49 (0, ei_push (0, 0) 50, 0, 0)) (e_L 50 (0, ei_ald elay false 51, 0, 0))) (e_T 51 (e_L 51 (0, ei_un (fun x => (4, x)) 52, 0, 0)) (e_L 52 (0, ei_load 0 2 53, 0, 0)))) (e_T 54 (e_T 53 (e_L 53 (0, ei_push (0, 1) 54, 0, 0)) (e_L 54 (0, ei_ald elay false 55, 0, 0))) (e_T 55 (e_L 55 (0, ei_un (fun x => (4, x)) 56, 0, 0)) (e_L 56 (0, ei_load 0 2 57, 0, 0)))))) (e_T 64 (e_T 60 (e_T 58 (e_T 57 (e_L 57 (0, ei_push (0, 2) 58, 0, 0)) (e_L 58 (0, ei_ald elay false 59, 0, 0))) (e_T 59 (e_L 59 (0, ei_un (fun x => (4, x)) 60, 0, 0)) (e_L 60 (0, ei_load 0 2 61, 0, 0)))) (e_T 62 (e_T 61 (e_L 61 (0, ei_push (0, 3) 62, 0, 0)) (e_L 62 (0, ei_ald elay false 63, 0, 0))) (e_T 63 (e_L 63 (0, ei_un (fun x => (4, x)) 64, 0, 0)) (e_L 64 (0, ei_load 1 2 65, 0, 0))))) (e_T 68 (e_T 66 (e_T 65 (e_L 65 (0, ei_push (0, 0) 66, 0, 0)) (e_L 66 (0, ei_ald elay false 67, 0, 0))) (e_T 67 (e_L 67 (0, ei_un (fun x => (4, x)) 68, 0, 0)) (e_L 68 (0, ei_load 1 2 69, 0, 0)))) (e_T 70 (e_T 69 (e_L 69 (0, ei_push (0, 1) 70, 0, 0)) (e_L 70 (0, ei_ald elay false 71, 0, 0))) (e_T 71 (e_L 71 (0, ei_un (fun x => (4, x)) 72, 0, 0)) (e_T 72 (e_L 72 (2, e_nof, 308, 6)) (e_L 75 (0, ei_load 0 2 76, 0, 0))))))))
set_option maxRecDepth 20000 in
set_option maxHeartbeats 4000000 in
theorem te_310_33_ok : ∀ pc, e_EOq eft cls elay eI n_310 pc (te_310_33 pc) :=
  (e_Tok2
  (e_Tok2
  (e_Tok2
  (e_Tok2
  (e_Tok2
  (e_Lok (sm_iaload (x_dk dn_310_0_1_ok 8 rfl)))
  (e_Lok (e_st (I := eI) (er_i2l (x_dk dn_310_0_1_ok 9 rfl)) (nx_un (fun _ => rfl)))))
  (e_Tok2
  (e_Lok (ld_lload_n_2 (x_dk dn_310_0_1_ok 10 rfl)))
  (e_Lok (lk_12_416 ho_310 (x_dk dn_310_0_1_ok 11 rfl)))))
  (e_Tok2
  (e_Tok2
  (e_Lok (e_st (I := eI) (er_ifeq (off := 5) (tg := 48) (x_dk dn_310_0_1_ok 12 rfl) (by decide)) nx_if1))
  (e_Lok (ps_iconst_0 (x_dk dn_310_0_1_ok 13 rfl))))
  (e_Tok2
  (e_Lok (e_rt (I := eI) (k := 4) ⟨(x_dk dn_310_0_1_ok 14 rfl), rfl⟩))
  (e_Lok (ld_aload_n_0 (x_dk dn_310_0_1_ok 15 rfl))))))
  (e_Tok2
  (e_Tok2
  (e_Tok2
  (e_Lok (ps_iconst_0 (x_dk dn_310_0_1_ok 16 rfl)))
  (e_Lok (sm_iaload (x_dk dn_310_0_1_ok 17 rfl))))
  (e_Tok2
  (e_Lok (e_st (I := eI) (er_i2l (x_dk dn_310_0_1_ok 18 rfl)) (nx_un (fun _ => rfl))))
  (e_Lok (ld_aload_n_0 (x_dk dn_310_0_1_ok 19 rfl)))))
  (e_Tok2
  (e_Tok2
  (e_Lok (ps_iconst_1 (x_dk dn_310_0_1_ok 20 rfl)))
  (e_Lok (sm_iaload (x_dk dn_310_0_1_ok 21 rfl))))
  (e_Tok2
  (e_Lok (e_st (I := eI) (er_i2l (x_dk dn_310_0_1_ok 22 rfl)) (nx_un (fun _ => rfl))))
  (e_Lok (ld_aload_n_0 (x_dk dn_310_0_1_ok 23 rfl)))))))
  (e_Tok2
  (e_Tok2
  (e_Tok2
  (e_Tok2
  (e_Lok (ps_iconst_2 (x_dk dn_310_0_1_ok 24 rfl)))
  (e_Lok (sm_iaload (x_dk dn_310_0_2_ok 0 rfl))))
  (e_Tok2
  (e_Lok (e_st (I := eI) (er_i2l (x_dk dn_310_0_2_ok 1 rfl)) (nx_un (fun _ => rfl))))
  (e_Lok (ld_aload_n_0 (x_dk dn_310_0_2_ok 2 rfl)))))
  (e_Tok2
  (e_Tok2
  (e_Lok (ps_iconst_3 (x_dk dn_310_0_2_ok 3 rfl)))
  (e_Lok (sm_iaload (x_dk dn_310_0_2_ok 4 rfl))))
  (e_Tok2
  (e_Lok (e_st (I := eI) (er_i2l (x_dk dn_310_0_2_ok 5 rfl)) (nx_un (fun _ => rfl))))
  (e_Lok (ld_aload_n_1 (x_dk dn_310_0_2_ok 6 rfl))))))
  (e_Tok2
  (e_Tok2
  (e_Tok2
  (e_Lok (ps_iconst_0 (x_dk dn_310_0_2_ok 7 rfl)))
  (e_Lok (sm_iaload (x_dk dn_310_0_2_ok 8 rfl))))
  (e_Tok2
  (e_Lok (e_st (I := eI) (er_i2l (x_dk dn_310_0_2_ok 9 rfl)) (nx_un (fun _ => rfl))))
  (e_Lok (ld_aload_n_1 (x_dk dn_310_0_2_ok 10 rfl)))))
  (e_Tok2
  (e_Tok2
  (e_Lok (ps_iconst_1 (x_dk dn_310_0_2_ok 11 rfl)))
  (e_Lok (sm_iaload (x_dk dn_310_0_2_ok 12 rfl))))
  (e_Tok2
  (e_Lok (e_st (I := eI) (er_i2l (x_dk dn_310_0_2_ok 13 rfl)) (nx_un (fun _ => rfl))))
  (e_Tok2
  (e_Lok (lk_12_420 ho_310 (x_dk dn_310_0_2_ok 14 rfl)))
  (e_Lok (ld_aload_n_0 (x_dk dn_310_0_2_ok 15 rfl)))))))))
def te_310_66 : Nat → eE := (e_T 91 (e_T 83 (e_T 79 (e_T 77 (e_T 76 (e_L 76 (0, ei_push (0, 0) 77, 0, 0)) (e_L 77 (0, ei_ald elay false 78, 0, 0))) (e_T 78 (e_L 78 (0, ei_un (fun x => (4, x)) 79, 0, 0)) (e_L 79 (0, ei_load 0 2 80, 0, 0)))) (e_T 81 (e_T 80 (e_L 80 (0, ei_push (0, 1) 81, 0, 0)) (e_L 81 (0, ei_ald elay false 82, 0, 0))) (e_T 82 (e_L 82 (0, ei_un (fun x => (4, x)) 83, 0, 0)) (e_L 83 (0, ei_load 0 2 84, 0, 0))))) (e_T 87 (e_T 85 (e_T 84 (e_L 84 (0, ei_push (0, 2) 85, 0, 0)) (e_L 85 (0, ei_ald elay false 86, 0, 0))) (e_T 86 (e_L 86 (0, ei_un (fun x => (4, x)) 87, 0, 0)) (e_L 87 (0, ei_load 0 2 88, 0, 0)))) (e_T 89 (e_T 88 (e_L 88 (0, ei_push (0, 3) 89, 0, 0)) (e_L 89 (0, ei_ald elay false 90, 0, 0))) (e_T 90 (e_L 90 (0, ei_un (fun x => (4, x)) 91, 0, 0)) (e_L 91 (0, ei_load 1 2 92, 0, 0)))))) (e_T 99 (e_T 95 (e_T 93 (e_T 92 (e_L 92 (0, ei_push (0, 2) 93, 0, 0)) (e_L 93 (0, ei_ald elay false 94, 0, 0))) (e_T 94 (e_L 94 (0, ei_un (fun x => (4, x)) 95, 0, 0)) (e_L 95 (0, ei_load 1 2 96, 0, 0)))) (e_T 97 (e_T 96 (e_L 96 (0, ei_push (0, 3) 97, 0, 0)) (e_L 97 (0, ei_ald elay false 98, 0, 0))) (e_T 98 (e_L 98 (0, ei_un (fun x => (4, x)) 99, 0, 0)) (e_L 99 (2, e_nof, 308, 6))))) (e_T 107 (e_T 103 (e_T 102 (e_L 102 (0, ei_bin eF_mul 103, 0, 0)) (e_L 103 (0, ei_if1 3 110 106, 0, 0))) (e_T 106 (e_L 106 (0, ei_push (0, 1) 107, 0, 0)) (e_L 107 (0, ei_goto 111, 0, 0)))) (e_T 111 (e_T 110 (e_L 110 (0, ei_push (0, 0) 111, 0, 0)) (e_L 111 (0, ei_stor 4 0 113, 0, 0))) (e_T 113 (e_L 113 (0, ei_load 4 0 115, 0, 0)) (e_T 115 (e_L 115 (0, ei_if1 0 178 118, 0, 0)) (e_L 118 (0, ei_load 1 2 119, 0, 0))))))))
set_option maxRecDepth 20000 in
set_option maxHeartbeats 4000000 in
theorem te_310_66_ok : ∀ pc, e_EOq eft cls elay eI n_310 pc (te_310_66 pc) :=
  (e_Tok2
  (e_Tok2
  (e_Tok2
  (e_Tok2
  (e_Tok2
  (e_Lok (ps_iconst_0 (x_dk dn_310_0_2_ok 16 rfl)))
  (e_Lok (sm_iaload (x_dk dn_310_0_2_ok 17 rfl))))
  (e_Tok2
  (e_Lok (e_st (I := eI) (er_i2l (x_dk dn_310_0_2_ok 18 rfl)) (nx_un (fun _ => rfl))))
  (e_Lok (ld_aload_n_0 (x_dk dn_310_0_2_ok 19 rfl)))))
  (e_Tok2
  (e_Tok2
  (e_Lok (ps_iconst_1 (x_dk dn_310_0_2_ok 20 rfl)))
  (e_Lok (sm_iaload (x_dk dn_310_0_2_ok 21 rfl))))
  (e_Tok2
  (e_Lok (e_st (I := eI) (er_i2l (x_dk dn_310_0_2_ok 22 rfl)) (nx_un (fun _ => rfl))))
  (e_Lok (ld_aload_n_0 (x_dk dn_310_0_2_ok 23 rfl))))))
  (e_Tok2
  (e_Tok2
  (e_Tok2
  (e_Lok (ps_iconst_2 (x_dk dn_310_0_2_ok 24 rfl)))
  (e_Lok (sm_iaload (x_dk dn_310_0_3_ok 0 rfl))))
  (e_Tok2
  (e_Lok (e_st (I := eI) (er_i2l (x_dk dn_310_0_3_ok 1 rfl)) (nx_un (fun _ => rfl))))
  (e_Lok (ld_aload_n_0 (x_dk dn_310_0_3_ok 2 rfl)))))
  (e_Tok2
  (e_Tok2
  (e_Lok (ps_iconst_3 (x_dk dn_310_0_3_ok 3 rfl)))
  (e_Lok (sm_iaload (x_dk dn_310_0_3_ok 4 rfl))))
  (e_Tok2
  (e_Lok (e_st (I := eI) (er_i2l (x_dk dn_310_0_3_ok 5 rfl)) (nx_un (fun _ => rfl))))
  (e_Lok (ld_aload_n_1 (x_dk dn_310_0_3_ok 6 rfl)))))))
  (e_Tok2
  (e_Tok2
  (e_Tok2
  (e_Tok2
  (e_Lok (ps_iconst_2 (x_dk dn_310_0_3_ok 7 rfl)))
  (e_Lok (sm_iaload (x_dk dn_310_0_3_ok 8 rfl))))
  (e_Tok2
  (e_Lok (e_st (I := eI) (er_i2l (x_dk dn_310_0_3_ok 9 rfl)) (nx_un (fun _ => rfl))))
  (e_Lok (ld_aload_n_1 (x_dk dn_310_0_3_ok 10 rfl)))))
  (e_Tok2
  (e_Tok2
  (e_Lok (ps_iconst_3 (x_dk dn_310_0_3_ok 11 rfl)))
  (e_Lok (sm_iaload (x_dk dn_310_0_3_ok 12 rfl))))
  (e_Tok2
  (e_Lok (e_st (I := eI) (er_i2l (x_dk dn_310_0_3_ok 13 rfl)) (nx_un (fun _ => rfl))))
  (e_Lok (lk_12_420 ho_310 (x_dk dn_310_0_3_ok 14 rfl))))))
  (e_Tok2
  (e_Tok2
  (e_Tok2
  (e_Lok (sm_imul (x_dk dn_310_0_3_ok 15 rfl)))
  (e_Lok (e_st (I := eI) (er_ifge (off := 7) (tg := 110) (x_dk dn_310_0_3_ok 16 rfl) (by decide)) nx_if1)))
  (e_Tok2
  (e_Lok (ps_iconst_1 (x_dk dn_310_0_3_ok 17 rfl)))
  (e_Lok (e_st (I := eI) (er_goto (off := 4) (tg := 111) (x_dk dn_310_0_3_ok 18 rfl) (by decide)) nx_goto))))
  (e_Tok2
  (e_Tok2
  (e_Lok (ps_iconst_0 (x_dk dn_310_0_3_ok 19 rfl)))
  (e_Lok (e_st (I := eI) (er_istore (i := 4) (x_dk dn_310_0_3_ok 20 rfl) (by decide +kernel)) nx_stor)))
  (e_Tok2
  (e_Lok (ld_iload_4 (x_dk dn_310_0_3_ok 21 rfl)))
  (e_Tok2
  (e_Lok (e_st (I := eI) (er_ifeq (off := 63) (tg := 178) (x_dk dn_310_0_3_ok 22 rfl) (by decide)) nx_if1))
  (e_Lok (ld_aload_n_1 (x_dk dn_310_0_3_ok 23 rfl)))))))))
def te_310_99 : Nat → eE := (e_T 134 (e_T 126 (e_T 122 (e_T 120 (e_T 119 (e_L 119 (0, ei_push (0, 0) 120, 0, 0)) (e_L 120 (0, ei_ald elay false 121, 0, 0))) (e_T 121 (e_L 121 (0, ei_un (fun x => (4, x)) 122, 0, 0)) (e_L 122 (0, ei_load 1 2 123, 0, 0)))) (e_T 124 (e_T 123 (e_L 123 (0, ei_push (0, 1) 124, 0, 0)) (e_L 124 (0, ei_ald elay false 125, 0, 0))) (e_T 125 (e_L 125 (0, ei_un (fun x => (4, x)) 126, 0, 0)) (e_L 126 (0, ei_load 1 2 127, 0, 0))))) (e_T 130 (e_T 128 (e_T 127 (e_L 127 (0, ei_push (0, 2) 128, 0, 0)) (e_L 128 (0, ei_ald elay false 129, 0, 0))) (e_T 129 (e_L 129 (0, ei_un (fun x => (4, x)) 130, 0, 0)) (e_L 130 (0, ei_load 1 2 131, 0, 0)))) (e_T 132 (e_T 131 (e_L 131 (0, ei_push (0, 3) 132, 0, 0)) (e_L 132 (0, ei_ald elay false 133, 0, 0))) (e_T 133 (e_L 133 (0, ei_un (fun x => (4, x)) 134, 0, 0)) (e_L 134 (0, ei_load 0 2 135, 0, 0)))))) (e_T 142 (e_T 138 (e_T 136 (e_T 135 (e_L 135 (0, ei_push (0, 0) 136, 0, 0)) (e_L 136 (0, ei_ald elay false 137, 0, 0))) (e_T 137 (e_L 137 (0, ei_un (fun x => (4, x)) 138, 0, 0)) (e_L 138 (0, ei_load 0 2 139, 0, 0)))) (e_T 140 (e_T 139 (e_L 139 (0, ei_push (0, 1) 140, 0, 0)) (e_L 140 (0, ei_ald elay false 141, 0, 0))) (e_T 141 (e_L 141 (0, ei_un (fun x => (4, x)) 142, 0, 0)) (e_L 142 (2, e_nof, 308, 6))))) (e_T 148 (e_T 146 (e_T 145 (e_L 145 (0, ei_load 1 2 146, 0, 0)) (e_L 146 (0, ei_push (0, 0) 147, 0, 0))) (e_T 147 (e_L 147 (0, ei_ald elay false 148, 0, 0)) (e_L 148 (0, ei_un (fun x => (4, x)) 149, 0, 0)))) (e_T 150 (e_T 149 (e_L 149 (0, ei_load 1 2 150, 0, 0)) (e_L 150 (0, ei_push (0, 1) 151, 0, 0))) (e_T 151 (e_L 151 (0, ei_ald elay false 152, 0, 0)) (e_T 152 (e_L 152 (0, ei_un (fun x => (4, x)) 153, 0, 0)) (e_L 153 (0, ei_load 1 2 154, 0, 0))))))))
set_option maxRecDepth 20000 in
set_option maxHeartbeats 4000000 in
theorem te_310_99_ok : ∀ pc, e_EOq eft cls elay eI n_310 pc (te_310_99 pc) :=
  (e_Tok2
  (e_Tok2
  (e_Tok2
  (e_Tok2
  (e_Tok2
  (e_Lok (ps_iconst_0 (x_dk dn_310_0_3_ok 24 rfl)))
  (e_Lok (sm_iaload (x_dk dn_310_1_0_ok 0 rfl))))
  (e_Tok2
  (e_Lok (e_st (I := eI) (er_i2l (x_dk dn_310_1_0_ok 1 rfl)) (nx_un (fun _ => rfl))))
  (e_Lok (ld_aload_n_1 (x_dk dn_310_1_0_ok 2 rfl)))))
  (e_Tok2
  (e_Tok2
  (e_Lok (ps_iconst_1 (x_dk dn_310_1_0_ok 3 rfl)))
  (e_Lok (sm_iaload (x_dk dn_310_1_0_ok 4 rfl))))
  (e_Tok2
  (e_Lok (e_st (I := eI) (er_i2l (x_dk dn_310_1_0_ok 5 rfl)) (nx_un (fun _ => rfl))))
  (e_Lok (ld_aload_n_1 (x_dk dn_310_1_0_ok 6 rfl))))))
  (e_Tok2
  (e_Tok2
  (e_Tok2
  (e_Lok (ps_iconst_2 (x_dk dn_310_1_0_ok 7 rfl)))
  (e_Lok (sm_iaload (x_dk dn_310_1_0_ok 8 rfl))))
  (e_Tok2
  (e_Lok (e_st (I := eI) (er_i2l (x_dk dn_310_1_0_ok 9 rfl)) (nx_un (fun _ => rfl))))
  (e_Lok (ld_aload_n_1 (x_dk dn_310_1_0_ok 10 rfl)))))
  (e_Tok2
  (e_Tok2
  (e_Lok (ps_iconst_3 (x_dk dn_310_1_0_ok 11 rfl)))
  (e_Lok (sm_iaload (x_dk dn_310_1_0_ok 12 rfl))))
  (e_Tok2
  (e_Lok (e_st (I := eI) (er_i2l (x_dk dn_310_1_0_ok 13 rfl)) (nx_un (fun _ => rfl))))
  (e_Lok (ld_aload_n_0 (x_dk dn_310_1_0_ok 14 rfl)))))))
  (e_Tok2
  (e_Tok2
  (e_Tok2
  (e_Tok2
  (e_Lok (ps_iconst_0 (x_dk dn_310_1_0_ok 15 rfl)))
  (e_Lok (sm_iaload (x_dk dn_310_1_0_ok 16 rfl))))
  (e_Tok2
  (e_Lok (e_st (I := eI) (er_i2l (x_dk dn_310_1_0_ok 17 rfl)) (nx_un (fun _ => rfl))))
  (e_Lok (ld_aload_n_0 (x_dk dn_310_1_0_ok 18 rfl)))))
  (e_Tok2
  (e_Tok2
  (e_Lok (ps_iconst_1 (x_dk dn_310_1_0_ok 19 rfl)))
  (e_Lok (sm_iaload (x_dk dn_310_1_0_ok 20 rfl))))
  (e_Tok2
  (e_Lok (e_st (I := eI) (er_i2l (x_dk dn_310_1_0_ok 21 rfl)) (nx_un (fun _ => rfl))))
  (e_Lok (lk_12_420 ho_310 (x_dk dn_310_1_0_ok 22 rfl))))))
  (e_Tok2
  (e_Tok2
  (e_Tok2
  (e_Lok (ld_aload_n_1 (x_dk dn_310_1_0_ok 23 rfl)))
  (e_Lok (ps_iconst_0 (x_dk dn_310_1_0_ok 24 rfl))))
  (e_Tok2
  (e_Lok (sm_iaload (x_dk dn_310_1_1_ok 0 rfl)))
  (e_Lok (e_st (I := eI) (er_i2l (x_dk dn_310_1_1_ok 1 rfl)) (nx_un (fun _ => rfl))))))
  (e_Tok2
  (e_Tok2
  (e_Lok (ld_aload_n_1 (x_dk dn_310_1_1_ok 2 rfl)))
  (e_Lok (ps_iconst_1 (x_dk dn_310_1_1_ok 3 rfl))))
  (e_Tok2
  (e_Lok (sm_iaload (x_dk dn_310_1_1_ok 4 rfl)))
  (e_Tok2
  (e_Lok (e_st (I := eI) (er_i2l (x_dk dn_310_1_1_ok 5 rfl)) (nx_un (fun _ => rfl))))
  (e_Lok (ld_aload_n_1 (x_dk dn_310_1_1_ok 6 rfl)))))))))
def te_310_132 : Nat → eE := (e_T 169 (e_T 161 (e_T 157 (e_T 155 (e_T 154 (e_L 154 (0, ei_push (0, 2) 155, 0, 0)) (e_L 155 (0, ei_ald elay false 156, 0, 0))) (e_T 156 (e_L 156 (0, ei_un (fun x => (4, x)) 157, 0, 0)) (e_L 157 (0, ei_load 1 2 158, 0, 0)))) (e_T 159 (e_T 158 (e_L 158 (0, ei_push (0, 3) 159, 0, 0)) (e_L 159 (0, ei_ald elay false 160, 0, 0))) (e_T 160 (e_L 160 (0, ei_un (fun x => (4, x)) 161, 0, 0)) (e_L 161 (0, ei_load 0 2 162, 0, 0))))) (e_T 165 (e_T 163 (e_T 162 (e_L 162 (0, ei_push (0, 2) 163, 0, 0)) (e_L 163 (0, ei_ald elay false 164, 0, 0))) (e_T 164 (e_L 164 (0, ei_un (fun x => (4, x)) 165, 0, 0)) (e_L 165 (0, ei_load 0 2 166, 0, 0)))) (e_T 167 (e_T 166 (e_L 166 (0, ei_push (0, 3) 167, 0, 0)) (e_L 167 (0, ei_ald elay false 168, 0, 0))) (e_T 168 (e_L 168 (0, ei_un (fun x => (4, x)) 169, 0, 0)) (e_L 169 (2, e_nof, 308, 6)))))) (e_T 181 (e_T 177 (e_T 173 (e_T 172 (e_L 172 (0, ei_bin eF_mul 173, 0, 0)) (e_L 173 (0, ei_if1 3 178 176, 0, 0))) (e_T 176 (e_L 176 (0, ei_push (0, 1) 177, 0, 0)) (e_L 177 (1, e_nof, 4, 0)))) (e_T 179 (e_T 178 (e_L 178 (0, ei_load 0 2 179, 0, 0)) (e_L 179 (0, ei_push (0, 0) 180, 0, 0))) (e_T 180 (e_L 180 (0, ei_ald elay false 181, 0, 0)) (e_L 181 (0, ei_un (fun x => (4, x)) 182, 0, 0))))) (e_T 185 (e_T 183 (e_T 182 (e_L 182 (0, ei_load 0 2 183, 0, 0)) (e_L 183 (0, ei_push (0, 1) 184, 0, 0))) (e_T 184 (e_L 184 (0, ei_ald elay false 185, 0, 0)) (e_L 185 (0, ei_un (fun x => (4, x)) 186, 0, 0)))) (e_T 187 (e_T 186 (e_L 186 (0, ei_load 1 2 187, 0, 0)) (e_L 187 (0, ei_push (0, 0) 188, 0, 0))) (e_T 188 (e_L 188 (0, ei_ald elay false 189, 0, 0)) (e_T 189 (e_L 189 (0, ei_un (fun x => (4, x)) 190, 0, 0)) (e_L 190 (0, ei_load 1 2 191, 0, 0))))))))
set_option maxRecDepth 20000 in
set_option maxHeartbeats 4000000 in
theorem te_310_132_ok : ∀ pc, e_EOq eft cls elay eI n_310 pc (te_310_132 pc) :=
  (e_Tok2
  (e_Tok2
  (e_Tok2
  (e_Tok2
  (e_Tok2
  (e_Lok (ps_iconst_2 (x_dk dn_310_1_1_ok 7 rfl)))
  (e_Lok (sm_iaload (x_dk dn_310_1_1_ok 8 rfl))))
  (e_Tok2
  (e_Lok (e_st (I := eI) (er_i2l (x_dk dn_310_1_1_ok 9 rfl)) (nx_un (fun _ => rfl))))
  (e_Lok (ld_aload_n_1 (x_dk dn_310_1_1_ok 10 rfl)))))
  (e_Tok2
  (e_Tok2
  (e_Lok (ps_iconst_3 (x_dk dn_310_1_1_ok 11 rfl)))
  (e_Lok (sm_iaload (x_dk dn_310_1_1_ok 12 rfl))))
  (e_Tok2
  (e_Lok (e_st (I := eI) (er_i2l (x_dk dn_310_1_1_ok 13 rfl)) (nx_un (fun _ => rfl))))
  (e_Lok (ld_aload_n_0 (x_dk dn_310_1_1_ok 14 rfl))))))
  (e_Tok2
  (e_Tok2
  (e_Tok2
  (e_Lok (ps_iconst_2 (x_dk dn_310_1_1_ok 15 rfl)))
  (e_Lok (sm_iaload (x_dk dn_310_1_1_ok 16 rfl))))
  (e_Tok2
  (e_Lok (e_st (I := eI) (er_i2l (x_dk dn_310_1_1_ok 17 rfl)) (nx_un (fun _ => rfl))))
  (e_Lok (ld_aload_n_0 (x_dk dn_310_1_1_ok 18 rfl)))))
  (e_Tok2
  (e_Tok2
  (e_Lok (ps_iconst_3 (x_dk dn_310_1_1_ok 19 rfl)))
  (e_Lok (sm_iaload (x_dk dn_310_1_1_ok 20 rfl))))
  (e_Tok2
  (e_Lok (e_st (I := eI) (er_i2l (x_dk dn_310_1_1_ok 21 rfl)) (nx_un (fun _ => rfl))))
  (e_Lok (lk_12_420 ho_310 (x_dk dn_310_1_1_ok 22 rfl)))))))
  (e_Tok2
  (e_Tok2
  (e_Tok2
  (e_Tok2
  (e_Lok (sm_imul (x_dk dn_310_1_1_ok 23 rfl)))
  (e_Lok (e_st (I := eI) (er_ifge (off := 5) (tg := 178) (x_dk dn_310_1_1_ok 24 rfl) (by decide)) nx_if1)))
  (e_Tok2
  (e_Lok (ps_iconst_1 (x_dk dn_310_1_2_ok 0 rfl)))
  (e_Lok (e_rt (I := eI) (k := 4) ⟨(x_dk dn_310_1_2_ok 1 rfl), rfl⟩))))
  (e_Tok2
  (e_Tok2
  (e_Lok (ld_aload_n_0 (x_dk dn_310_1_2_ok 2 rfl)))
  (e_Lok (ps_iconst_0 (x_dk dn_310_1_2_ok 3 rfl))))
  (e_Tok2
  (e_Lok (sm_iaload (x_dk dn_310_1_2_ok 4 rfl)))
  (e_Lok (e_st (I := eI) (er_i2l (x_dk dn_310_1_2_ok 5 rfl)) (nx_un (fun _ => rfl)))))))
  (e_Tok2
  (e_Tok2
  (e_Tok2
  (e_Lok (ld_aload_n_0 (x_dk dn_310_1_2_ok 6 rfl)))
  (e_Lok (ps_iconst_1 (x_dk dn_310_1_2_ok 7 rfl))))
  (e_Tok2
  (e_Lok (sm_iaload (x_dk dn_310_1_2_ok 8 rfl)))
  (e_Lok (e_st (I := eI) (er_i2l (x_dk dn_310_1_2_ok 9 rfl)) (nx_un (fun _ => rfl))))))
  (e_Tok2
  (e_Tok2
  (e_Lok (ld_aload_n_1 (x_dk dn_310_1_2_ok 10 rfl)))
  (e_Lok (ps_iconst_0 (x_dk dn_310_1_2_ok 11 rfl))))
  (e_Tok2
  (e_Lok (sm_iaload (x_dk dn_310_1_2_ok 12 rfl)))
  (e_Tok2
  (e_Lok (e_st (I := eI) (er_i2l (x_dk dn_310_1_2_ok 13 rfl)) (nx_un (fun _ => rfl))))
  (e_Lok (ld_aload_n_1 (x_dk dn_310_1_2_ok 14 rfl)))))))))
def te_310_165 : Nat → eE := (e_T 210 (e_T 198 (e_T 194 (e_T 192 (e_T 191 (e_L 191 (0, ei_push (0, 1) 192, 0, 0)) (e_L 192 (0, ei_ald elay false 193, 0, 0))) (e_T 193 (e_L 193 (0, ei_un (fun x => (4, x)) 194, 0, 0)) (e_L 194 (0, ei_load 1 2 195, 0, 0)))) (e_T 196 (e_T 195 (e_L 195 (0, ei_push (0, 2) 196, 0, 0)) (e_L 196 (0, ei_ald elay false 197, 0, 0))) (e_T 197 (e_L 197 (0, ei_un (fun x => (4, x)) 198, 0, 0)) (e_L 198 (0, ei_load 1 2 199, 0, 0))))) (e_T 202 (e_T 200 (e_T 199 (e_L 199 (0, ei_push (0, 3) 200, 0, 0)) (e_L 200 (0, ei_ald elay false 201, 0, 0))) (e_T 201 (e_L 201 (0, ei_un (fun x => (4, x)) 202, 0, 0)) (e_L 202 (0, ei_load 2 1 203, 0, 0)))) (e_T 206 (e_T 203 (e_L 203 (2, e_nof, 307, 7)) (e_L 206 (0, ei_if1 1 302 209, 0, 0))) (e_T 209 (e_L 209 (0, ei_load 0 2 210, 0, 0)) (e_L 210 (0, ei_push (0, 2) 211, 0, 0)))))) (e_T 218 (e_T 214 (e_T 212 (e_T 211 (e_L 211 (0, ei_ald elay false 212, 0, 0)) (e_L 212 (0, ei_un (fun x => (4, x)) 213, 0, 0))) (e_T 213 (e_L 213 (0, ei_load 0 2 214, 0, 0)) (e_L 214 (0, ei_push (0, 3) 215, 0, 0)))) (e_T 216 (e_T 215 (e_L 215 (0, ei_ald elay false 216, 0, 0)) (e_L 216 (0, ei_un (fun x => (4, x)) 217, 0, 0))) (e_T 217 (e_L 217 (0, ei_load 1 2 218, 0, 0)) (e_L 218 (0, ei_push (0, 0) 219, 0, 0))))) (e_T 222 (e_T 220 (e_T 219 (e_L 219 (0, ei_ald elay false 220, 0, 0)) (e_L 220 (0, ei_un (fun x => (4, x)) 221, 0, 0))) (e_T 221 (e_L 221 (0, ei_load 1 2 222, 0, 0)) (e_L 222 (0, ei_push (0, 1) 223, 0, 0)))) (e_T 224 (e_T 223 (e_L 223 (0, ei_ald elay false 224, 0, 0)) (e_L 224 (0, ei_un (fun x => (4, x)) 225, 0, 0))) (e_T 225 (e_L 225 (0, ei_load 1 2 226, 0, 0)) (e_T 226 (e_L 226 (0, ei_push (0, 2) 227, 0, 0)) (e_L 227 (0, ei_ald elay false 228, 0, 0))))))))
set_option maxRecDepth 20000 in
set_option maxHeartbeats 4000000 in
theorem te_310_165_ok : ∀ pc, e_EOq eft cls elay eI n_310 pc (te_310_165 pc) :=
  (e_Tok2
  (e_Tok2
  (e_Tok2
  (e_Tok2
  (e_Tok2
  (e_Lok (ps_iconst_1 (x_dk dn_310_1_2_ok 15 rfl)))
  (e_Lok (sm_iaload (x_dk dn_310_1_2_ok 16 rfl))))
  (e_Tok2
  (e_Lok (e_st (I := eI) (er_i2l (x_dk dn_310_1_2_ok 17 rfl)) (nx_un (fun _ => rfl))))
  (e_Lok (ld_aload_n_1 (x_dk dn_310_1_2_ok 18 rfl)))))
  (e_Tok2
  (e_Tok2
  (e_Lok (ps_iconst_2 (x_dk dn_310_1_2_ok 19 rfl)))
  (e_Lok (sm_iaload (x_dk dn_310_1_2_ok 20 rfl))))
  (e_Tok2
  (e_Lok (e_st (I := eI) (er_i2l (x_dk dn_310_1_2_ok 21 rfl)) (nx_un (fun _ => rfl))))
  (e_Lok (ld_aload_n_1 (x_dk dn_310_1_2_ok 22 rfl))))))
  (e_Tok2
  (e_Tok2
  (e_Tok2
  (e_Lok (ps_iconst_3 (x_dk dn_310_1_2_ok 23 rfl)))
  (e_Lok (sm_iaload (x_dk dn_310_1_2_ok 24 rfl))))
  (e_Tok2
  (e_Lok (e_st (I := eI) (er_i2l (x_dk dn_310_1_3_ok 0 rfl)) (nx_un (fun _ => rfl))))
  (e_Lok (ld_lload_n_2 (x_dk dn_310_1_3_ok 1 rfl)))))
  (e_Tok2
  (e_Tok2
  (e_Lok (lk_12_424 ho_310 (x_dk dn_310_1_3_ok 2 rfl)))
  (e_Lok (e_st (I := eI) (er_ifne (off := 96) (tg := 302) (x_dk dn_310_1_3_ok 3 rfl) (by decide)) nx_if1)))
  (e_Tok2
  (e_Lok (ld_aload_n_0 (x_dk dn_310_1_3_ok 4 rfl)))
  (e_Lok (ps_iconst_2 (x_dk dn_310_1_3_ok 5 rfl)))))))
  (e_Tok2
  (e_Tok2
  (e_Tok2
  (e_Tok2
  (e_Lok (sm_iaload (x_dk dn_310_1_3_ok 6 rfl)))
  (e_Lok (e_st (I := eI) (er_i2l (x_dk dn_310_1_3_ok 7 rfl)) (nx_un (fun _ => rfl)))))
  (e_Tok2
  (e_Lok (ld_aload_n_0 (x_dk dn_310_1_3_ok 8 rfl)))
  (e_Lok (ps_iconst_3 (x_dk dn_310_1_3_ok 9 rfl)))))
  (e_Tok2
  (e_Tok2
  (e_Lok (sm_iaload (x_dk dn_310_1_3_ok 10 rfl)))
  (e_Lok (e_st (I := eI) (er_i2l (x_dk dn_310_1_3_ok 11 rfl)) (nx_un (fun _ => rfl)))))
  (e_Tok2
  (e_Lok (ld_aload_n_1 (x_dk dn_310_1_3_ok 12 rfl)))
  (e_Lok (ps_iconst_0 (x_dk dn_310_1_3_ok 13 rfl))))))
  (e_Tok2
  (e_Tok2
  (e_Tok2
  (e_Lok (sm_iaload (x_dk dn_310_1_3_ok 14 rfl)))
  (e_Lok (e_st (I := eI) (er_i2l (x_dk dn_310_1_3_ok 15 rfl)) (nx_un (fun _ => rfl)))))
  (e_Tok2
  (e_Lok (ld_aload_n_1 (x_dk dn_310_1_3_ok 16 rfl)))
  (e_Lok (ps_iconst_1 (x_dk dn_310_1_3_ok 17 rfl)))))
  (e_Tok2
  (e_Tok2
  (e_Lok (sm_iaload (x_dk dn_310_1_3_ok 18 rfl)))
  (e_Lok (e_st (I := eI) (er_i2l (x_dk dn_310_1_3_ok 19 rfl)) (nx_un (fun _ => rfl)))))
  (e_Tok2
  (e_Lok (ld_aload_n_1 (x_dk dn_310_1_3_ok 20 rfl)))
  (e_Tok2
  (e_Lok (ps_iconst_2 (x_dk dn_310_1_3_ok 21 rfl)))
  (e_Lok (sm_iaload (x_dk dn_310_1_3_ok 22 rfl)))))))))
def te_310_198 : Nat → eE := (e_T 247 (e_T 237 (e_T 231 (e_T 229 (e_T 228 (e_L 228 (0, ei_un (fun x => (4, x)) 229, 0, 0)) (e_L 229 (0, ei_load 1 2 230, 0, 0))) (e_T 230 (e_L 230 (0, ei_push (0, 3) 231, 0, 0)) (e_L 231 (0, ei_ald elay false 232, 0, 0)))) (e_T 233 (e_T 232 (e_L 232 (0, ei_un (fun x => (4, x)) 233, 0, 0)) (e_L 233 (0, ei_load 2 1 234, 0, 0))) (e_T 234 (e_L 234 (2, e_nof, 307, 7)) (e_L 237 (0, ei_if1 1 302 240, 0, 0))))) (e_T 243 (e_T 241 (e_T 240 (e_L 240 (0, ei_load 1 2 241, 0, 0)) (e_L 241 (0, ei_push (0, 0) 242, 0, 0))) (e_T 242 (e_L 242 (0, ei_ald elay false 243, 0, 0)) (e_L 243 (0, ei_un (fun x => (4, x)) 244, 0, 0)))) (e_T 245 (e_T 244 (e_L 244 (0, ei_load 1 2 245, 0, 0)) (e_L 245 (0, ei_push (0, 1) 246, 0, 0))) (e_T 246 (e_L 246 (0, ei_ald elay false 247, 0, 0)) (e_L 247 (0, ei_un (fun x => (4, x)) 248, 0, 0)))))) (e_T 255 (e_T 251 (e_T 249 (e_T 248 (e_L 248 (0, ei_load 0 2 249, 0, 0)) (e_L 249 (0, ei_push (0, 0) 250, 0, 0))) (e_T 250 (e_L 250 (0, ei_ald elay false 251, 0, 0)) (e_L 251 (0, ei_un (fun x => (4, x)) 252, 0, 0)))) (e_T 253 (e_T 252 (e_L 252 (0, ei_load 0 2 253, 0, 0)) (e_L 253 (0, ei_push (0, 1) 254, 0, 0))) (e_T 254 (e_L 254 (0, ei_ald elay false 255, 0, 0)) (e_L 255 (0, ei_un (fun x => (4, x)) 256, 0, 0))))) (e_T 259 (e_T 257 (e_T 256 (e_L 256 (0, ei_load 0 2 257, 0, 0)) (e_L 257 (0, ei_push (0, 2) 258, 0, 0))) (e_T 258 (e_L 258 (0, ei_ald elay false 259, 0, 0)) (e_L 259 (0, ei_un (fun x => (4, x)) 260, 0, 0)))) (e_T 261 (e_T 260 (e_L 260 (0, ei_load 0 2 261, 0, 0)) (e_L 261 (0, ei_push (0, 3) 262, 0, 0))) (e_T 262 (e_L 262 (0, ei_ald elay false 263, 0, 0)) (e_T 263 (e_L 263 (0, ei_un (fun x => (4, x)) 264, 0, 0)) (e_L 264 (0, ei_load 2 1 265, 0, 0))))))))
set_option maxRecDepth 20000 in
set_option maxHeartbeats 4000000 in
theorem te_310_198_ok : ∀ pc, e_EOq eft cls elay eI n_310 pc (te_310_198 pc) :=
  (e_Tok2
  (e_Tok2
  (e_Tok2
  (e_Tok2
  (e_Tok2
  (e_Lok (e_st (I := eI) (er_i2l (x_dk dn_310_1_3_ok 23 rfl)) (nx_un (fun _ => rfl))))
  (e_Lok (ld_aload_n_1 (x_dk dn_310_1_3_ok 24 rfl))))
  (e_Tok2
  (e_Lok (ps_iconst_3 (x_dk dn_310_2_0_ok 0 rfl)))
  (e_Lok (sm_iaload (x_dk dn_310_2_0_ok 1 rfl)))))
  (e_Tok2
  (e_Tok2
  (e_Lok (e_st (I := eI) (er_i2l (x_dk dn_310_2_0_ok 2 rfl)) (nx_un (fun _ => rfl))))
  (e_Lok (ld_lload_n_2 (x_dk dn_310_2_0_ok 3 rfl))))
  (e_Tok2
  (e_Lok (lk_12_424 ho_310 (x_dk dn_310_2_0_ok 4 rfl)))
  (e_Lok (e_st (I := eI) (er_ifne (off := 65) (tg := 302) (x_dk dn_310_2_0_ok 5 rfl) (by decide)) nx_if1)))))
  (e_Tok2
  (e_Tok2
  (e_Tok2
  (e_Lok (ld_aload_n_1 (x_dk dn_310_2_0_ok 6 rfl)))
  (e_Lok (ps_iconst_0 (x_dk dn_310_2_0_ok 7 rfl))))
  (e_Tok2
  (e_Lok (sm_iaload (x_dk dn_310_2_0_ok 8 rfl)))
  (e_Lok (e_st (I := eI) (er_i2l (x_dk dn_310_2_0_ok 9 rfl)) (nx_un (fun _ => rfl))))))
  (e_Tok2
  (e_Tok2
  (e_Lok (ld_aload_n_1 (x_dk dn_310_2_0_ok 10 rfl)))
  (e_Lok (ps_iconst_1 (x_dk dn_310_2_0_ok 11 rfl))))
  (e_Tok2
  (e_Lok (sm_iaload (x_dk dn_310_2_0_ok 12 rfl)))
  (e_Lok (e_st (I := eI) (er_i2l (x_dk dn_310_2_0_ok 13 rfl)) (nx_un (fun _ => rfl))))))))
  (e_Tok2
  (e_Tok2
  (e_Tok2
  (e_Tok2
  (e_Lok (ld_aload_n_0 (x_dk dn_310_2_0_ok 14 rfl)))
  (e_Lok (ps_iconst_0 (x_dk dn_310_2_0_ok 15 rfl))))
  (e_Tok2
  (e_Lok (sm_iaload (x_dk dn_310_2_0_ok 16 rfl)))
  (e_Lok (e_st (I := eI) (er_i2l (x_dk dn_310_2_0_ok 17 rfl)) (nx_un (fun _ => rfl))))))
  (e_Tok2
  (e_Tok2
  (e_Lok (ld_aload_n_0 (x_dk dn_310_2_0_ok 18 rfl)))
  (e_Lok (ps_iconst_1 (x_dk dn_310_2_0_ok 19 rfl))))
  (e_Tok2
  (e_Lok (sm_iaload (x_dk dn_310_2_0_ok 20 rfl)))
  (e_Lok (e_st (I := eI) (er_i2l (x_dk dn_310_2_0_ok 21 rfl)) (nx_un (fun _ => rfl)))))))
  (e_Tok2
  (e_Tok2
  (e_Tok2
  (e_Lok (ld_aload_n_0 (x_dk dn_310_2_0_ok 22 rfl)))
  (e_Lok (ps_iconst_2 (x_dk dn_310_2_0_ok 23 rfl))))
  (e_Tok2
  (e_Lok (sm_iaload (x_dk dn_310_2_0_ok 24 rfl)))
  (e_Lok (e_st (I := eI) (er_i2l (x_dk dn_310_2_1_ok 0 rfl)) (nx_un (fun _ => rfl))))))
  (e_Tok2
  (e_Tok2
  (e_Lok (ld_aload_n_0 (x_dk dn_310_2_1_ok 1 rfl)))
  (e_Lok (ps_iconst_3 (x_dk dn_310_2_1_ok 2 rfl))))
  (e_Tok2
  (e_Lok (sm_iaload (x_dk dn_310_2_1_ok 3 rfl)))
  (e_Tok2
  (e_Lok (e_st (I := eI) (er_i2l (x_dk dn_310_2_1_ok 4 rfl)) (nx_un (fun _ => rfl))))
  (e_Lok (ld_lload_n_2 (x_dk dn_310_2_1_ok 5 rfl)))))))))
def te_310_231 : Nat → eE := (e_T 284 (e_T 276 (e_T 272 (e_T 268 (e_T 265 (e_L 265 (2, e_nof, 307, 7)) (e_L 268 (0, ei_if1 1 302 271, 0, 0))) (e_T 271 (e_L 271 (0, ei_load 1 2 272, 0, 0)) (e_L 272 (0, ei_push (0, 2) 273, 0, 0)))) (e_T 274 (e_T 273 (e_L 273 (0, ei_ald elay false 274, 0, 0)) (e_L 274 (0, ei_un (fun x => (4, x)) 275, 0, 0))) (e_T 275 (e_L 275 (0, ei_load 1 2 276, 0, 0)) (e_L 276 (0, ei_push (0, 3) 277, 0, 0))))) (e_T 280 (e_T 278 (e_T 277 (e_L 277 (0, ei_ald elay false 278, 0, 0)) (e_L 278 (0, ei_un (fun x => (4, x)) 279, 0, 0))) (e_T 279 (e_L 279 (0, ei_load 0 2 280, 0, 0)) (e_L 280 (0, ei_push (0, 0) 281, 0, 0)))) (e_T 282 (e_T 281 (e_L 281 (0, ei_ald elay false 282, 0, 0)) (e_L 282 (0, ei_un (fun x => (4, x)) 283, 0, 0))) (e_T 283 (e_L 283 (0, ei_load 0 2 284, 0, 0)) (e_L 284 (0, ei_push (0, 1) 285, 0, 0)))))) (e_T 292 (e_T 288 (e_T 286 (e_T 285 (e_L 285 (0, ei_ald elay false 286, 0, 0)) (e_L 286 (0, ei_un (fun x => (4, x)) 287, 0, 0))) (e_T 287 (e_L 287 (0, ei_load 0 2 288, 0, 0)) (e_L 288 (0, ei_push (0, 2) 289, 0, 0)))) (e_T 290 (e_T 289 (e_L 289 (0, ei_ald elay false 290, 0, 0)) (e_L 290 (0, ei_un (fun x => (4, x)) 291, 0, 0))) (e_T 291 (e_L 291 (0, ei_load 0 2 292, 0, 0)) (e_L 292 (0, ei_push (0, 3) 293, 0, 0))))) (e_T 296 (e_T 294 (e_T 293 (e_L 293 (0, ei_ald elay false 294, 0, 0)) (e_L 294 (0, ei_un (fun x => (4, x)) 295, 0, 0))) (e_T 295 (e_L 295 (0, ei_load 2 1 296, 0, 0)) (e_L 296 (2, e_nof, 307, 7)))) (e_T 302 (e_T 299 (e_L 299 (0, ei_if1 0 306 302, 0, 0)) (e_L 302 (0, ei_push (0, 1) 303, 0, 0))) (e_T 303 (e_L 303 (0, ei_goto 307, 0, 0)) (e_T 306 (e_L 306 (0, ei_push (0, 0) 307, 0, 0)) (e_L 307 (1, e_nof, 4, 0))))))))
set_option maxRecDepth 20000 in
set_option maxHeartbeats 4000000 in
theorem te_310_231_ok : ∀ pc, e_EOq eft cls elay eI n_310 pc (te_310_231 pc) :=
  (e_Tok2
  (e_Tok2
  (e_Tok2
  (e_Tok2
  (e_Tok2
  (e_Lok (lk_12_424 ho_310 (x_dk dn_310_2_1_ok 6 rfl)))
  (e_Lok (e_st (I := eI) (er_ifne (off := 34) (tg := 302) (x_dk dn_310_2_1_ok 7 rfl) (by decide)) nx_if1)))
  (e_Tok2
  (e_Lok (ld_aload_n_1 (x_dk dn_310_2_1_ok 8 rfl)))
  (e_Lok (ps_iconst_2 (x_dk dn_310_2_1_ok 9 rfl)))))
  (e_Tok2
  (e_Tok2
  (e_Lok (sm_iaload (x_dk dn_310_2_1_ok 10 rfl)))
  (e_Lok (e_st (I := eI) (er_i2l (x_dk dn_310_2_1_ok 11 rfl)) (nx_un (fun _ => rfl)))))
  (e_Tok2
  (e_Lok (ld_aload_n_1 (x_dk dn_310_2_1_ok 12 rfl)))
  (e_Lok (ps_iconst_3 (x_dk dn_310_2_1_ok 13 rfl))))))
  (e_Tok2
  (e_Tok2
  (e_Tok2
  (e_Lok (sm_iaload (x_dk dn_310_2_1_ok 14 rfl)))
  (e_Lok (e_st (I := eI) (er_i2l (x_dk dn_310_2_1_ok 15 rfl)) (nx_un (fun _ => rfl)))))
  (e_Tok2
  (e_Lok (ld_aload_n_0 (x_dk dn_310_2_1_ok 16 rfl)))
  (e_Lok (ps_iconst_0 (x_dk dn_310_2_1_ok 17 rfl)))))
  (e_Tok2
  (e_Tok2
  (e_Lok (sm_iaload (x_dk dn_310_2_1_ok 18 rfl)))
  (e_Lok (e_st (I := eI) (er_i2l (x_dk dn_310_2_1_ok 19 rfl)) (nx_un (fun _ => rfl)))))
  (e_Tok2
  (e_Lok (ld_aload_n_0 (x_dk dn_310_2_1_ok 20 rfl)))
  (e_Lok (ps_iconst_1 (x_dk dn_310_2_1_ok 21 rfl)))))))
  (e_Tok2
  (e_Tok2
  (e_Tok2
  (e_Tok2
  (e_Lok (sm_iaload (x_dk dn_310_2_1_ok 22 rfl)))
  (e_Lok (e_st (I := eI) (er_i2l (x_dk dn_310_2_1_ok 23 rfl)) (nx_un (fun _ => rfl)))))
  (e_Tok2
  (e_Lok (ld_aload_n_0 (x_dk dn_310_2_1_ok 24 rfl)))
  (e_Lok (ps_iconst_2 (x_dk dn_310_2_2_ok 0 rfl)))))
  (e_Tok2
  (e_Tok2
  (e_Lok (sm_iaload (x_dk dn_310_2_2_ok 1 rfl)))
  (e_Lok (e_st (I := eI) (er_i2l (x_dk dn_310_2_2_ok 2 rfl)) (nx_un (fun _ => rfl)))))
  (e_Tok2
  (e_Lok (ld_aload_n_0 (x_dk dn_310_2_2_ok 3 rfl)))
  (e_Lok (ps_iconst_3 (x_dk dn_310_2_2_ok 4 rfl))))))
  (e_Tok2
  (e_Tok2
  (e_Tok2
  (e_Lok (sm_iaload (x_dk dn_310_2_2_ok 5 rfl)))
  (e_Lok (e_st (I := eI) (er_i2l (x_dk dn_310_2_2_ok 6 rfl)) (nx_un (fun _ => rfl)))))
  (e_Tok2
  (e_Lok (ld_lload_n_2 (x_dk dn_310_2_2_ok 7 rfl)))
  (e_Lok (lk_12_424 ho_310 (x_dk dn_310_2_2_ok 8 rfl)))))
  (e_Tok2
  (e_Tok2
  (e_Lok (e_st (I := eI) (er_ifeq (off := 7) (tg := 306) (x_dk dn_310_2_2_ok 9 rfl) (by decide)) nx_if1))
  (e_Lok (ps_iconst_1 (x_dk dn_310_2_2_ok 10 rfl))))
  (e_Tok2
  (e_Lok (e_st (I := eI) (er_goto (off := 4) (tg := 307) (x_dk dn_310_2_2_ok 11 rfl) (by decide)) nx_goto))
  (e_Tok2
  (e_Lok (ps_iconst_0 (x_dk dn_310_2_2_ok 12 rfl)))
  (e_Lok (e_rt (I := eI) (k := 4) ⟨(x_dk dn_310_2_2_ok 13 rfl), rfl⟩))))))))
def te_310 : Nat → eE := (e_T 153 (e_T 75 (e_T 36 te_310_0 te_310_33) (e_T 118 te_310_66 te_310_99)) (e_T 227 (e_T 190 te_310_132 te_310_165) (e_T 264 te_310_198 te_310_231)))
theorem te_310_ok : ∀ pc, e_EOq eft cls elay eI n_310 pc (te_310 pc) := (e_Tok2 ((e_Tok2 ((e_Tok2 (te_310_0_ok) (te_310_33_ok))) ((e_Tok2 (te_310_66_ok) (te_310_99_ok))))) ((e_Tok2 ((e_Tok2 (te_310_132_ok) (te_310_165_ok))) ((e_Tok2 (te_310_198_ok) (te_310_231_ok))))))
theorem ho_311 : (xm_y n_311).cls = "RobotCellHouseModel" := rfl
def dn_311_0_0 : List (Nat × Instr × Nat) := [(0, .aload_n 1, 1), (1, .iconst 0, 1), (2, .iload_n 2, 1), (3, .iastore, 1), (4, .aload_n 1, 1), (5, .iconst 1, 1), (6, .iload_n 3, 1), (7, .iastore, 1), (8, .aload_n 1, 1), (9, .iconst 2, 1), (10, .iload 4, 2), (12, .iastore, 1), (13, .aload_n 1, 1), (14, .iconst 3, 1), (15, .iload 5, 2), (17, .iastore, 1), (18, .return_, 1)]
set_option maxRecDepth 20000 in
theorem dn_311_0_0_ok : dn_311_0_0.all (fun q => decide (decode (xm_b n_311) q.1 = .ok (q.2.1, q.2.2))) = true := xa_g_ok (by decide +kernel)
def te_311_0 : Nat → eE := (e_T 7 (e_T 3 (e_T 1 (e_T 0 (e_L 0 (0, ei_load 1 2 1, 0, 0)) (e_L 1 (0, ei_push (0, 0) 2, 0, 0))) (e_T 2 (e_L 2 (0, ei_load 2 0 3, 0, 0)) (e_L 3 (0, ei_ast elay false 4, 0, 0)))) (e_T 5 (e_T 4 (e_L 4 (0, ei_load 1 2 5, 0, 0)) (e_L 5 (0, ei_push (0, 1) 6, 0, 0))) (e_T 6 (e_L 6 (0, ei_load 3 0 7, 0, 0)) (e_L 7 (0, ei_ast elay false 8, 0, 0))))) (e_T 12 (e_T 9 (e_T 8 (e_L 8 (0, ei_load 1 2 9, 0, 0)) (e_L 9 (0, ei_push (0, 2) 10, 0, 0))) (e_T 10 (e_L 10 (0, ei_load 4 0 12, 0, 0)) (e_L 12 (0, ei_ast elay false 13, 0, 0)))) (e_T 14 (e_T 13 (e_L 13 (0, ei_load 1 2 14, 0, 0)) (e_L 14 (0, ei_push (0, 3) 15, 0, 0))) (e_T 15 (e_L 15 (0, ei_load 5 0 17, 0, 0)) (e_T 17 (e_L 17 (0, ei_ast elay false 18, 0, 0)) (e_L 18 (1, e_nof, 0, 0)))))))
set_option maxRecDepth 20000 in
set_option maxHeartbeats 4000000 in
theorem te_311_0_ok : ∀ pc, e_EOq eft cls elay eI n_311 pc (te_311_0 pc) :=
  (e_Tok2
  (e_Tok2
  (e_Tok2
  (e_Tok2
  (e_Lok (ld_aload_n_1 (x_dk dn_311_0_0_ok 0 rfl)))
  (e_Lok (ps_iconst_0 (x_dk dn_311_0_0_ok 1 rfl))))
  (e_Tok2
  (e_Lok (ld_iload_n_2 (x_dk dn_311_0_0_ok 2 rfl)))
  (e_Lok (sm_iastore (x_dk dn_311_0_0_ok 3 rfl)))))
  (e_Tok2
  (e_Tok2
  (e_Lok (ld_aload_n_1 (x_dk dn_311_0_0_ok 4 rfl)))
  (e_Lok (ps_iconst_1 (x_dk dn_311_0_0_ok 5 rfl))))
  (e_Tok2
  (e_Lok (ld_iload_n_3 (x_dk dn_311_0_0_ok 6 rfl)))
  (e_Lok (sm_iastore (x_dk dn_311_0_0_ok 7 rfl))))))
  (e_Tok2
  (e_Tok2
  (e_Tok2
  (e_Lok (ld_aload_n_1 (x_dk dn_311_0_0_ok 8 rfl)))
  (e_Lok (ps_iconst_2 (x_dk dn_311_0_0_ok 9 rfl))))
  (e_Tok2
  (e_Lok (ld_iload_4 (x_dk dn_311_0_0_ok 10 rfl)))
  (e_Lok (sm_iastore (x_dk dn_311_0_0_ok 11 rfl)))))
  (e_Tok2
  (e_Tok2
  (e_Lok (ld_aload_n_1 (x_dk dn_311_0_0_ok 12 rfl)))
  (e_Lok (ps_iconst_3 (x_dk dn_311_0_0_ok 13 rfl))))
  (e_Tok2
  (e_Lok (ld_iload_5 (x_dk dn_311_0_0_ok 14 rfl)))
  (e_Tok2
  (e_Lok (sm_iastore (x_dk dn_311_0_0_ok 15 rfl)))
  (e_Lok (e_rt (I := eI) (k := 0) ⟨(x_dk dn_311_0_0_ok 16 rfl), rfl⟩)))))))
def te_311 : Nat → eE := te_311_0
theorem te_311_ok : ∀ pc, e_EOq eft cls elay eI n_311 pc (te_311 pc) := te_311_0_ok
end
