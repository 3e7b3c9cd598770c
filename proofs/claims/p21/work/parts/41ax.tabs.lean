noncomputable section
theorem ho_321 : (xm_y n_321).cls = "RobotCellHouseModel" := rfl
def dn_321_0_0 : List (Nat × Instr × Nat) := [(0, .iconst 0, 1), (1, .istore_n 1, 1), (2, .iload_n 1, 1), (3, .bipush 64, 2), (5, .if_icmp .ge 28, 3), (8, .aload_n 0, 1), (9, .getfield 167, 3), (12, .iload_n 1, 1), (13, .aload_n 0, 1), (14, .iload_n 1, 1), (15, .invokevirtual 464, 3), (18, .ifCond .ne 7, 3), (21, .iconst 1, 1), (22, .goto 4, 3), (25, .iconst 0, 1), (26, .bastore, 1), (27, .iinc 1 1, 3), (30, .goto (-28), 3), (33, .return_, 1)]
set_option maxRecDepth 20000 in
theorem dn_321_0_0_ok : dn_321_0_0.all (fun q => decide (decode (xm_b n_321) q.1 = .ok (q.2.1, q.2.2))) = true := xa_g_ok (by decide +kernel)
def te_321_0 : Nat → eE := (e_T 13 (e_T 3 (e_T 1 (e_T 0 (e_L 0 (0, ei_push (0, 0) 1, 0, 0)) (e_L 1 (0, ei_stor 1 0 2, 0, 0))) (e_T 2 (e_L 2 (0, ei_load 1 0 3, 0, 0)) (e_L 3 (0, ei_push (0, 64) 5, 0, 0)))) (e_T 8 (e_T 5 (e_L 5 (0, ei_if2 3 33 8, 0, 0)) (e_L 8 (0, ei_load 0 2 9, 0, 0))) (e_T 9 (e_L 9 (0, ei_getf eft elay 12 64 12, 0, 0)) (e_T 12 (e_L 12 (0, ei_load 1 0 13, 0, 0)) (e_L 13 (0, ei_load 0 2 14, 0, 0)))))) (e_T 22 (e_T 15 (e_T 14 (e_L 14 (0, ei_load 1 0 15, 0, 0)) (e_L 15 (2, e_nof, 320, 2))) (e_T 18 (e_L 18 (0, ei_if1 1 25 21, 0, 0)) (e_T 21 (e_L 21 (0, ei_push (0, 1) 22, 0, 0)) (e_L 22 (0, ei_goto 26, 0, 0))))) (e_T 26 (e_T 25 (e_L 25 (0, ei_push (0, 0) 26, 0, 0)) (e_L 26 (0, ei_ast elay true 27, 0, 0))) (e_T 27 (e_L 27 (0, ei_inc 1 1 30, 0, 0)) (e_T 30 (e_L 30 (0, ei_goto 2, 0, 0)) (e_L 33 (1, e_nof, 0, 0)))))))
set_option maxRecDepth 20000 in
set_option maxHeartbeats 4000000 in
theorem te_321_0_ok : ∀ pc, e_EOq eft cls elay eI n_321 pc (te_321_0 pc) :=
  (e_Tok2
  (e_Tok2
  (e_Tok2
  (e_Tok2
  (e_Lok (ps_iconst_0 (x_dk dn_321_0_0_ok 0 rfl)))
  (e_Lok (e_st (I := eI) (er_istore_n (i := 1) (x_dk dn_321_0_0_ok 1 rfl) (by decide +kernel)) nx_stor)))
  (e_Tok2
  (e_Lok (ld_iload_n_1 (x_dk dn_321_0_0_ok 2 rfl)))
  (e_Lok (ps_bipush_64 (x_dk dn_321_0_0_ok 3 rfl)))))
  (e_Tok2
  (e_Tok2
  (e_Lok (e_st (I := eI) (er_icmpge (off := 28) (tg := 33) (x_dk dn_321_0_0_ok 4 rfl) (by decide)) nx_if2))
  (e_Lok (ld_aload_n_0 (x_dk dn_321_0_0_ok 5 rfl))))
  (e_Tok2
  (e_Lok (lk_12_167g ho_321 (x_dk dn_321_0_0_ok 6 rfl)))
  (e_Tok2
  (e_Lok (ld_iload_n_1 (x_dk dn_321_0_0_ok 7 rfl)))
  (e_Lok (ld_aload_n_0 (x_dk dn_321_0_0_ok 8 rfl)))))))
  (e_Tok2
  (e_Tok2
  (e_Tok2
  (e_Lok (ld_iload_n_1 (x_dk dn_321_0_0_ok 9 rfl)))
  (e_Lok (lk_12_464 ho_321 (x_dk dn_321_0_0_ok 10 rfl))))
  (e_Tok2
  (e_Lok (e_st (I := eI) (er_ifne (off := 7) (tg := 25) (x_dk dn_321_0_0_ok 11 rfl) (by decide)) nx_if1))
  (e_Tok2
  (e_Lok (ps_iconst_1 (x_dk dn_321_0_0_ok 12 rfl)))
  (e_Lok (e_st (I := eI) (er_goto (off := 4) (tg := 26) (x_dk dn_321_0_0_ok 13 rfl) (by decide)) nx_goto)))))
  (e_Tok2
  (e_Tok2
  (e_Lok (ps_iconst_0 (x_dk dn_321_0_0_ok 14 rfl)))
  (e_Lok (e_st (I := eI) (er_bastore (x_dk dn_321_0_0_ok 15 rfl)) nx_ast)))
  (e_Tok2
  (e_Lok (e_st (I := eI) (er_iinc (i := 1) (n := 1) (x_dk dn_321_0_0_ok 16 rfl) (by decide +kernel) (by decide)) nx_inc))
  (e_Tok2
  (e_Lok (e_st (I := eI) (er_goto (off := (-28)) (tg := 2) (x_dk dn_321_0_0_ok 17 rfl) (by decide)) nx_goto))
  (e_Lok (e_rt (I := eI) (k := 0) ⟨(x_dk dn_321_0_0_ok 18 rfl), rfl⟩)))))))
def te_321 : Nat → eE := te_321_0
theorem te_321_ok : ∀ pc, e_EOq eft cls elay eI n_321 pc (te_321 pc) := te_321_0_ok
theorem ho_322 : (xm_y n_322).cls = "RobotCellHouseModel" := rfl
def dn_322_0_0 : List (Nat × Instr × Nat) := [(0, .iconst 0, 1), (1, .istore_n 1, 1), (2, .iload_n 1, 1), (3, .bipush 64, 2), (5, .if_icmp .ge 44, 3), (8, .aload_n 0, 1), (9, .getfield 8, 3), (12, .sipush 352, 3), (15, .iload_n 1, 1), (16, .iadd, 1), (17, .dup2, 1), (18, .iaload, 1), (19, .aload_n 0, 1), (20, .getfield 167, 3), (23, .iload_n 1, 1), (24, .baload, 1), (25, .ifCond .eq 15, 3), (28, .aload_n 0, 1), (29, .iload_n 1, 1), (30, .invokevirtual 464, 3), (33, .ifCond .eq 7, 3), (36, .iconst 1, 1), (37, .goto 4, 3), (40, .iconst 0, 1), (41, .iadd, 1)]
set_option maxRecDepth 20000 in
theorem dn_322_0_0_ok : dn_322_0_0.all (fun q => decide (decode (xm_b n_322) q.1 = .ok (q.2.1, q.2.2))) = true := xa_g_ok (by decide +kernel)
def dn_322_0_1 : List (Nat × Instr × Nat) := [(42, .iastore, 1), (43, .iinc 1 1, 3), (46, .goto (-44), 3), (49, .return_, 1)]
set_option maxRecDepth 20000 in
theorem dn_322_0_1_ok : dn_322_0_1.all (fun q => decide (decode (xm_b n_322) q.1 = .ok (q.2.1, q.2.2))) = true := xa_g_ok (by decide +kernel)
def te_322_0 : Nat → eE := (e_T 20 (e_T 9 (e_T 2 (e_T 0 (e_L 0 (0, ei_push (0, 0) 1, 0, 0)) (e_T 1 (e_L 1 (0, ei_stor 1 0 2, 0, 0)) (e_L 2 (0, ei_load 1 0 3, 0, 0)))) (e_T 5 (e_T 3 (e_L 3 (0, ei_push (0, 64) 5, 0, 0)) (e_L 5 (0, ei_if2 3 49 8, 0, 0))) (e_T 8 (e_L 8 (0, ei_load 0 2 9, 0, 0)) (e_L 9 (0, ei_getf eft elay 12 0 12, 0, 0))))) (e_T 16 (e_T 12 (e_L 12 (0, ei_push (0, 352) 15, 0, 0)) (e_T 15 (e_L 15 (0, ei_load 1 0 16, 0, 0)) (e_L 16 (0, ei_bin eF_add 17, 0, 0)))) (e_T 18 (e_T 17 (e_L 17 (0, ei_stk ef_dup2 18, 0, 0)) (e_L 18 (0, ei_ald elay false 19, 0, 0))) (e_T 19 (e_L 19 (0, ei_load 0 2 20, 0, 0)) (e_L 20 (0, ei_getf eft elay 12 64 23, 0, 0)))))) (e_T 33 (e_T 25 (e_T 23 (e_L 23 (0, ei_load 1 0 24, 0, 0)) (e_T 24 (e_L 24 (0, ei_ald elay true 25, 0, 0)) (e_L 25 (0, ei_if1 0 40 28, 0, 0)))) (e_T 29 (e_T 28 (e_L 28 (0, ei_load 0 2 29, 0, 0)) (e_L 29 (0, ei_load 1 0 30, 0, 0))) (e_T 30 (e_L 30 (2, e_nof, 320, 2)) (e_L 33 (0, ei_if1 0 40 36, 0, 0))))) (e_T 41 (e_T 37 (e_T 36 (e_L 36 (0, ei_push (0, 1) 37, 0, 0)) (e_L 37 (0, ei_goto 41, 0, 0))) (e_T 40 (e_L 40 (0, ei_push (0, 0) 41, 0, 0)) (e_L 41 (0, ei_bin eF_add 42, 0, 0)))) (e_T 43 (e_T 42 (e_L 42 (0, ei_ast elay false 43, 0, 0)) (e_L 43 (0, ei_inc 1 1 46, 0, 0))) (e_T 46 (e_L 46 (0, ei_goto 2, 0, 0)) (e_L 49 (1, e_nof, 0, 0)))))))
set_option maxRecDepth 20000 in
set_option maxHeartbeats 4000000 in
theorem te_322_0_ok : ∀ pc, e_EOq eft cls elay eI n_322 pc (te_322_0 pc) :=
  (e_Tok2
  (e_Tok2
  (e_Tok2
  (e_Tok2
  (e_Lok (ps_iconst_0 (x_dk dn_322_0_0_ok 0 rfl)))
  (e_Tok2
  (e_Lok (e_st (I := eI) (er_istore_n (i := 1) (x_dk dn_322_0_0_ok 1 rfl) (by decide +kernel)) nx_stor))
  (e_Lok (ld_iload_n_1 (x_dk dn_322_0_0_ok 2 rfl)))))
  (e_Tok2
  (e_Tok2
  (e_Lok (ps_bipush_64 (x_dk dn_322_0_0_ok 3 rfl)))
  (e_Lok (e_st (I := eI) (er_icmpge (off := 44) (tg := 49) (x_dk dn_322_0_0_ok 4 rfl) (by decide)) nx_if2)))
  (e_Tok2
  (e_Lok (ld_aload_n_0 (x_dk dn_322_0_0_ok 5 rfl)))
  (e_Lok (lk_12_8g ho_322 (x_dk dn_322_0_0_ok 6 rfl))))))
  (e_Tok2
  (e_Tok2
  (e_Lok (ps_sipush_352 (x_dk dn_322_0_0_ok 7 rfl)))
  (e_Tok2
  (e_Lok (ld_iload_n_1 (x_dk dn_322_0_0_ok 8 rfl)))
  (e_Lok (sm_iadd (x_dk dn_322_0_0_ok 9 rfl)))))
  (e_Tok2
  (e_Tok2
  (e_Lok (e_st (I := eI) (er_dup2 (x_dk dn_322_0_0_ok 10 rfl)) (nx_stk bf_dup2)))
  (e_Lok (sm_iaload (x_dk dn_322_0_0_ok 11 rfl))))
  (e_Tok2
  (e_Lok (ld_aload_n_0 (x_dk dn_322_0_0_ok 12 rfl)))
  (e_Lok (lk_12_167g ho_322 (x_dk dn_322_0_0_ok 13 rfl)))))))
  (e_Tok2
  (e_Tok2
  (e_Tok2
  (e_Lok (ld_iload_n_1 (x_dk dn_322_0_0_ok 14 rfl)))
  (e_Tok2
  (e_Lok (e_st (I := eI) (er_baload (x_dk dn_322_0_0_ok 15 rfl)) nx_ald))
  (e_Lok (e_st (I := eI) (er_ifeq (off := 15) (tg := 40) (x_dk dn_322_0_0_ok 16 rfl) (by decide)) nx_if1))))
  (e_Tok2
  (e_Tok2
  (e_Lok (ld_aload_n_0 (x_dk dn_322_0_0_ok 17 rfl)))
  (e_Lok (ld_iload_n_1 (x_dk dn_322_0_0_ok 18 rfl))))
  (e_Tok2
  (e_Lok (lk_12_464 ho_322 (x_dk dn_322_0_0_ok 19 rfl)))
  (e_Lok (e_st (I := eI) (er_ifeq (off := 7) (tg := 40) (x_dk dn_322_0_0_ok 20 rfl) (by decide)) nx_if1)))))
  (e_Tok2
  (e_Tok2
  (e_Tok2
  (e_Lok (ps_iconst_1 (x_dk dn_322_0_0_ok 21 rfl)))
  (e_Lok (e_st (I := eI) (er_goto (off := 4) (tg := 41) (x_dk dn_322_0_0_ok 22 rfl) (by decide)) nx_goto)))
  (e_Tok2
  (e_Lok (ps_iconst_0 (x_dk dn_322_0_0_ok 23 rfl)))
  (e_Lok (sm_iadd (x_dk dn_322_0_0_ok 24 rfl)))))
  (e_Tok2
  (e_Tok2
  (e_Lok (sm_iastore (x_dk dn_322_0_1_ok 0 rfl)))
  (e_Lok (e_st (I := eI) (er_iinc (i := 1) (n := 1) (x_dk dn_322_0_1_ok 1 rfl) (by decide +kernel) (by decide)) nx_inc)))
  (e_Tok2
  (e_Lok (e_st (I := eI) (er_goto (off := (-44)) (tg := 2) (x_dk dn_322_0_1_ok 2 rfl) (by decide)) nx_goto))
  (e_Lok (e_rt (I := eI) (k := 0) ⟨(x_dk dn_322_0_1_ok 3 rfl), rfl⟩)))))))
def te_322 : Nat → eE := te_322_0
theorem te_322_ok : ∀ pc, e_EOq eft cls elay eI n_322 pc (te_322 pc) := te_322_0_ok
theorem ho_323 : (xm_y n_323).cls = "RobotCellHouseModel" := rfl
def dn_323_0_0 : List (Nat × Instr × Nat) := [(0, .aload_n 0, 1), (1, .getfield 8, 3), (4, .sipush 160, 3), (7, .iload_n 1, 1), (8, .iadd, 1), (9, .iaload, 1), (10, .iload_n 2, 1), (11, .if_icmp .eq 22, 3), (14, .aload_n 0, 1), (15, .invokevirtual 467, 3), (18, .aload_n 0, 1), (19, .getfield 8, 3), (22, .sipush 160, 3), (25, .iload_n 1, 1), (26, .iadd, 1), (27, .iload_n 2, 1), (28, .iastore, 1), (29, .aload_n 0, 1), (30, .invokevirtual 470, 3), (33, .return_, 1)]
set_option maxRecDepth 20000 in
theorem dn_323_0_0_ok : dn_323_0_0.all (fun q => decide (decode (xm_b n_323) q.1 = .ok (q.2.1, q.2.2))) = true := xa_g_ok (by decide +kernel)
def te_323_0 : Nat → eE := (e_T 15 (e_T 8 (e_T 1 (e_T 0 (e_L 0 (0, ei_load 0 2 1, 0, 0)) (e_L 1 (0, ei_getf eft elay 12 0 4, 0, 0))) (e_T 4 (e_L 4 (0, ei_push (0, 160) 7, 0, 0)) (e_T 7 (e_L 7 (0, ei_load 1 0 8, 0, 0)) (e_L 8 (0, ei_bin eF_add 9, 0, 0))))) (e_T 10 (e_T 9 (e_L 9 (0, ei_ald elay false 10, 0, 0)) (e_L 10 (0, ei_load 2 0 11, 0, 0))) (e_T 11 (e_L 11 (0, ei_if2 0 33 14, 0, 0)) (e_T 14 (e_L 14 (0, ei_load 0 2 15, 0, 0)) (e_L 15 (2, e_nof, 321, 1)))))) (e_T 26 (e_T 19 (e_T 18 (e_L 18 (0, ei_load 0 2 19, 0, 0)) (e_L 19 (0, ei_getf eft elay 12 0 22, 0, 0))) (e_T 22 (e_L 22 (0, ei_push (0, 160) 25, 0, 0)) (e_T 25 (e_L 25 (0, ei_load 1 0 26, 0, 0)) (e_L 26 (0, ei_bin eF_add 27, 0, 0))))) (e_T 28 (e_T 27 (e_L 27 (0, ei_load 2 0 28, 0, 0)) (e_L 28 (0, ei_ast elay false 29, 0, 0))) (e_T 29 (e_L 29 (0, ei_load 0 2 30, 0, 0)) (e_T 30 (e_L 30 (2, e_nof, 322, 1)) (e_L 33 (1, e_nof, 0, 0)))))))
set_option maxRecDepth 20000 in
set_option maxHeartbeats 4000000 in
theorem te_323_0_ok : ∀ pc, e_EOq eft cls elay eI n_323 pc (te_323_0 pc) :=
  (e_Tok2
  (e_Tok2
  (e_Tok2
  (e_Tok2
  (e_Lok (ld_aload_n_0 (x_dk dn_323_0_0_ok 0 rfl)))
  (e_Lok (lk_12_8g ho_323 (x_dk dn_323_0_0_ok 1 rfl))))
  (e_Tok2
  (e_Lok (ps_sipush_160 (x_dk dn_323_0_0_ok 2 rfl)))
  (e_Tok2
  (e_Lok (ld_iload_n_1 (x_dk dn_323_0_0_ok 3 rfl)))
  (e_Lok (sm_iadd (x_dk dn_323_0_0_ok 4 rfl))))))
  (e_Tok2
  (e_Tok2
  (e_Lok (sm_iaload (x_dk dn_323_0_0_ok 5 rfl)))
  (e_Lok (ld_iload_n_2 (x_dk dn_323_0_0_ok 6 rfl))))
  (e_Tok2
  (e_Lok (e_st (I := eI) (er_icmpeq (off := 22) (tg := 33) (x_dk dn_323_0_0_ok 7 rfl) (by decide)) nx_if2))
  (e_Tok2
  (e_Lok (ld_aload_n_0 (x_dk dn_323_0_0_ok 8 rfl)))
  (e_Lok (lk_12_467 ho_323 (x_dk dn_323_0_0_ok 9 rfl)))))))
  (e_Tok2
  (e_Tok2
  (e_Tok2
  (e_Lok (ld_aload_n_0 (x_dk dn_323_0_0_ok 10 rfl)))
  (e_Lok (lk_12_8g ho_323 (x_dk dn_323_0_0_ok 11 rfl))))
  (e_Tok2
  (e_Lok (ps_sipush_160 (x_dk dn_323_0_0_ok 12 rfl)))
  (e_Tok2
  (e_Lok (ld_iload_n_1 (x_dk dn_323_0_0_ok 13 rfl)))
  (e_Lok (sm_iadd (x_dk dn_323_0_0_ok 14 rfl))))))
  (e_Tok2
  (e_Tok2
  (e_Lok (ld_iload_n_2 (x_dk dn_323_0_0_ok 15 rfl)))
  (e_Lok (sm_iastore (x_dk dn_323_0_0_ok 16 rfl))))
  (e_Tok2
  (e_Lok (ld_aload_n_0 (x_dk dn_323_0_0_ok 17 rfl)))
  (e_Tok2
  (e_Lok (lk_12_470 ho_323 (x_dk dn_323_0_0_ok 18 rfl)))
  (e_Lok (e_rt (I := eI) (k := 0) ⟨(x_dk dn_323_0_0_ok 19 rfl), rfl⟩)))))))
def te_323 : Nat → eE := te_323_0
theorem te_323_ok : ∀ pc, e_EOq eft cls elay eI n_323 pc (te_323 pc) := te_323_0_ok
theorem ho_324 : (xm_y n_324).cls = "RobotCellHouseModel" := rfl
def dn_324_0_0 : List (Nat × Instr × Nat) := [(0, .iload_n 0, 1), (1, .i2l, 1), (2, .ldc2_w 473, 3), (5, .ldc2_w 475, 3), (8, .invokestatic 301, 3), (11, .ifCond .ne 17, 3), (14, .iload_n 0, 1), (15, .i2l, 1), (16, .ldc2_w 477, 3), (19, .ldc2_w 479, 3), (22, .invokestatic 301, 3), (25, .ifCond .eq 7, 3), (28, .iconst 1, 1), (29, .goto 4, 3), (32, .iconst 0, 1), (33, .ireturn, 1)]
set_option maxRecDepth 20000 in
theorem dn_324_0_0_ok : dn_324_0_0.all (fun q => decide (decode (xm_b n_324) q.1 = .ok (q.2.1, q.2.2))) = true := xa_g_ok (by decide +kernel)
def te_324_0 : Nat → eE := (e_T 15 (e_T 5 (e_T 1 (e_T 0 (e_L 0 (0, ei_load 0 0 1, 0, 0)) (e_L 1 (0, ei_un (fun x => (4, x)) 2, 0, 0))) (e_T 2 (e_L 2 (0, ei_push (4, 97) 5, 0, 0)) (e_L 5 (0, ei_push (4, 122) 8, 0, 0)))) (e_T 11 (e_T 8 (e_L 8 (2, e_nof, 266, 3)) (e_L 11 (0, ei_if1 1 28 14, 0, 0))) (e_T 14 (e_L 14 (0, ei_load 0 0 15, 0, 0)) (e_L 15 (0, ei_un (fun x => (4, x)) 16, 0, 0))))) (e_T 25 (e_T 19 (e_T 16 (e_L 16 (0, ei_push (4, 65) 19, 0, 0)) (e_L 19 (0, ei_push (4, 90) 22, 0, 0))) (e_T 22 (e_L 22 (2, e_nof, 266, 3)) (e_L 25 (0, ei_if1 0 32 28, 0, 0)))) (e_T 29 (e_T 28 (e_L 28 (0, ei_push (0, 1) 29, 0, 0)) (e_L 29 (0, ei_goto 33, 0, 0))) (e_T 32 (e_L 32 (0, ei_push (0, 0) 33, 0, 0)) (e_L 33 (1, e_nof, 4, 0))))))
set_option maxRecDepth 20000 in
set_option maxHeartbeats 4000000 in
theorem te_324_0_ok : ∀ pc, e_EOq eft cls elay eI n_324 pc (te_324_0 pc) :=
  (e_Tok2
  (e_Tok2
  (e_Tok2
  (e_Tok2
  (e_Lok (ld_iload_n_0 (x_dk dn_324_0_0_ok 0 rfl)))
  (e_Lok (e_st (I := eI) (er_i2l (x_dk dn_324_0_0_ok 1 rfl)) (nx_un (fun _ => rfl)))))
  (e_Tok2
  (e_Lok (e_st (I := eI) (er_ldc2 (ix := 473) (z := 97) (v := 97) (x_dk dn_324_0_0_ok 2 rfl) (in_t11 (List.mem_of_getElem? (i := 217) rfl) rfl) (by decide)) (nx_push (Or.inl rfl))))
  (e_Lok (e_st (I := eI) (er_ldc2 (ix := 475) (z := 122) (v := 122) (x_dk dn_324_0_0_ok 3 rfl) (in_t11 (List.mem_of_getElem? (i := 218) rfl) rfl) (by decide)) (nx_push (Or.inl rfl))))))
  (e_Tok2
  (e_Tok2
  (e_Lok (lk_12_301 ho_324 (x_dk dn_324_0_0_ok 4 rfl)))
  (e_Lok (e_st (I := eI) (er_ifne (off := 17) (tg := 28) (x_dk dn_324_0_0_ok 5 rfl) (by decide)) nx_if1)))
  (e_Tok2
  (e_Lok (ld_iload_n_0 (x_dk dn_324_0_0_ok 6 rfl)))
  (e_Lok (e_st (I := eI) (er_i2l (x_dk dn_324_0_0_ok 7 rfl)) (nx_un (fun _ => rfl)))))))
  (e_Tok2
  (e_Tok2
  (e_Tok2
  (e_Lok (e_st (I := eI) (er_ldc2 (ix := 477) (z := 65) (v := 65) (x_dk dn_324_0_0_ok 8 rfl) (in_t11 (List.mem_of_getElem? (i := 219) rfl) rfl) (by decide)) (nx_push (Or.inl rfl))))
  (e_Lok (e_st (I := eI) (er_ldc2 (ix := 479) (z := 90) (v := 90) (x_dk dn_324_0_0_ok 9 rfl) (in_t11 (List.mem_of_getElem? (i := 220) rfl) rfl) (by decide)) (nx_push (Or.inl rfl)))))
  (e_Tok2
  (e_Lok (lk_12_301 ho_324 (x_dk dn_324_0_0_ok 10 rfl)))
  (e_Lok (e_st (I := eI) (er_ifeq (off := 7) (tg := 32) (x_dk dn_324_0_0_ok 11 rfl) (by decide)) nx_if1))))
  (e_Tok2
  (e_Tok2
  (e_Lok (ps_iconst_1 (x_dk dn_324_0_0_ok 12 rfl)))
  (e_Lok (e_st (I := eI) (er_goto (off := 4) (tg := 33) (x_dk dn_324_0_0_ok 13 rfl) (by decide)) nx_goto)))
  (e_Tok2
  (e_Lok (ps_iconst_0 (x_dk dn_324_0_0_ok 14 rfl)))
  (e_Lok (e_rt (I := eI) (k := 4) ⟨(x_dk dn_324_0_0_ok 15 rfl), rfl⟩))))))
def te_324 : Nat → eE := te_324_0
theorem te_324_ok : ∀ pc, e_EOq eft cls elay eI n_324 pc (te_324 pc) := te_324_0_ok
theorem ho_325 : (xm_y n_325).cls = "RobotCellHouseModel" := rfl
def dn_325_0_0 : List (Nat × Instr × Nat) := [(0, .iload_n 0, 1), (1, .i2l, 1), (2, .ldc2_w 481, 3), (5, .ldc2_w 483, 3), (8, .invokestatic 301, 3), (11, .ireturn, 1)]
set_option maxRecDepth 20000 in
theorem dn_325_0_0_ok : dn_325_0_0.all (fun q => decide (decode (xm_b n_325) q.1 = .ok (q.2.1, q.2.2))) = true := xa_g_ok (by decide +kernel)
def te_325_0 : Nat → eE := (e_T 2 (e_T 0 (e_L 0 (0, ei_load 0 0 1, 0, 0)) (e_T 1 (e_L 1 (0, ei_un (fun x => (4, x)) 2, 0, 0)) (e_L 2 (0, ei_push (4, 48) 5, 0, 0)))) (e_T 5 (e_L 5 (0, ei_push (4, 57) 8, 0, 0)) (e_T 8 (e_L 8 (2, e_nof, 266, 3)) (e_L 11 (1, e_nof, 4, 0)))))
set_option maxRecDepth 20000 in
set_option maxHeartbeats 4000000 in
theorem te_325_0_ok : ∀ pc, e_EOq eft cls elay eI n_325 pc (te_325_0 pc) :=
  (e_Tok2
  (e_Tok2
  (e_Lok (ld_iload_n_0 (x_dk dn_325_0_0_ok 0 rfl)))
  (e_Tok2
  (e_Lok (e_st (I := eI) (er_i2l (x_dk dn_325_0_0_ok 1 rfl)) (nx_un (fun _ => rfl))))
  (e_Lok (e_st (I := eI) (er_ldc2 (ix := 481) (z := 48) (v := 48) (x_dk dn_325_0_0_ok 2 rfl) (in_t11 (List.mem_of_getElem? (i := 228) rfl) rfl) (by decide)) (nx_push (Or.inl rfl))))))
  (e_Tok2
  (e_Lok (e_st (I := eI) (er_ldc2 (ix := 483) (z := 57) (v := 57) (x_dk dn_325_0_0_ok 3 rfl) (in_t11 (List.mem_of_getElem? (i := 229) rfl) rfl) (by decide)) (nx_push (Or.inl rfl))))
  (e_Tok2
  (e_Lok (lk_12_301 ho_325 (x_dk dn_325_0_0_ok 4 rfl)))
  (e_Lok (e_rt (I := eI) (k := 4) ⟨(x_dk dn_325_0_0_ok 5 rfl), rfl⟩)))))
def te_325 : Nat → eE := te_325_0
theorem te_325_ok : ∀ pc, e_EOq eft cls elay eI n_325 pc (te_325 pc) := te_325_0_ok
theorem ho_326 : (xm_y n_326).cls = "RobotCellHouseModel" := rfl
def dn_326_0_0 : List (Nat × Instr × Nat) := [(0, .iload_n 1, 1), (1, .aload_n 0, 1), (2, .getfield 317, 3), (5, .if_icmp .ge 12, 3), (8, .aload_n 0, 1), (9, .getfield 27, 3), (12, .iload_n 1, 1), (13, .baload, 1), (14, .goto 6, 3), (17, .sipush (-1000), 3), (20, .ireturn, 1)]
set_option maxRecDepth 20000 in
theorem dn_326_0_0_ok : dn_326_0_0.all (fun q => decide (decode (xm_b n_326) q.1 = .ok (q.2.1, q.2.2))) = true := xa_g_ok (by decide +kernel)
def te_326_0 : Nat → eE := (e_T 8 (e_T 1 (e_T 0 (e_L 0 (0, ei_load 1 0 1, 0, 0)) (e_L 1 (0, ei_load 0 2 2, 0, 0))) (e_T 2 (e_L 2 (0, ei_getf eft elay 12 9 5, 0, 0)) (e_T 5 (e_L 5 (0, ei_if2 3 17 8, 0, 0)) (e_L 8 (0, ei_load 0 2 9, 0, 0))))) (e_T 13 (e_T 9 (e_L 9 (0, ei_getf eft elay 12 8 12, 0, 0)) (e_T 12 (e_L 12 (0, ei_load 1 0 13, 0, 0)) (e_L 13 (0, ei_ald elay true 14, 0, 0)))) (e_T 14 (e_L 14 (0, ei_goto 20, 0, 0)) (e_T 17 (e_L 17 (0, ei_push (0, (-1000)) 20, 0, 0)) (e_L 20 (1, e_nof, 1, 0))))))
set_option maxRecDepth 20000 in
set_option maxHeartbeats 4000000 in
theorem te_326_0_ok : ∀ pc, e_EOq eft cls elay eI n_326 pc (te_326_0 pc) :=
  (e_Tok2
  (e_Tok2
  (e_Tok2
  (e_Lok (ld_iload_n_1 (x_dk dn_326_0_0_ok 0 rfl)))
  (e_Lok (ld_aload_n_0 (x_dk dn_326_0_0_ok 1 rfl))))
  (e_Tok2
  (e_Lok (lk_12_317g ho_326 (x_dk dn_326_0_0_ok 2 rfl)))
  (e_Tok2
  (e_Lok (e_st (I := eI) (er_icmpge (off := 12) (tg := 17) (x_dk dn_326_0_0_ok 3 rfl) (by decide)) nx_if2))
  (e_Lok (ld_aload_n_0 (x_dk dn_326_0_0_ok 4 rfl))))))
  (e_Tok2
  (e_Tok2
  (e_Lok (lk_12_27g ho_326 (x_dk dn_326_0_0_ok 5 rfl)))
  (e_Tok2
  (e_Lok (ld_iload_n_1 (x_dk dn_326_0_0_ok 6 rfl)))
  (e_Lok (e_st (I := eI) (er_baload (x_dk dn_326_0_0_ok 7 rfl)) nx_ald))))
  (e_Tok2
  (e_Lok (e_st (I := eI) (er_goto (off := 6) (tg := 20) (x_dk dn_326_0_0_ok 8 rfl) (by decide)) nx_goto))
  (e_Tok2
  (e_Lok (ps_sipush_m1000 (x_dk dn_326_0_0_ok 9 rfl)))
  (e_Lok (e_rt (I := eI) (k := 1) ⟨(x_dk dn_326_0_0_ok 10 rfl), rfl⟩))))))
def te_326 : Nat → eE := te_326_0
theorem te_326_ok : ∀ pc, e_EOq eft cls elay eI n_326 pc (te_326 pc) := te_326_0_ok
theorem ho_327 : (xm_y n_327).cls = "RobotCellHouseModel" := rfl
def dn_327_0_0 : List (Nat × Instr × Nat) := [(0, .aload_n 0, 1), (1, .getfield 485, 3), (4, .istore_n 1, 1), (5, .iconst 1, 1), (6, .istore_n 2, 1), (7, .iload_n 2, 1), (8, .ifCond .eq 77, 3), (11, .iload_n 1, 1), (12, .aload_n 0, 1), (13, .getfield 317, 3), (16, .if_icmp .ge 29, 3), (19, .aload_n 0, 1), (20, .getfield 27, 3), (23, .iload_n 1, 1), (24, .baload, 1), (25, .ifCond .lt 20, 3), (28, .aload_n 0, 1), (29, .getfield 27, 3), (32, .iload_n 1, 1), (33, .baload, 1), (34, .bipush 32, 2), (36, .if_icmp .gt 9, 3), (39, .iinc 1 1, 3), (42, .goto (-35), 3), (45, .aload_n 0, 1)]
set_option maxRecDepth 20000 in
theorem dn_327_0_0_ok : dn_327_0_0.all (fun q => decide (decode (xm_b n_327) q.1 = .ok (q.2.1, q.2.2))) = true := xa_g_ok (by decide +kernel)
def dn_327_0_1 : List (Nat × Instr × Nat) := [(46, .iload_n 1, 1), (47, .invokevirtual 488, 3), (50, .bipush 35, 2), (52, .if_icmp .ne 28, 3), (55, .iload_n 1, 1), (56, .aload_n 0, 1), (57, .getfield 317, 3), (60, .if_icmp .ge (-53), 3), (63, .aload_n 0, 1), (64, .getfield 27, 3), (67, .iload_n 1, 1), (68, .baload, 1), (69, .bipush 10, 2), (71, .if_icmp .eq (-64), 3), (74, .iinc 1 1, 3), (77, .goto (-22), 3), (80, .iconst 0, 1), (81, .istore_n 2, 1), (82, .goto (-75), 3), (85, .aload_n 0, 1), (86, .iload_n 1, 1), (87, .putfield 491, 3), (90, .aload_n 0, 1), (91, .iload_n 1, 1), (92, .iconst 1, 1)]
set_option maxRecDepth 20000 in
theorem dn_327_0_1_ok : dn_327_0_1.all (fun q => decide (decode (xm_b n_327) q.1 = .ok (q.2.1, q.2.2))) = true := xa_g_ok (by decide +kernel)
def dn_327_0_2 : List (Nat × Instr × Nat) := [(93, .iadd, 1), (94, .putfield 485, 3), (97, .aload_n 0, 1), (98, .iconst 0, 1), (99, .putfield 494, 3), (102, .aload_n 0, 1), (103, .iload_n 1, 1), (104, .invokevirtual 488, 3), (107, .istore_n 3, 1), (108, .iload_n 1, 1), (109, .aload_n 0, 1), (110, .getfield 317, 3), (113, .if_icmp .ne 16, 3), (116, .aload_n 0, 1), (117, .iconst 0, 1), (118, .putfield 497, 3), (121, .aload_n 0, 1), (122, .iload_n 1, 1), (123, .putfield 485, 3), (126, .goto 36, 3), (129, .iload_n 3, 1), (130, .invokestatic 500, 3), (133, .ifCond .eq 10, 3), (136, .aload_n 0, 1), (137, .invokevirtual 503, 3)]
set_option maxRecDepth 20000 in
theorem dn_327_0_2_ok : dn_327_0_2.all (fun q => decide (decode (xm_b n_327) q.1 = .ok (q.2.1, q.2.2))) = true := xa_g_ok (by decide +kernel)
def dn_327_0_3 : List (Nat × Instr × Nat) := [(140, .goto 22, 3), (143, .iload_n 3, 1), (144, .invokestatic 506, 3), (147, .ifCond .eq 10, 3), (150, .aload_n 0, 1), (151, .invokevirtual 509, 3), (154, .goto 8, 3), (157, .aload_n 0, 1), (158, .iload_n 3, 1), (159, .invokevirtual 512, 3), (162, .return_, 1)]
set_option maxRecDepth 20000 in
theorem dn_327_0_3_ok : dn_327_0_3.all (fun q => decide (decode (xm_b n_327) q.1 = .ok (q.2.1, q.2.2))) = true := xa_g_ok (by decide +kernel)
def te_327_0 : Nat → eE := (e_T 13 (e_T 6 (e_T 1 (e_T 0 (e_L 0 (0, ei_load 0 2 1, 0, 0)) (e_L 1 (0, ei_getf eft elay 12 87 4, 0, 0))) (e_T 4 (e_L 4 (0, ei_stor 1 0 5, 0, 0)) (e_T 5 (e_L 5 (0, ei_push (0, 1) 6, 0, 0)) (e_L 6 (0, ei_stor 2 0 7, 0, 0))))) (e_T 8 (e_T 7 (e_L 7 (0, ei_load 2 0 8, 0, 0)) (e_L 8 (0, ei_if1 0 85 11, 0, 0))) (e_T 11 (e_L 11 (0, ei_load 1 0 12, 0, 0)) (e_T 12 (e_L 12 (0, ei_load 0 2 13, 0, 0)) (e_L 13 (0, ei_getf eft elay 12 9 16, 0, 0)))))) (e_T 24 (e_T 19 (e_T 16 (e_L 16 (0, ei_if2 3 45 19, 0, 0)) (e_L 19 (0, ei_load 0 2 20, 0, 0))) (e_T 20 (e_L 20 (0, ei_getf eft elay 12 8 23, 0, 0)) (e_T 23 (e_L 23 (0, ei_load 1 0 24, 0, 0)) (e_L 24 (0, ei_ald elay true 25, 0, 0))))) (e_T 29 (e_T 25 (e_L 25 (0, ei_if1 2 45 28, 0, 0)) (e_T 28 (e_L 28 (0, ei_load 0 2 29, 0, 0)) (e_L 29 (0, ei_getf eft elay 12 8 32, 0, 0)))) (e_T 32 (e_L 32 (0, ei_load 1 0 33, 0, 0)) (e_T 33 (e_L 33 (0, ei_ald elay true 34, 0, 0)) (e_L 34 (0, ei_push (0, 32) 36, 0, 0)))))))
set_option maxRecDepth 20000 in
set_option maxHeartbeats 4000000 in
theorem te_327_0_ok : ∀ pc, e_EOq eft cls elay eI n_327 pc (te_327_0 pc) :=
  (e_Tok2
  (e_Tok2
  (e_Tok2
  (e_Tok2
  (e_Lok (ld_aload_n_0 (x_dk dn_327_0_0_ok 0 rfl)))
  (e_Lok (lk_12_485g ho_327 (x_dk dn_327_0_0_ok 1 rfl))))
  (e_Tok2
  (e_Lok (e_st (I := eI) (er_istore_n (i := 1) (x_dk dn_327_0_0_ok 2 rfl) (by decide +kernel)) nx_stor))
  (e_Tok2
  (e_Lok (ps_iconst_1 (x_dk dn_327_0_0_ok 3 rfl)))
  (e_Lok (e_st (I := eI) (er_istore_n (i := 2) (x_dk dn_327_0_0_ok 4 rfl) (by decide +kernel)) nx_stor)))))
  (e_Tok2
  (e_Tok2
  (e_Lok (ld_iload_n_2 (x_dk dn_327_0_0_ok 5 rfl)))
  (e_Lok (e_st (I := eI) (er_ifeq (off := 77) (tg := 85) (x_dk dn_327_0_0_ok 6 rfl) (by decide)) nx_if1)))
  (e_Tok2
  (e_Lok (ld_iload_n_1 (x_dk dn_327_0_0_ok 7 rfl)))
  (e_Tok2
  (e_Lok (ld_aload_n_0 (x_dk dn_327_0_0_ok 8 rfl)))
  (e_Lok (lk_12_317g ho_327 (x_dk dn_327_0_0_ok 9 rfl)))))))
  (e_Tok2
  (e_Tok2
  (e_Tok2
  (e_Lok (e_st (I := eI) (er_icmpge (off := 29) (tg := 45) (x_dk dn_327_0_0_ok 10 rfl) (by decide)) nx_if2))
  (e_Lok (ld_aload_n_0 (x_dk dn_327_0_0_ok 11 rfl))))
  (e_Tok2
  (e_Lok (lk_12_27g ho_327 (x_dk dn_327_0_0_ok 12 rfl)))
  (e_Tok2
  (e_Lok (ld_iload_n_1 (x_dk dn_327_0_0_ok 13 rfl)))
  (e_Lok (e_st (I := eI) (er_baload (x_dk dn_327_0_0_ok 14 rfl)) nx_ald)))))
  (e_Tok2
  (e_Tok2
  (e_Lok (e_st (I := eI) (er_iflt (off := 20) (tg := 45) (x_dk dn_327_0_0_ok 15 rfl) (by decide)) nx_if1))
  (e_Tok2
  (e_Lok (ld_aload_n_0 (x_dk dn_327_0_0_ok 16 rfl)))
  (e_Lok (lk_12_27g ho_327 (x_dk dn_327_0_0_ok 17 rfl)))))
  (e_Tok2
  (e_Lok (ld_iload_n_1 (x_dk dn_327_0_0_ok 18 rfl)))
  (e_Tok2
  (e_Lok (e_st (I := eI) (er_baload (x_dk dn_327_0_0_ok 19 rfl)) nx_ald))
  (e_Lok (ps_bipush_32 (x_dk dn_327_0_0_ok 20 rfl))))))))
def te_327_21 : Nat → eE := (e_T 57 (e_T 46 (e_T 39 (e_T 36 (e_L 36 (0, ei_if2 4 45 39, 0, 0)) (e_L 39 (0, ei_inc 1 1 42, 0, 0))) (e_T 42 (e_L 42 (0, ei_goto 7, 0, 0)) (e_T 45 (e_L 45 (0, ei_load 0 2 46, 0, 0)) (e_L 46 (0, ei_load 1 0 47, 0, 0))))) (e_T 52 (e_T 47 (e_L 47 (2, e_nof, 326, 2)) (e_T 50 (e_L 50 (0, ei_push (0, 35) 52, 0, 0)) (e_L 52 (0, ei_if2 1 80 55, 0, 0)))) (e_T 55 (e_L 55 (0, ei_load 1 0 56, 0, 0)) (e_T 56 (e_L 56 (0, ei_load 0 2 57, 0, 0)) (e_L 57 (0, ei_getf eft elay 12 9 60, 0, 0)))))) (e_T 68 (e_T 63 (e_T 60 (e_L 60 (0, ei_if2 3 7 63, 0, 0)) (e_L 63 (0, ei_load 0 2 64, 0, 0))) (e_T 64 (e_L 64 (0, ei_getf eft elay 12 8 67, 0, 0)) (e_T 67 (e_L 67 (0, ei_load 1 0 68, 0, 0)) (e_L 68 (0, ei_ald elay true 69, 0, 0))))) (e_T 74 (e_T 69 (e_L 69 (0, ei_push (0, 10) 71, 0, 0)) (e_T 71 (e_L 71 (0, ei_if2 0 7 74, 0, 0)) (e_L 74 (0, ei_inc 1 1 77, 0, 0)))) (e_T 77 (e_L 77 (0, ei_goto 55, 0, 0)) (e_T 80 (e_L 80 (0, ei_push (0, 0) 81, 0, 0)) (e_L 81 (0, ei_stor 2 0 82, 0, 0)))))))
set_option maxRecDepth 20000 in
set_option maxHeartbeats 4000000 in
theorem te_327_21_ok : ∀ pc, e_EOq eft cls elay eI n_327 pc (te_327_21 pc) :=
  (e_Tok2
  (e_Tok2
  (e_Tok2
  (e_Tok2
  (e_Lok (e_st (I := eI) (er_icmpgt (off := 9) (tg := 45) (x_dk dn_327_0_0_ok 21 rfl) (by decide)) nx_if2))
  (e_Lok (e_st (I := eI) (er_iinc (i := 1) (n := 1) (x_dk dn_327_0_0_ok 22 rfl) (by decide +kernel) (by decide)) nx_inc)))
  (e_Tok2
  (e_Lok (e_st (I := eI) (er_goto (off := (-35)) (tg := 7) (x_dk dn_327_0_0_ok 23 rfl) (by decide)) nx_goto))
  (e_Tok2
  (e_Lok (ld_aload_n_0 (x_dk dn_327_0_0_ok 24 rfl)))
  (e_Lok (ld_iload_n_1 (x_dk dn_327_0_1_ok 0 rfl))))))
  (e_Tok2
  (e_Tok2
  (e_Lok (lk_12_488 ho_327 (x_dk dn_327_0_1_ok 1 rfl)))
  (e_Tok2
  (e_Lok (ps_bipush_35 (x_dk dn_327_0_1_ok 2 rfl)))
  (e_Lok (e_st (I := eI) (er_icmpne (off := 28) (tg := 80) (x_dk dn_327_0_1_ok 3 rfl) (by decide)) nx_if2))))
  (e_Tok2
  (e_Lok (ld_iload_n_1 (x_dk dn_327_0_1_ok 4 rfl)))
  (e_Tok2
  (e_Lok (ld_aload_n_0 (x_dk dn_327_0_1_ok 5 rfl)))
  (e_Lok (lk_12_317g ho_327 (x_dk dn_327_0_1_ok 6 rfl)))))))
  (e_Tok2
  (e_Tok2
  (e_Tok2
  (e_Lok (e_st (I := eI) (er_icmpge (off := (-53)) (tg := 7) (x_dk dn_327_0_1_ok 7 rfl) (by decide)) nx_if2))
  (e_Lok (ld_aload_n_0 (x_dk dn_327_0_1_ok 8 rfl))))
  (e_Tok2
  (e_Lok (lk_12_27g ho_327 (x_dk dn_327_0_1_ok 9 rfl)))
  (e_Tok2
  (e_Lok (ld_iload_n_1 (x_dk dn_327_0_1_ok 10 rfl)))
  (e_Lok (e_st (I := eI) (er_baload (x_dk dn_327_0_1_ok 11 rfl)) nx_ald)))))
  (e_Tok2
  (e_Tok2
  (e_Lok (ps_bipush_10 (x_dk dn_327_0_1_ok 12 rfl)))
  (e_Tok2
  (e_Lok (e_st (I := eI) (er_icmpeq (off := (-64)) (tg := 7) (x_dk dn_327_0_1_ok 13 rfl) (by decide)) nx_if2))
  (e_Lok (e_st (I := eI) (er_iinc (i := 1) (n := 1) (x_dk dn_327_0_1_ok 14 rfl) (by decide +kernel) (by decide)) nx_inc))))
  (e_Tok2
  (e_Lok (e_st (I := eI) (er_goto (off := (-22)) (tg := 55) (x_dk dn_327_0_1_ok 15 rfl) (by decide)) nx_goto))
  (e_Tok2
  (e_Lok (ps_iconst_0 (x_dk dn_327_0_1_ok 16 rfl)))
  (e_Lok (e_st (I := eI) (er_istore_n (i := 2) (x_dk dn_327_0_1_ok 17 rfl) (by decide +kernel)) nx_stor)))))))
def te_327_43 : Nat → eE := (e_T 97 (e_T 90 (e_T 85 (e_T 82 (e_L 82 (0, ei_goto 7, 0, 0)) (e_L 85 (0, ei_load 0 2 86, 0, 0))) (e_T 86 (e_L 86 (0, ei_load 1 0 87, 0, 0)) (e_T 87 (e_L 87 (0, ei_putf eft elay 12 86 0 90, 0, 0)) (e_L 90 (0, ei_load 0 2 91, 0, 0))))) (e_T 92 (e_T 91 (e_L 91 (0, ei_load 1 0 92, 0, 0)) (e_L 92 (0, ei_push (0, 1) 93, 0, 0))) (e_T 93 (e_L 93 (0, ei_bin eF_add 94, 0, 0)) (e_T 94 (e_L 94 (0, ei_putf eft elay 12 87 0 97, 0, 0)) (e_L 97 (0, ei_load 0 2 98, 0, 0)))))) (e_T 104 (e_T 99 (e_T 98 (e_L 98 (0, ei_push (0, 0) 99, 0, 0)) (e_L 99 (0, ei_putf eft elay 12 85 0 102, 0, 0))) (e_T 102 (e_L 102 (0, ei_load 0 2 103, 0, 0)) (e_T 103 (e_L 103 (0, ei_load 1 0 104, 0, 0)) (e_L 104 (2, e_nof, 326, 2))))) (e_T 109 (e_T 107 (e_L 107 (0, ei_stor 3 0 108, 0, 0)) (e_T 108 (e_L 108 (0, ei_load 1 0 109, 0, 0)) (e_L 109 (0, ei_load 0 2 110, 0, 0)))) (e_T 110 (e_L 110 (0, ei_getf eft elay 12 9 113, 0, 0)) (e_T 113 (e_L 113 (0, ei_if2 1 129 116, 0, 0)) (e_L 116 (0, ei_load 0 2 117, 0, 0)))))))
set_option maxRecDepth 20000 in
set_option maxHeartbeats 4000000 in
theorem te_327_43_ok : ∀ pc, e_EOq eft cls elay eI n_327 pc (te_327_43 pc) :=
  (e_Tok2
  (e_Tok2
  (e_Tok2
  (e_Tok2
  (e_Lok (e_st (I := eI) (er_goto (off := (-75)) (tg := 7) (x_dk dn_327_0_1_ok 18 rfl) (by decide)) nx_goto))
  (e_Lok (ld_aload_n_0 (x_dk dn_327_0_1_ok 19 rfl))))
  (e_Tok2
  (e_Lok (ld_iload_n_1 (x_dk dn_327_0_1_ok 20 rfl)))
  (e_Tok2
  (e_Lok (lk_12_491p ho_327 (x_dk dn_327_0_1_ok 21 rfl)))
  (e_Lok (ld_aload_n_0 (x_dk dn_327_0_1_ok 22 rfl))))))
  (e_Tok2
  (e_Tok2
  (e_Lok (ld_iload_n_1 (x_dk dn_327_0_1_ok 23 rfl)))
  (e_Lok (ps_iconst_1 (x_dk dn_327_0_1_ok 24 rfl))))
  (e_Tok2
  (e_Lok (sm_iadd (x_dk dn_327_0_2_ok 0 rfl)))
  (e_Tok2
  (e_Lok (lk_12_485p ho_327 (x_dk dn_327_0_2_ok 1 rfl)))
  (e_Lok (ld_aload_n_0 (x_dk dn_327_0_2_ok 2 rfl)))))))
  (e_Tok2
  (e_Tok2
  (e_Tok2
  (e_Lok (ps_iconst_0 (x_dk dn_327_0_2_ok 3 rfl)))
  (e_Lok (lk_12_494p ho_327 (x_dk dn_327_0_2_ok 4 rfl))))
  (e_Tok2
  (e_Lok (ld_aload_n_0 (x_dk dn_327_0_2_ok 5 rfl)))
  (e_Tok2
  (e_Lok (ld_iload_n_1 (x_dk dn_327_0_2_ok 6 rfl)))
  (e_Lok (lk_12_488 ho_327 (x_dk dn_327_0_2_ok 7 rfl))))))
  (e_Tok2
  (e_Tok2
  (e_Lok (e_st (I := eI) (er_istore_n (i := 3) (x_dk dn_327_0_2_ok 8 rfl) (by decide +kernel)) nx_stor))
  (e_Tok2
  (e_Lok (ld_iload_n_1 (x_dk dn_327_0_2_ok 9 rfl)))
  (e_Lok (ld_aload_n_0 (x_dk dn_327_0_2_ok 10 rfl)))))
  (e_Tok2
  (e_Lok (lk_12_317g ho_327 (x_dk dn_327_0_2_ok 11 rfl)))
  (e_Tok2
  (e_Lok (e_st (I := eI) (er_icmpne (off := 16) (tg := 129) (x_dk dn_327_0_2_ok 12 rfl) (by decide)) nx_if2))
  (e_Lok (ld_aload_n_0 (x_dk dn_327_0_2_ok 13 rfl))))))))
def te_327_64 : Nat → eE := (e_T 137 (e_T 123 (e_T 118 (e_T 117 (e_L 117 (0, ei_push (0, 0) 118, 0, 0)) (e_L 118 (0, ei_putf eft elay 12 84 0 121, 0, 0))) (e_T 121 (e_L 121 (0, ei_load 0 2 122, 0, 0)) (e_T 122 (e_L 122 (0, ei_load 1 0 123, 0, 0)) (e_L 123 (0, ei_putf eft elay 12 87 0 126, 0, 0))))) (e_T 130 (e_T 126 (e_L 126 (0, ei_goto 162, 0, 0)) (e_T 129 (e_L 129 (0, ei_load 3 0 130, 0, 0)) (e_L 130 (2, e_nof, 324, 1)))) (e_T 133 (e_L 133 (0, ei_if1 0 143 136, 0, 0)) (e_T 136 (e_L 136 (0, ei_load 0 2 137, 0, 0)) (e_L 137 (2, e_nof, 328, 1)))))) (e_T 150 (e_T 143 (e_T 140 (e_L 140 (0, ei_goto 162, 0, 0)) (e_L 143 (0, ei_load 3 0 144, 0, 0))) (e_T 144 (e_L 144 (2, e_nof, 325, 1)) (e_T 147 (e_L 147 (0, ei_if1 0 157 150, 0, 0)) (e_L 150 (0, ei_load 0 2 151, 0, 0))))) (e_T 157 (e_T 151 (e_L 151 (2, e_nof, 329, 1)) (e_T 154 (e_L 154 (0, ei_goto 162, 0, 0)) (e_L 157 (0, ei_load 0 2 158, 0, 0)))) (e_T 158 (e_L 158 (0, ei_load 3 0 159, 0, 0)) (e_T 159 (e_L 159 (2, e_nof, 330, 2)) (e_L 162 (1, e_nof, 0, 0)))))))
set_option maxRecDepth 20000 in
set_option maxHeartbeats 4000000 in
theorem te_327_64_ok : ∀ pc, e_EOq eft cls elay eI n_327 pc (te_327_64 pc) :=
  (e_Tok2
  (e_Tok2
  (e_Tok2
  (e_Tok2
  (e_Lok (ps_iconst_0 (x_dk dn_327_0_2_ok 14 rfl)))
  (e_Lok (lk_12_497p ho_327 (x_dk dn_327_0_2_ok 15 rfl))))
  (e_Tok2
  (e_Lok (ld_aload_n_0 (x_dk dn_327_0_2_ok 16 rfl)))
  (e_Tok2
  (e_Lok (ld_iload_n_1 (x_dk dn_327_0_2_ok 17 rfl)))
  (e_Lok (lk_12_485p ho_327 (x_dk dn_327_0_2_ok 18 rfl))))))
  (e_Tok2
  (e_Tok2
  (e_Lok (e_st (I := eI) (er_goto (off := 36) (tg := 162) (x_dk dn_327_0_2_ok 19 rfl) (by decide)) nx_goto))
  (e_Tok2
  (e_Lok (ld_iload_n_3 (x_dk dn_327_0_2_ok 20 rfl)))
  (e_Lok (lk_12_500 ho_327 (x_dk dn_327_0_2_ok 21 rfl)))))
  (e_Tok2
  (e_Lok (e_st (I := eI) (er_ifeq (off := 10) (tg := 143) (x_dk dn_327_0_2_ok 22 rfl) (by decide)) nx_if1))
  (e_Tok2
  (e_Lok (ld_aload_n_0 (x_dk dn_327_0_2_ok 23 rfl)))
  (e_Lok (lk_12_503 ho_327 (x_dk dn_327_0_2_ok 24 rfl)))))))
  (e_Tok2
  (e_Tok2
  (e_Tok2
  (e_Lok (e_st (I := eI) (er_goto (off := 22) (tg := 162) (x_dk dn_327_0_3_ok 0 rfl) (by decide)) nx_goto))
  (e_Lok (ld_iload_n_3 (x_dk dn_327_0_3_ok 1 rfl))))
  (e_Tok2
  (e_Lok (lk_12_506 ho_327 (x_dk dn_327_0_3_ok 2 rfl)))
  (e_Tok2
  (e_Lok (e_st (I := eI) (er_ifeq (off := 10) (tg := 157) (x_dk dn_327_0_3_ok 3 rfl) (by decide)) nx_if1))
  (e_Lok (ld_aload_n_0 (x_dk dn_327_0_3_ok 4 rfl))))))
  (e_Tok2
  (e_Tok2
  (e_Lok (lk_12_509 ho_327 (x_dk dn_327_0_3_ok 5 rfl)))
  (e_Tok2
  (e_Lok (e_st (I := eI) (er_goto (off := 8) (tg := 162) (x_dk dn_327_0_3_ok 6 rfl) (by decide)) nx_goto))
  (e_Lok (ld_aload_n_0 (x_dk dn_327_0_3_ok 7 rfl)))))
  (e_Tok2
  (e_Lok (ld_iload_n_3 (x_dk dn_327_0_3_ok 8 rfl)))
  (e_Tok2
  (e_Lok (lk_12_512 ho_327 (x_dk dn_327_0_3_ok 9 rfl)))
  (e_Lok (e_rt (I := eI) (k := 0) ⟨(x_dk dn_327_0_3_ok 10 rfl), rfl⟩)))))))
def te_327 : Nat → eE := (e_T 81 (e_T 34 te_327_0 te_327_21) (e_T 116 te_327_43 te_327_64))
theorem te_327_ok : ∀ pc, e_EOq eft cls elay eI n_327 pc (te_327 pc) := (e_Tok2 ((e_Tok2 (te_327_0_ok) (te_327_21_ok))) ((e_Tok2 (te_327_43_ok) (te_327_64_ok))))
theorem ho_329 : (xm_y n_329).cls = "RobotCellHouseModel" := rfl
def dn_329_0_0 : List (Nat × Instr × Nat) := [(0, .lconst 0, 1), (1, .lstore_n 1, 1), (2, .aload_n 0, 1), (3, .getfield 491, 3), (6, .istore_n 3, 1), (7, .aload_n 0, 1), (8, .iload_n 3, 1), (9, .invokevirtual 488, 3), (12, .invokestatic 506, 3), (15, .ifCond .eq 38, 3), (18, .lload_n 1, 1), (19, .ldc2_w 526, 3), (22, .lcmp, 1), (23, .ifCond .le 7, 3), (26, .lload_n 1, 1), (27, .goto 19, 3), (30, .ldc2_w 528, 3), (33, .lload_n 1, 1), (34, .lmul, 1), (35, .aload_n 0, 1), (36, .iload_n 3, 1), (37, .invokevirtual 488, 3), (40, .i2l, 1), (41, .ladd, 1), (42, .ldc2_w 481, 3)]
set_option maxRecDepth 20000 in
theorem dn_329_0_0_ok : dn_329_0_0.all (fun q => decide (decode (xm_b n_329) q.1 = .ok (q.2.1, q.2.2))) = true := xa_g_ok (by decide +kernel)
def dn_329_0_1 : List (Nat × Instr × Nat) := [(45, .lsub, 1), (46, .lstore_n 1, 1), (47, .iinc 3 1, 3), (50, .goto (-43), 3), (53, .aload_n 0, 1), (54, .iload_n 3, 1), (55, .putfield 485, 3), (58, .aload_n 0, 1), (59, .lload_n 1, 1), (60, .ldc2_w 526, 3), (63, .lcmp, 1), (64, .ifCond .le 7, 3), (67, .iconst 5, 1), (68, .goto 4, 3), (71, .iconst 2, 1), (72, .putfield 497, 3), (75, .aload_n 0, 1), (76, .lload_n 1, 1), (77, .l2i, 1), (78, .putfield 494, 3), (81, .return_, 1)]
set_option maxRecDepth 20000 in
theorem dn_329_0_1_ok : dn_329_0_1.all (fun q => decide (decode (xm_b n_329) q.1 = .ok (q.2.1, q.2.2))) = true := xa_g_ok (by decide +kernel)
def te_329_0 : Nat → eE := (e_T 18 (e_T 6 (e_T 1 (e_T 0 (e_L 0 (0, ei_push (4, 0) 1, 0, 0)) (e_L 1 (0, ei_stor 1 1 2, 0, 0))) (e_T 2 (e_L 2 (0, ei_load 0 2 3, 0, 0)) (e_T 3 (e_L 3 (0, ei_getf eft elay 12 86 6, 0, 0)) (e_L 6 (0, ei_stor 3 0 7, 0, 0))))) (e_T 9 (e_T 7 (e_L 7 (0, ei_load 0 2 8, 0, 0)) (e_T 8 (e_L 8 (0, ei_load 3 0 9, 0, 0)) (e_L 9 (2, e_nof, 326, 2)))) (e_T 12 (e_L 12 (2, e_nof, 325, 1)) (e_T 15 (e_L 15 (0, ei_if1 0 53 18, 0, 0)) (e_L 18 (0, ei_load 1 1 19, 0, 0)))))) (e_T 30 (e_T 23 (e_T 19 (e_L 19 (0, ei_push (4, 2147483647) 22, 0, 0)) (e_T 22 (e_L 22 (0, ei_binL eG_cmp 23, 0, 0)) (e_L 23 (0, ei_if1 5 30 26, 0, 0)))) (e_T 26 (e_L 26 (0, ei_load 1 1 27, 0, 0)) (e_T 27 (e_L 27 (0, ei_goto 46, 0, 0)) (e_L 30 (0, ei_push (4, 10) 33, 0, 0))))) (e_T 35 (e_T 33 (e_L 33 (0, ei_load 1 1 34, 0, 0)) (e_T 34 (e_L 34 (0, ei_binL eG_mul 35, 0, 0)) (e_L 35 (0, ei_load 0 2 36, 0, 0)))) (e_T 36 (e_L 36 (0, ei_load 3 0 37, 0, 0)) (e_T 37 (e_L 37 (2, e_nof, 326, 2)) (e_L 40 (0, ei_un (fun x => (4, x)) 41, 0, 0)))))))
set_option maxRecDepth 20000 in
set_option maxHeartbeats 4000000 in
theorem te_329_0_ok : ∀ pc, e_EOq eft cls elay eI n_329 pc (te_329_0 pc) :=
  (e_Tok2
  (e_Tok2
  (e_Tok2
  (e_Tok2
  (e_Lok (ps_lconst_0 (x_dk dn_329_0_0_ok 0 rfl)))
  (e_Lok (e_st (I := eI) (er_lstore_n (i := 1) (x_dk dn_329_0_0_ok 1 rfl) (by decide +kernel)) nx_stor)))
  (e_Tok2
  (e_Lok (ld_aload_n_0 (x_dk dn_329_0_0_ok 2 rfl)))
  (e_Tok2
  (e_Lok (lk_12_491g ho_329 (x_dk dn_329_0_0_ok 3 rfl)))
  (e_Lok (e_st (I := eI) (er_istore_n (i := 3) (x_dk dn_329_0_0_ok 4 rfl) (by decide +kernel)) nx_stor)))))
  (e_Tok2
  (e_Tok2
  (e_Lok (ld_aload_n_0 (x_dk dn_329_0_0_ok 5 rfl)))
  (e_Tok2
  (e_Lok (ld_iload_n_3 (x_dk dn_329_0_0_ok 6 rfl)))
  (e_Lok (lk_12_488 ho_329 (x_dk dn_329_0_0_ok 7 rfl)))))
  (e_Tok2
  (e_Lok (lk_12_506 ho_329 (x_dk dn_329_0_0_ok 8 rfl)))
  (e_Tok2
  (e_Lok (e_st (I := eI) (er_ifeq (off := 38) (tg := 53) (x_dk dn_329_0_0_ok 9 rfl) (by decide)) nx_if1))
  (e_Lok (ld_lload_n_1 (x_dk dn_329_0_0_ok 10 rfl)))))))
  (e_Tok2
  (e_Tok2
  (e_Tok2
  (e_Lok (e_st (I := eI) (er_ldc2 (ix := 526) (z := 2147483647) (v := 2147483647) (x_dk dn_329_0_0_ok 11 rfl) (in_t11 (List.mem_of_getElem? (i := 237) rfl) rfl) (by decide)) (nx_push (Or.inl rfl))))
  (e_Tok2
  (e_Lok (e_st (I := eI) (er_lcmp (x_dk dn_329_0_0_ok 12 rfl)) (nx_binL bG_lcmp)))
  (e_Lok (e_st (I := eI) (er_ifle (off := 7) (tg := 30) (x_dk dn_329_0_0_ok 13 rfl) (by decide)) nx_if1))))
  (e_Tok2
  (e_Lok (ld_lload_n_1 (x_dk dn_329_0_0_ok 14 rfl)))
  (e_Tok2
  (e_Lok (e_st (I := eI) (er_goto (off := 19) (tg := 46) (x_dk dn_329_0_0_ok 15 rfl) (by decide)) nx_goto))
  (e_Lok (e_st (I := eI) (er_ldc2 (ix := 528) (z := 10) (v := 10) (x_dk dn_329_0_0_ok 16 rfl) (in_t11 (List.mem_of_getElem? (i := 238) rfl) rfl) (by decide)) (nx_push (Or.inl rfl)))))))
  (e_Tok2
  (e_Tok2
  (e_Lok (ld_lload_n_1 (x_dk dn_329_0_0_ok 17 rfl)))
  (e_Tok2
  (e_Lok (e_st (I := eI) (er_lmul (x_dk dn_329_0_0_ok 18 rfl)) (nx_binL bG_lmul)))
  (e_Lok (ld_aload_n_0 (x_dk dn_329_0_0_ok 19 rfl)))))
  (e_Tok2
  (e_Lok (ld_iload_n_3 (x_dk dn_329_0_0_ok 20 rfl)))
  (e_Tok2
  (e_Lok (lk_12_488 ho_329 (x_dk dn_329_0_0_ok 21 rfl)))
  (e_Lok (e_st (I := eI) (er_i2l (x_dk dn_329_0_0_ok 22 rfl)) (nx_un (fun _ => rfl)))))))))
def te_329_23 : Nat → eE := (e_T 59 (e_T 47 (e_T 42 (e_T 41 (e_L 41 (0, ei_binL eG_add 42, 0, 0)) (e_L 42 (0, ei_push (4, 48) 45, 0, 0))) (e_T 45 (e_L 45 (0, ei_binL eG_sub 46, 0, 0)) (e_T 46 (e_L 46 (0, ei_stor 1 1 47, 0, 0)) (e_L 47 (0, ei_inc 3 1 50, 0, 0))))) (e_T 54 (e_T 50 (e_L 50 (0, ei_goto 7, 0, 0)) (e_T 53 (e_L 53 (0, ei_load 0 2 54, 0, 0)) (e_L 54 (0, ei_load 3 0 55, 0, 0)))) (e_T 55 (e_L 55 (0, ei_putf eft elay 12 87 0 58, 0, 0)) (e_T 58 (e_L 58 (0, ei_load 0 2 59, 0, 0)) (e_L 59 (0, ei_load 1 1 60, 0, 0)))))) (e_T 71 (e_T 64 (e_T 60 (e_L 60 (0, ei_push (4, 2147483647) 63, 0, 0)) (e_T 63 (e_L 63 (0, ei_binL eG_cmp 64, 0, 0)) (e_L 64 (0, ei_if1 5 71 67, 0, 0)))) (e_T 67 (e_L 67 (0, ei_push (0, 5) 68, 0, 0)) (e_T 68 (e_L 68 (0, ei_goto 72, 0, 0)) (e_L 71 (0, ei_push (0, 2) 72, 0, 0))))) (e_T 76 (e_T 72 (e_L 72 (0, ei_putf eft elay 12 84 0 75, 0, 0)) (e_T 75 (e_L 75 (0, ei_load 0 2 76, 0, 0)) (e_L 76 (0, ei_load 1 1 77, 0, 0)))) (e_T 77 (e_L 77 (0, ei_unL (fun x => (0, e32 x)) 78, 0, 0)) (e_T 78 (e_L 78 (0, ei_putf eft elay 12 85 0 81, 0, 0)) (e_L 81 (1, e_nof, 0, 0)))))))
set_option maxRecDepth 20000 in
set_option maxHeartbeats 4000000 in
theorem te_329_23_ok : ∀ pc, e_EOq eft cls elay eI n_329 pc (te_329_23 pc) :=
  (e_Tok2
  (e_Tok2
  (e_Tok2
  (e_Tok2
  (e_Lok (e_st (I := eI) (er_ladd (x_dk dn_329_0_0_ok 23 rfl)) (nx_binL bG_ladd)))
  (e_Lok (e_st (I := eI) (er_ldc2 (ix := 481) (z := 48) (v := 48) (x_dk dn_329_0_0_ok 24 rfl) (in_t11 (List.mem_of_getElem? (i := 228) rfl) rfl) (by decide)) (nx_push (Or.inl rfl)))))
  (e_Tok2
  (e_Lok (e_st (I := eI) (er_lsub (x_dk dn_329_0_1_ok 0 rfl)) (nx_binL bG_lsub)))
  (e_Tok2
  (e_Lok (e_st (I := eI) (er_lstore_n (i := 1) (x_dk dn_329_0_1_ok 1 rfl) (by decide +kernel)) nx_stor))
  (e_Lok (e_st (I := eI) (er_iinc (i := 3) (n := 1) (x_dk dn_329_0_1_ok 2 rfl) (by decide +kernel) (by decide)) nx_inc)))))
  (e_Tok2
  (e_Tok2
  (e_Lok (e_st (I := eI) (er_goto (off := (-43)) (tg := 7) (x_dk dn_329_0_1_ok 3 rfl) (by decide)) nx_goto))
  (e_Tok2
  (e_Lok (ld_aload_n_0 (x_dk dn_329_0_1_ok 4 rfl)))
  (e_Lok (ld_iload_n_3 (x_dk dn_329_0_1_ok 5 rfl)))))
  (e_Tok2
  (e_Lok (lk_12_485p ho_329 (x_dk dn_329_0_1_ok 6 rfl)))
  (e_Tok2
  (e_Lok (ld_aload_n_0 (x_dk dn_329_0_1_ok 7 rfl)))
  (e_Lok (ld_lload_n_1 (x_dk dn_329_0_1_ok 8 rfl)))))))
  (e_Tok2
  (e_Tok2
  (e_Tok2
  (e_Lok (e_st (I := eI) (er_ldc2 (ix := 526) (z := 2147483647) (v := 2147483647) (x_dk dn_329_0_1_ok 9 rfl) (in_t11 (List.mem_of_getElem? (i := 237) rfl) rfl) (by decide)) (nx_push (Or.inl rfl))))
  (e_Tok2
  (e_Lok (e_st (I := eI) (er_lcmp (x_dk dn_329_0_1_ok 10 rfl)) (nx_binL bG_lcmp)))
  (e_Lok (e_st (I := eI) (er_ifle (off := 7) (tg := 71) (x_dk dn_329_0_1_ok 11 rfl) (by decide)) nx_if1))))
  (e_Tok2
  (e_Lok (ps_iconst_5 (x_dk dn_329_0_1_ok 12 rfl)))
  (e_Tok2
  (e_Lok (e_st (I := eI) (er_goto (off := 4) (tg := 72) (x_dk dn_329_0_1_ok 13 rfl) (by decide)) nx_goto))
  (e_Lok (ps_iconst_2 (x_dk dn_329_0_1_ok 14 rfl))))))
  (e_Tok2
  (e_Tok2
  (e_Lok (lk_12_497p ho_329 (x_dk dn_329_0_1_ok 15 rfl)))
  (e_Tok2
  (e_Lok (ld_aload_n_0 (x_dk dn_329_0_1_ok 16 rfl)))
  (e_Lok (ld_lload_n_1 (x_dk dn_329_0_1_ok 17 rfl)))))
  (e_Tok2
  (e_Lok (e_st (I := eI) (er_l2i (x_dk dn_329_0_1_ok 18 rfl)) (nx_unL (fun _ => rfl))))
  (e_Tok2
  (e_Lok (lk_12_494p ho_329 (x_dk dn_329_0_1_ok 19 rfl)))
  (e_Lok (e_rt (I := eI) (k := 0) ⟨(x_dk dn_329_0_1_ok 20 rfl), rfl⟩)))))))
def te_329 : Nat → eE := (e_T 40 te_329_0 te_329_23)
theorem te_329_ok : ∀ pc, e_EOq eft cls elay eI n_329 pc (te_329 pc) := (e_Tok2 (te_329_0_ok) (te_329_23_ok))
theorem ho_330 : (xm_y n_330).cls = "RobotCellHouseModel" := rfl
def dn_330_0_0 : List (Nat × Instr × Nat) := [(0, .aload_n 0, 1), (1, .iconst 3, 1), (2, .putfield 497, 3), (5, .aload_n 0, 1), (6, .iload_n 1, 1), (7, .putfield 494, 3), (10, .aload_n 0, 1), (11, .aload_n 0, 1), (12, .getfield 491, 3), (15, .iconst 1, 1), (16, .iadd, 1), (17, .invokevirtual 488, 3), (20, .bipush 61, 2), (22, .if_icmp .ne 7, 3), (25, .iconst 1, 1), (26, .goto 4, 3), (29, .iconst 0, 1), (30, .istore_n 2, 1), (31, .iload_n 1, 1), (32, .bipush 33, 2), (34, .if_icmp .eq 15, 3), (37, .iload_n 1, 1), (38, .bipush 60, 2), (40, .if_icmp .eq 9, 3), (43, .iload_n 1, 1)]
set_option maxRecDepth 20000 in
theorem dn_330_0_0_ok : dn_330_0_0.all (fun q => decide (decode (xm_b n_330) q.1 = .ok (q.2.1, q.2.2))) = true := xa_g_ok (by decide +kernel)
def dn_330_0_1 : List (Nat × Instr × Nat) := [(44, .bipush 62, 2), (46, .if_icmp .ne 48, 3), (49, .iload_n 2, 1), (50, .ifCond .eq 44, 3), (53, .aload_n 0, 1), (54, .dup, 1), (55, .getfield 485, 3), (58, .iconst 1, 1), (59, .iadd, 1), (60, .putfield 485, 3), (63, .aload_n 0, 1), (64, .iload_n 1, 1), (65, .bipush 33, 2), (67, .if_icmp .ne 8, 3), (70, .bipush 110, 2), (72, .goto 16, 3), (75, .iload_n 1, 1), (76, .bipush 60, 2), (78, .if_icmp .ne 8, 3), (81, .bipush 108, 2), (83, .goto 5, 3), (86, .bipush 103, 2), (88, .putfield 494, 3), (91, .goto 86, 3), (94, .iload_n 1, 1)]
set_option maxRecDepth 20000 in
theorem dn_330_0_1_ok : dn_330_0_1.all (fun q => decide (decode (xm_b n_330) q.1 = .ok (q.2.1, q.2.2))) = true := xa_g_ok (by decide +kernel)
def dn_330_0_2 : List (Nat × Instr × Nat) := [(95, .bipush 43, 2), (97, .if_icmp .eq 80, 3), (100, .iload_n 1, 1), (101, .bipush 45, 2), (103, .if_icmp .eq 74, 3), (106, .iload_n 1, 1), (107, .bipush 42, 2), (109, .if_icmp .eq 68, 3), (112, .iload_n 1, 1), (113, .bipush 47, 2), (115, .if_icmp .eq 62, 3), (118, .iload_n 1, 1), (119, .bipush 37, 2), (121, .if_icmp .eq 56, 3), (124, .iload_n 1, 1), (125, .bipush 61, 2), (127, .if_icmp .eq 50, 3), (130, .iload_n 1, 1), (131, .bipush 60, 2), (133, .if_icmp .eq 44, 3), (136, .iload_n 1, 1), (137, .bipush 62, 2), (139, .if_icmp .eq 38, 3), (142, .iload_n 1, 1), (143, .bipush 40, 2)]
set_option maxRecDepth 20000 in
theorem dn_330_0_2_ok : dn_330_0_2.all (fun q => decide (decode (xm_b n_330) q.1 = .ok (q.2.1, q.2.2))) = true := xa_g_ok (by decide +kernel)
def dn_330_0_3 : List (Nat × Instr × Nat) := [(145, .if_icmp .eq 32, 3), (148, .iload_n 1, 1), (149, .bipush 41, 2), (151, .if_icmp .eq 26, 3), (154, .iload_n 1, 1), (155, .bipush 44, 2), (157, .if_icmp .eq 20, 3), (160, .iload_n 1, 1), (161, .bipush 59, 2), (163, .if_icmp .eq 14, 3), (166, .iload_n 1, 1), (167, .bipush 58, 2), (169, .if_icmp .eq 8, 3), (172, .aload_n 0, 1), (173, .iconst 5, 1), (174, .putfield 497, 3), (177, .return_, 1)]
set_option maxRecDepth 20000 in
theorem dn_330_0_3_ok : dn_330_0_3.all (fun q => decide (decode (xm_b n_330) q.1 = .ok (q.2.1, q.2.2))) = true := xa_g_ok (by decide +kernel)
def te_330_0 : Nat → eE := (e_T 16 (e_T 6 (e_T 1 (e_T 0 (e_L 0 (0, ei_load 0 2 1, 0, 0)) (e_L 1 (0, ei_push (0, 3) 2, 0, 0))) (e_T 2 (e_L 2 (0, ei_putf eft elay 12 84 0 5, 0, 0)) (e_T 5 (e_L 5 (0, ei_load 0 2 6, 0, 0)) (e_L 6 (0, ei_load 1 0 7, 0, 0))))) (e_T 11 (e_T 7 (e_L 7 (0, ei_putf eft elay 12 85 0 10, 0, 0)) (e_T 10 (e_L 10 (0, ei_load 0 2 11, 0, 0)) (e_L 11 (0, ei_load 0 2 12, 0, 0)))) (e_T 12 (e_L 12 (0, ei_getf eft elay 12 86 15, 0, 0)) (e_T 15 (e_L 15 (0, ei_push (0, 1) 16, 0, 0)) (e_L 16 (0, ei_bin eF_add 17, 0, 0)))))) (e_T 29 (e_T 22 (e_T 17 (e_L 17 (2, e_nof, 326, 2)) (e_T 20 (e_L 20 (0, ei_push (0, 61) 22, 0, 0)) (e_L 22 (0, ei_if2 1 29 25, 0, 0)))) (e_T 25 (e_L 25 (0, ei_push (0, 1) 26, 0, 0)) (e_T 26 (e_L 26 (0, ei_goto 30, 0, 0)) (e_L 29 (0, ei_push (0, 0) 30, 0, 0))))) (e_T 32 (e_T 30 (e_L 30 (0, ei_stor 2 0 31, 0, 0)) (e_T 31 (e_L 31 (0, ei_load 1 0 32, 0, 0)) (e_L 32 (0, ei_push (0, 33) 34, 0, 0)))) (e_T 34 (e_L 34 (0, ei_if2 0 49 37, 0, 0)) (e_T 37 (e_L 37 (0, ei_load 1 0 38, 0, 0)) (e_L 38 (0, ei_push (0, 60) 40, 0, 0)))))))
set_option maxRecDepth 20000 in
set_option maxHeartbeats 4000000 in
theorem te_330_0_ok : ∀ pc, e_EOq eft cls elay eI n_330 pc (te_330_0 pc) :=
  (e_Tok2
  (e_Tok2
  (e_Tok2
  (e_Tok2
  (e_Lok (ld_aload_n_0 (x_dk dn_330_0_0_ok 0 rfl)))
  (e_Lok (ps_iconst_3 (x_dk dn_330_0_0_ok 1 rfl))))
  (e_Tok2
  (e_Lok (lk_12_497p ho_330 (x_dk dn_330_0_0_ok 2 rfl)))
  (e_Tok2
  (e_Lok (ld_aload_n_0 (x_dk dn_330_0_0_ok 3 rfl)))
  (e_Lok (ld_iload_n_1 (x_dk dn_330_0_0_ok 4 rfl))))))
  (e_Tok2
  (e_Tok2
  (e_Lok (lk_12_494p ho_330 (x_dk dn_330_0_0_ok 5 rfl)))
  (e_Tok2
  (e_Lok (ld_aload_n_0 (x_dk dn_330_0_0_ok 6 rfl)))
  (e_Lok (ld_aload_n_0 (x_dk dn_330_0_0_ok 7 rfl)))))
  (e_Tok2
  (e_Lok (lk_12_491g ho_330 (x_dk dn_330_0_0_ok 8 rfl)))
  (e_Tok2
  (e_Lok (ps_iconst_1 (x_dk dn_330_0_0_ok 9 rfl)))
  (e_Lok (sm_iadd (x_dk dn_330_0_0_ok 10 rfl)))))))
  (e_Tok2
  (e_Tok2
  (e_Tok2
  (e_Lok (lk_12_488 ho_330 (x_dk dn_330_0_0_ok 11 rfl)))
  (e_Tok2
  (e_Lok (ps_bipush_61 (x_dk dn_330_0_0_ok 12 rfl)))
  (e_Lok (e_st (I := eI) (er_icmpne (off := 7) (tg := 29) (x_dk dn_330_0_0_ok 13 rfl) (by decide)) nx_if2))))
  (e_Tok2
  (e_Lok (ps_iconst_1 (x_dk dn_330_0_0_ok 14 rfl)))
  (e_Tok2
  (e_Lok (e_st (I := eI) (er_goto (off := 4) (tg := 30) (x_dk dn_330_0_0_ok 15 rfl) (by decide)) nx_goto))
  (e_Lok (ps_iconst_0 (x_dk dn_330_0_0_ok 16 rfl))))))
  (e_Tok2
  (e_Tok2
  (e_Lok (e_st (I := eI) (er_istore_n (i := 2) (x_dk dn_330_0_0_ok 17 rfl) (by decide +kernel)) nx_stor))
  (e_Tok2
  (e_Lok (ld_iload_n_1 (x_dk dn_330_0_0_ok 18 rfl)))
  (e_Lok (ps_bipush_33 (x_dk dn_330_0_0_ok 19 rfl)))))
  (e_Tok2
  (e_Lok (e_st (I := eI) (er_icmpeq (off := 15) (tg := 49) (x_dk dn_330_0_0_ok 20 rfl) (by decide)) nx_if2))
  (e_Tok2
  (e_Lok (ld_iload_n_1 (x_dk dn_330_0_0_ok 21 rfl)))
  (e_Lok (ps_bipush_60 (x_dk dn_330_0_0_ok 22 rfl))))))))
def te_330_23 : Nat → eE := (e_T 59 (e_T 49 (e_T 43 (e_T 40 (e_L 40 (0, ei_if2 0 49 43, 0, 0)) (e_L 43 (0, ei_load 1 0 44, 0, 0))) (e_T 44 (e_L 44 (0, ei_push (0, 62) 46, 0, 0)) (e_T 46 (e_L 46 (0, ei_if2 1 94 49, 0, 0)) (e_L 49 (0, ei_load 2 0 50, 0, 0))))) (e_T 54 (e_T 50 (e_L 50 (0, ei_if1 0 94 53, 0, 0)) (e_T 53 (e_L 53 (0, ei_load 0 2 54, 0, 0)) (e_L 54 (0, ei_stk ef_dup 55, 0, 0)))) (e_T 55 (e_L 55 (0, ei_getf eft elay 12 87 58, 0, 0)) (e_T 58 (e_L 58 (0, ei_push (0, 1) 59, 0, 0)) (e_L 59 (0, ei_bin eF_add 60, 0, 0)))))) (e_T 70 (e_T 64 (e_T 60 (e_L 60 (0, ei_putf eft elay 12 87 0 63, 0, 0)) (e_T 63 (e_L 63 (0, ei_load 0 2 64, 0, 0)) (e_L 64 (0, ei_load 1 0 65, 0, 0)))) (e_T 65 (e_L 65 (0, ei_push (0, 33) 67, 0, 0)) (e_T 67 (e_L 67 (0, ei_if2 1 75 70, 0, 0)) (e_L 70 (0, ei_push (0, 110) 72, 0, 0))))) (e_T 76 (e_T 72 (e_L 72 (0, ei_goto 88, 0, 0)) (e_T 75 (e_L 75 (0, ei_load 1 0 76, 0, 0)) (e_L 76 (0, ei_push (0, 60) 78, 0, 0)))) (e_T 78 (e_L 78 (0, ei_if2 1 86 81, 0, 0)) (e_T 81 (e_L 81 (0, ei_push (0, 108) 83, 0, 0)) (e_L 83 (0, ei_goto 88, 0, 0)))))))
set_option maxRecDepth 20000 in
set_option maxHeartbeats 4000000 in
theorem te_330_23_ok : ∀ pc, e_EOq eft cls elay eI n_330 pc (te_330_23 pc) :=
  (e_Tok2
  (e_Tok2
  (e_Tok2
  (e_Tok2
  (e_Lok (e_st (I := eI) (er_icmpeq (off := 9) (tg := 49) (x_dk dn_330_0_0_ok 23 rfl) (by decide)) nx_if2))
  (e_Lok (ld_iload_n_1 (x_dk dn_330_0_0_ok 24 rfl))))
  (e_Tok2
  (e_Lok (ps_bipush_62 (x_dk dn_330_0_1_ok 0 rfl)))
  (e_Tok2
  (e_Lok (e_st (I := eI) (er_icmpne (off := 48) (tg := 94) (x_dk dn_330_0_1_ok 1 rfl) (by decide)) nx_if2))
  (e_Lok (ld_iload_n_2 (x_dk dn_330_0_1_ok 2 rfl))))))
  (e_Tok2
  (e_Tok2
  (e_Lok (e_st (I := eI) (er_ifeq (off := 44) (tg := 94) (x_dk dn_330_0_1_ok 3 rfl) (by decide)) nx_if1))
  (e_Tok2
  (e_Lok (ld_aload_n_0 (x_dk dn_330_0_1_ok 4 rfl)))
  (e_Lok (e_st (I := eI) (er_dup (x_dk dn_330_0_1_ok 5 rfl)) (nx_stk bf_dup)))))
  (e_Tok2
  (e_Lok (lk_12_485g ho_330 (x_dk dn_330_0_1_ok 6 rfl)))
  (e_Tok2
  (e_Lok (ps_iconst_1 (x_dk dn_330_0_1_ok 7 rfl)))
  (e_Lok (sm_iadd (x_dk dn_330_0_1_ok 8 rfl)))))))
  (e_Tok2
  (e_Tok2
  (e_Tok2
  (e_Lok (lk_12_485p ho_330 (x_dk dn_330_0_1_ok 9 rfl)))
  (e_Tok2
  (e_Lok (ld_aload_n_0 (x_dk dn_330_0_1_ok 10 rfl)))
  (e_Lok (ld_iload_n_1 (x_dk dn_330_0_1_ok 11 rfl)))))
  (e_Tok2
  (e_Lok (ps_bipush_33 (x_dk dn_330_0_1_ok 12 rfl)))
  (e_Tok2
  (e_Lok (e_st (I := eI) (er_icmpne (off := 8) (tg := 75) (x_dk dn_330_0_1_ok 13 rfl) (by decide)) nx_if2))
  (e_Lok (ps_bipush_110 (x_dk dn_330_0_1_ok 14 rfl))))))
  (e_Tok2
  (e_Tok2
  (e_Lok (e_st (I := eI) (er_goto (off := 16) (tg := 88) (x_dk dn_330_0_1_ok 15 rfl) (by decide)) nx_goto))
  (e_Tok2
  (e_Lok (ld_iload_n_1 (x_dk dn_330_0_1_ok 16 rfl)))
  (e_Lok (ps_bipush_60 (x_dk dn_330_0_1_ok 17 rfl)))))
  (e_Tok2
  (e_Lok (e_st (I := eI) (er_icmpne (off := 8) (tg := 86) (x_dk dn_330_0_1_ok 18 rfl) (by decide)) nx_if2))
  (e_Tok2
  (e_Lok (ps_bipush_108 (x_dk dn_330_0_1_ok 19 rfl)))
  (e_Lok (e_st (I := eI) (er_goto (off := 5) (tg := 88) (x_dk dn_330_0_1_ok 20 rfl) (by decide)) nx_goto)))))))
def te_330_46 : Nat → eE := (e_T 107 (e_T 95 (e_T 88 (e_T 86 (e_L 86 (0, ei_push (0, 103) 88, 0, 0)) (e_L 88 (0, ei_putf eft elay 12 85 0 91, 0, 0))) (e_T 91 (e_L 91 (0, ei_goto 177, 0, 0)) (e_T 94 (e_L 94 (0, ei_load 1 0 95, 0, 0)) (e_L 95 (0, ei_push (0, 43) 97, 0, 0))))) (e_T 101 (e_T 97 (e_L 97 (0, ei_if2 0 177 100, 0, 0)) (e_T 100 (e_L 100 (0, ei_load 1 0 101, 0, 0)) (e_L 101 (0, ei_push (0, 45) 103, 0, 0)))) (e_T 103 (e_L 103 (0, ei_if2 0 177 106, 0, 0)) (e_T 106 (e_L 106 (0, ei_load 1 0 107, 0, 0)) (e_L 107 (0, ei_push (0, 42) 109, 0, 0)))))) (e_T 119 (e_T 113 (e_T 109 (e_L 109 (0, ei_if2 0 177 112, 0, 0)) (e_T 112 (e_L 112 (0, ei_load 1 0 113, 0, 0)) (e_L 113 (0, ei_push (0, 47) 115, 0, 0)))) (e_T 115 (e_L 115 (0, ei_if2 0 177 118, 0, 0)) (e_T 118 (e_L 118 (0, ei_load 1 0 119, 0, 0)) (e_L 119 (0, ei_push (0, 37) 121, 0, 0))))) (e_T 125 (e_T 121 (e_L 121 (0, ei_if2 0 177 124, 0, 0)) (e_T 124 (e_L 124 (0, ei_load 1 0 125, 0, 0)) (e_L 125 (0, ei_push (0, 61) 127, 0, 0)))) (e_T 127 (e_L 127 (0, ei_if2 0 177 130, 0, 0)) (e_T 130 (e_L 130 (0, ei_load 1 0 131, 0, 0)) (e_L 131 (0, ei_push (0, 60) 133, 0, 0)))))))
set_option maxRecDepth 20000 in
set_option maxHeartbeats 4000000 in
theorem te_330_46_ok : ∀ pc, e_EOq eft cls elay eI n_330 pc (te_330_46 pc) :=
  (e_Tok2
  (e_Tok2
  (e_Tok2
  (e_Tok2
  (e_Lok (ps_bipush_103 (x_dk dn_330_0_1_ok 21 rfl)))
  (e_Lok (lk_12_494p ho_330 (x_dk dn_330_0_1_ok 22 rfl))))
  (e_Tok2
  (e_Lok (e_st (I := eI) (er_goto (off := 86) (tg := 177) (x_dk dn_330_0_1_ok 23 rfl) (by decide)) nx_goto))
  (e_Tok2
  (e_Lok (ld_iload_n_1 (x_dk dn_330_0_1_ok 24 rfl)))
  (e_Lok (ps_bipush_43 (x_dk dn_330_0_2_ok 0 rfl))))))
  (e_Tok2
  (e_Tok2
  (e_Lok (e_st (I := eI) (er_icmpeq (off := 80) (tg := 177) (x_dk dn_330_0_2_ok 1 rfl) (by decide)) nx_if2))
  (e_Tok2
  (e_Lok (ld_iload_n_1 (x_dk dn_330_0_2_ok 2 rfl)))
  (e_Lok (ps_bipush_45 (x_dk dn_330_0_2_ok 3 rfl)))))
  (e_Tok2
  (e_Lok (e_st (I := eI) (er_icmpeq (off := 74) (tg := 177) (x_dk dn_330_0_2_ok 4 rfl) (by decide)) nx_if2))
  (e_Tok2
  (e_Lok (ld_iload_n_1 (x_dk dn_330_0_2_ok 5 rfl)))
  (e_Lok (ps_bipush_42 (x_dk dn_330_0_2_ok 6 rfl)))))))
  (e_Tok2
  (e_Tok2
  (e_Tok2
  (e_Lok (e_st (I := eI) (er_icmpeq (off := 68) (tg := 177) (x_dk dn_330_0_2_ok 7 rfl) (by decide)) nx_if2))
  (e_Tok2
  (e_Lok (ld_iload_n_1 (x_dk dn_330_0_2_ok 8 rfl)))
  (e_Lok (ps_bipush_47 (x_dk dn_330_0_2_ok 9 rfl)))))
  (e_Tok2
  (e_Lok (e_st (I := eI) (er_icmpeq (off := 62) (tg := 177) (x_dk dn_330_0_2_ok 10 rfl) (by decide)) nx_if2))
  (e_Tok2
  (e_Lok (ld_iload_n_1 (x_dk dn_330_0_2_ok 11 rfl)))
  (e_Lok (ps_bipush_37 (x_dk dn_330_0_2_ok 12 rfl))))))
  (e_Tok2
  (e_Tok2
  (e_Lok (e_st (I := eI) (er_icmpeq (off := 56) (tg := 177) (x_dk dn_330_0_2_ok 13 rfl) (by decide)) nx_if2))
  (e_Tok2
  (e_Lok (ld_iload_n_1 (x_dk dn_330_0_2_ok 14 rfl)))
  (e_Lok (ps_bipush_61 (x_dk dn_330_0_2_ok 15 rfl)))))
  (e_Tok2
  (e_Lok (e_st (I := eI) (er_icmpeq (off := 50) (tg := 177) (x_dk dn_330_0_2_ok 16 rfl) (by decide)) nx_if2))
  (e_Tok2
  (e_Lok (ld_iload_n_1 (x_dk dn_330_0_2_ok 17 rfl)))
  (e_Lok (ps_bipush_60 (x_dk dn_330_0_2_ok 18 rfl))))))))
def te_330_69 : Nat → eE := (e_T 154 (e_T 142 (e_T 136 (e_T 133 (e_L 133 (0, ei_if2 0 177 136, 0, 0)) (e_L 136 (0, ei_load 1 0 137, 0, 0))) (e_T 137 (e_L 137 (0, ei_push (0, 62) 139, 0, 0)) (e_T 139 (e_L 139 (0, ei_if2 0 177 142, 0, 0)) (e_L 142 (0, ei_load 1 0 143, 0, 0))))) (e_T 148 (e_T 143 (e_L 143 (0, ei_push (0, 40) 145, 0, 0)) (e_T 145 (e_L 145 (0, ei_if2 0 177 148, 0, 0)) (e_L 148 (0, ei_load 1 0 149, 0, 0)))) (e_T 149 (e_L 149 (0, ei_push (0, 41) 151, 0, 0)) (e_T 151 (e_L 151 (0, ei_if2 0 177 154, 0, 0)) (e_L 154 (0, ei_load 1 0 155, 0, 0)))))) (e_T 166 (e_T 160 (e_T 155 (e_L 155 (0, ei_push (0, 44) 157, 0, 0)) (e_T 157 (e_L 157 (0, ei_if2 0 177 160, 0, 0)) (e_L 160 (0, ei_load 1 0 161, 0, 0)))) (e_T 161 (e_L 161 (0, ei_push (0, 59) 163, 0, 0)) (e_T 163 (e_L 163 (0, ei_if2 0 177 166, 0, 0)) (e_L 166 (0, ei_load 1 0 167, 0, 0))))) (e_T 172 (e_T 167 (e_L 167 (0, ei_push (0, 58) 169, 0, 0)) (e_T 169 (e_L 169 (0, ei_if2 0 177 172, 0, 0)) (e_L 172 (0, ei_load 0 2 173, 0, 0)))) (e_T 173 (e_L 173 (0, ei_push (0, 5) 174, 0, 0)) (e_T 174 (e_L 174 (0, ei_putf eft elay 12 84 0 177, 0, 0)) (e_L 177 (1, e_nof, 0, 0)))))))
set_option maxRecDepth 20000 in
set_option maxHeartbeats 4000000 in
theorem te_330_69_ok : ∀ pc, e_EOq eft cls elay eI n_330 pc (te_330_69 pc) :=
  (e_Tok2
  (e_Tok2
  (e_Tok2
  (e_Tok2
  (e_Lok (e_st (I := eI) (er_icmpeq (off := 44) (tg := 177) (x_dk dn_330_0_2_ok 19 rfl) (by decide)) nx_if2))
  (e_Lok (ld_iload_n_1 (x_dk dn_330_0_2_ok 20 rfl))))
  (e_Tok2
  (e_Lok (ps_bipush_62 (x_dk dn_330_0_2_ok 21 rfl)))
  (e_Tok2
  (e_Lok (e_st (I := eI) (er_icmpeq (off := 38) (tg := 177) (x_dk dn_330_0_2_ok 22 rfl) (by decide)) nx_if2))
  (e_Lok (ld_iload_n_1 (x_dk dn_330_0_2_ok 23 rfl))))))
  (e_Tok2
  (e_Tok2
  (e_Lok (ps_bipush_40 (x_dk dn_330_0_2_ok 24 rfl)))
  (e_Tok2
  (e_Lok (e_st (I := eI) (er_icmpeq (off := 32) (tg := 177) (x_dk dn_330_0_3_ok 0 rfl) (by decide)) nx_if2))
  (e_Lok (ld_iload_n_1 (x_dk dn_330_0_3_ok 1 rfl)))))
  (e_Tok2
  (e_Lok (ps_bipush_41 (x_dk dn_330_0_3_ok 2 rfl)))
  (e_Tok2
  (e_Lok (e_st (I := eI) (er_icmpeq (off := 26) (tg := 177) (x_dk dn_330_0_3_ok 3 rfl) (by decide)) nx_if2))
  (e_Lok (ld_iload_n_1 (x_dk dn_330_0_3_ok 4 rfl)))))))
  (e_Tok2
  (e_Tok2
  (e_Tok2
  (e_Lok (ps_bipush_44 (x_dk dn_330_0_3_ok 5 rfl)))
  (e_Tok2
  (e_Lok (e_st (I := eI) (er_icmpeq (off := 20) (tg := 177) (x_dk dn_330_0_3_ok 6 rfl) (by decide)) nx_if2))
  (e_Lok (ld_iload_n_1 (x_dk dn_330_0_3_ok 7 rfl)))))
  (e_Tok2
  (e_Lok (ps_bipush_59 (x_dk dn_330_0_3_ok 8 rfl)))
  (e_Tok2
  (e_Lok (e_st (I := eI) (er_icmpeq (off := 14) (tg := 177) (x_dk dn_330_0_3_ok 9 rfl) (by decide)) nx_if2))
  (e_Lok (ld_iload_n_1 (x_dk dn_330_0_3_ok 10 rfl))))))
  (e_Tok2
  (e_Tok2
  (e_Lok (ps_bipush_58 (x_dk dn_330_0_3_ok 11 rfl)))
  (e_Tok2
  (e_Lok (e_st (I := eI) (er_icmpeq (off := 8) (tg := 177) (x_dk dn_330_0_3_ok 12 rfl) (by decide)) nx_if2))
  (e_Lok (ld_aload_n_0 (x_dk dn_330_0_3_ok 13 rfl)))))
  (e_Tok2
  (e_Lok (ps_iconst_5 (x_dk dn_330_0_3_ok 14 rfl)))
  (e_Tok2
  (e_Lok (lk_12_497p ho_330 (x_dk dn_330_0_3_ok 15 rfl)))
  (e_Lok (e_rt (I := eI) (k := 0) ⟨(x_dk dn_330_0_3_ok 16 rfl), rfl⟩)))))))
def te_330 : Nat → eE := (e_T 83 (e_T 38 te_330_0 te_330_23) (e_T 131 te_330_46 te_330_69))
theorem te_330_ok : ∀ pc, e_EOq eft cls elay eI n_330 pc (te_330 pc) := (e_Tok2 ((e_Tok2 (te_330_0_ok) (te_330_23_ok))) ((e_Tok2 (te_330_46_ok) (te_330_69_ok))))
theorem ho_331 : (xm_y n_331).cls = "RobotCellHouseModel" := rfl
def dn_331_0_0 : List (Nat × Instr × Nat) := [(0, .aload_n 0, 1), (1, .getfield 497, 3), (4, .iconst 3, 1), (5, .if_icmp .ne 15, 3), (8, .aload_n 0, 1), (9, .getfield 494, 3), (12, .iload_n 1, 1), (13, .if_icmp .ne 7, 3), (16, .iconst 1, 1), (17, .goto 4, 3), (20, .iconst 0, 1), (21, .ireturn, 1)]
set_option maxRecDepth 20000 in
theorem dn_331_0_0_ok : dn_331_0_0.all (fun q => decide (decode (xm_b n_331) q.1 = .ok (q.2.1, q.2.2))) = true := xa_g_ok (by decide +kernel)
def te_331_0 : Nat → eE := (e_T 9 (e_T 4 (e_T 0 (e_L 0 (0, ei_load 0 2 1, 0, 0)) (e_T 1 (e_L 1 (0, ei_getf eft elay 12 84 4, 0, 0)) (e_L 4 (0, ei_push (0, 3) 5, 0, 0)))) (e_T 5 (e_L 5 (0, ei_if2 1 20 8, 0, 0)) (e_T 8 (e_L 8 (0, ei_load 0 2 9, 0, 0)) (e_L 9 (0, ei_getf eft elay 12 85 12, 0, 0))))) (e_T 16 (e_T 12 (e_L 12 (0, ei_load 1 0 13, 0, 0)) (e_T 13 (e_L 13 (0, ei_if2 1 20 16, 0, 0)) (e_L 16 (0, ei_push (0, 1) 17, 0, 0)))) (e_T 17 (e_L 17 (0, ei_goto 21, 0, 0)) (e_T 20 (e_L 20 (0, ei_push (0, 0) 21, 0, 0)) (e_L 21 (1, e_nof, 4, 0))))))
set_option maxRecDepth 20000 in
set_option maxHeartbeats 4000000 in
theorem te_331_0_ok : ∀ pc, e_EOq eft cls elay eI n_331 pc (te_331_0 pc) :=
  (e_Tok2
  (e_Tok2
  (e_Tok2
  (e_Lok (ld_aload_n_0 (x_dk dn_331_0_0_ok 0 rfl)))
  (e_Tok2
  (e_Lok (lk_12_497g ho_331 (x_dk dn_331_0_0_ok 1 rfl)))
  (e_Lok (ps_iconst_3 (x_dk dn_331_0_0_ok 2 rfl)))))
  (e_Tok2
  (e_Lok (e_st (I := eI) (er_icmpne (off := 15) (tg := 20) (x_dk dn_331_0_0_ok 3 rfl) (by decide)) nx_if2))
  (e_Tok2
  (e_Lok (ld_aload_n_0 (x_dk dn_331_0_0_ok 4 rfl)))
  (e_Lok (lk_12_494g ho_331 (x_dk dn_331_0_0_ok 5 rfl))))))
  (e_Tok2
  (e_Tok2
  (e_Lok (ld_iload_n_1 (x_dk dn_331_0_0_ok 6 rfl)))
  (e_Tok2
  (e_Lok (e_st (I := eI) (er_icmpne (off := 7) (tg := 20) (x_dk dn_331_0_0_ok 7 rfl) (by decide)) nx_if2))
  (e_Lok (ps_iconst_1 (x_dk dn_331_0_0_ok 8 rfl)))))
  (e_Tok2
  (e_Lok (e_st (I := eI) (er_goto (off := 4) (tg := 21) (x_dk dn_331_0_0_ok 9 rfl) (by decide)) nx_goto))
  (e_Tok2
  (e_Lok (ps_iconst_0 (x_dk dn_331_0_0_ok 10 rfl)))
  (e_Lok (e_rt (I := eI) (k := 4) ⟨(x_dk dn_331_0_0_ok 11 rfl), rfl⟩))))))
def te_331 : Nat → eE := te_331_0
theorem te_331_ok : ∀ pc, e_EOq eft cls elay eI n_331 pc (te_331 pc) := te_331_0_ok
theorem ho_332 : (xm_y n_332).cls = "RobotCellHouseModel" := rfl
def dn_332_0_0 : List (Nat × Instr × Nat) := [(0, .aload_n 0, 1), (1, .getfield 497, 3), (4, .iconst 4, 1), (5, .if_icmp .ne 15, 3), (8, .aload_n 0, 1), (9, .getfield 494, 3), (12, .iload_n 1, 1), (13, .if_icmp .ne 7, 3), (16, .iconst 1, 1), (17, .goto 4, 3), (20, .iconst 0, 1), (21, .ireturn, 1)]
set_option maxRecDepth 20000 in
theorem dn_332_0_0_ok : dn_332_0_0.all (fun q => decide (decode (xm_b n_332) q.1 = .ok (q.2.1, q.2.2))) = true := xa_g_ok (by decide +kernel)
def te_332_0 : Nat → eE := (e_T 9 (e_T 4 (e_T 0 (e_L 0 (0, ei_load 0 2 1, 0, 0)) (e_T 1 (e_L 1 (0, ei_getf eft elay 12 84 4, 0, 0)) (e_L 4 (0, ei_push (0, 4) 5, 0, 0)))) (e_T 5 (e_L 5 (0, ei_if2 1 20 8, 0, 0)) (e_T 8 (e_L 8 (0, ei_load 0 2 9, 0, 0)) (e_L 9 (0, ei_getf eft elay 12 85 12, 0, 0))))) (e_T 16 (e_T 12 (e_L 12 (0, ei_load 1 0 13, 0, 0)) (e_T 13 (e_L 13 (0, ei_if2 1 20 16, 0, 0)) (e_L 16 (0, ei_push (0, 1) 17, 0, 0)))) (e_T 17 (e_L 17 (0, ei_goto 21, 0, 0)) (e_T 20 (e_L 20 (0, ei_push (0, 0) 21, 0, 0)) (e_L 21 (1, e_nof, 4, 0))))))
set_option maxRecDepth 20000 in
set_option maxHeartbeats 4000000 in
theorem te_332_0_ok : ∀ pc, e_EOq eft cls elay eI n_332 pc (te_332_0 pc) :=
  (e_Tok2
  (e_Tok2
  (e_Tok2
  (e_Lok (ld_aload_n_0 (x_dk dn_332_0_0_ok 0 rfl)))
  (e_Tok2
  (e_Lok (lk_12_497g ho_332 (x_dk dn_332_0_0_ok 1 rfl)))
  (e_Lok (ps_iconst_4 (x_dk dn_332_0_0_ok 2 rfl)))))
  (e_Tok2
  (e_Lok (e_st (I := eI) (er_icmpne (off := 15) (tg := 20) (x_dk dn_332_0_0_ok 3 rfl) (by decide)) nx_if2))
  (e_Tok2
  (e_Lok (ld_aload_n_0 (x_dk dn_332_0_0_ok 4 rfl)))
  (e_Lok (lk_12_494g ho_332 (x_dk dn_332_0_0_ok 5 rfl))))))
  (e_Tok2
  (e_Tok2
  (e_Lok (ld_iload_n_1 (x_dk dn_332_0_0_ok 6 rfl)))
  (e_Tok2
  (e_Lok (e_st (I := eI) (er_icmpne (off := 7) (tg := 20) (x_dk dn_332_0_0_ok 7 rfl) (by decide)) nx_if2))
  (e_Lok (ps_iconst_1 (x_dk dn_332_0_0_ok 8 rfl)))))
  (e_Tok2
  (e_Lok (e_st (I := eI) (er_goto (off := 4) (tg := 21) (x_dk dn_332_0_0_ok 9 rfl) (by decide)) nx_goto))
  (e_Tok2
  (e_Lok (ps_iconst_0 (x_dk dn_332_0_0_ok 10 rfl)))
  (e_Lok (e_rt (I := eI) (k := 4) ⟨(x_dk dn_332_0_0_ok 11 rfl), rfl⟩))))))
def te_332 : Nat → eE := te_332_0
theorem te_332_ok : ∀ pc, e_EOq eft cls elay eI n_332 pc (te_332 pc) := te_332_0_ok
theorem ho_333 : (xm_y n_333).cls = "RobotCellHouseModel" := rfl
def dn_333_0_0 : List (Nat × Instr × Nat) := [(0, .aload_n 0, 1), (1, .getfield 530, 3), (4, .ifCond .ne 28, 3), (7, .aload_n 0, 1), (8, .aload_n 0, 1), (9, .getfield 497, 3), (12, .iconst 5, 1), (13, .if_icmp .ne 7, 3), (16, .iconst 1, 1), (17, .goto 4, 3), (20, .iload_n 1, 1), (21, .putfield 530, 3), (24, .aload_n 0, 1), (25, .aload_n 0, 1), (26, .getfield 491, 3), (29, .putfield 533, 3), (32, .return_, 1)]
set_option maxRecDepth 20000 in
theorem dn_333_0_0_ok : dn_333_0_0.all (fun q => decide (decode (xm_b n_333) q.1 = .ok (q.2.1, q.2.2))) = true := xa_g_ok (by decide +kernel)
def te_333_0 : Nat → eE := (e_T 13 (e_T 7 (e_T 1 (e_T 0 (e_L 0 (0, ei_load 0 2 1, 0, 0)) (e_L 1 (0, ei_getf eft elay 12 88 4, 0, 0))) (e_T 4 (e_L 4 (0, ei_if1 1 32 7, 0, 0)) (e_L 7 (0, ei_load 0 2 8, 0, 0)))) (e_T 9 (e_T 8 (e_L 8 (0, ei_load 0 2 9, 0, 0)) (e_L 9 (0, ei_getf eft elay 12 84 12, 0, 0))) (e_T 12 (e_L 12 (0, ei_push (0, 5) 13, 0, 0)) (e_L 13 (0, ei_if2 1 20 16, 0, 0))))) (e_T 21 (e_T 17 (e_T 16 (e_L 16 (0, ei_push (0, 1) 17, 0, 0)) (e_L 17 (0, ei_goto 21, 0, 0))) (e_T 20 (e_L 20 (0, ei_load 1 0 21, 0, 0)) (e_L 21 (0, ei_putf eft elay 12 88 0 24, 0, 0)))) (e_T 25 (e_T 24 (e_L 24 (0, ei_load 0 2 25, 0, 0)) (e_L 25 (0, ei_load 0 2 26, 0, 0))) (e_T 26 (e_L 26 (0, ei_getf eft elay 12 86 29, 0, 0)) (e_T 29 (e_L 29 (0, ei_putf eft elay 12 89 0 32, 0, 0)) (e_L 32 (1, e_nof, 0, 0)))))))
set_option maxRecDepth 20000 in
set_option maxHeartbeats 4000000 in
theorem te_333_0_ok : ∀ pc, e_EOq eft cls elay eI n_333 pc (te_333_0 pc) :=
  (e_Tok2
  (e_Tok2
  (e_Tok2
  (e_Tok2
  (e_Lok (ld_aload_n_0 (x_dk dn_333_0_0_ok 0 rfl)))
  (e_Lok (lk_12_530g ho_333 (x_dk dn_333_0_0_ok 1 rfl))))
  (e_Tok2
  (e_Lok (e_st (I := eI) (er_ifne (off := 28) (tg := 32) (x_dk dn_333_0_0_ok 2 rfl) (by decide)) nx_if1))
  (e_Lok (ld_aload_n_0 (x_dk dn_333_0_0_ok 3 rfl)))))
  (e_Tok2
  (e_Tok2
  (e_Lok (ld_aload_n_0 (x_dk dn_333_0_0_ok 4 rfl)))
  (e_Lok (lk_12_497g ho_333 (x_dk dn_333_0_0_ok 5 rfl))))
  (e_Tok2
  (e_Lok (ps_iconst_5 (x_dk dn_333_0_0_ok 6 rfl)))
  (e_Lok (e_st (I := eI) (er_icmpne (off := 7) (tg := 20) (x_dk dn_333_0_0_ok 7 rfl) (by decide)) nx_if2)))))
  (e_Tok2
  (e_Tok2
  (e_Tok2
  (e_Lok (ps_iconst_1 (x_dk dn_333_0_0_ok 8 rfl)))
  (e_Lok (e_st (I := eI) (er_goto (off := 4) (tg := 21) (x_dk dn_333_0_0_ok 9 rfl) (by decide)) nx_goto)))
  (e_Tok2
  (e_Lok (ld_iload_n_1 (x_dk dn_333_0_0_ok 10 rfl)))
  (e_Lok (lk_12_530p ho_333 (x_dk dn_333_0_0_ok 11 rfl)))))
  (e_Tok2
  (e_Tok2
  (e_Lok (ld_aload_n_0 (x_dk dn_333_0_0_ok 12 rfl)))
  (e_Lok (ld_aload_n_0 (x_dk dn_333_0_0_ok 13 rfl))))
  (e_Tok2
  (e_Lok (lk_12_491g ho_333 (x_dk dn_333_0_0_ok 14 rfl)))
  (e_Tok2
  (e_Lok (lk_12_533p ho_333 (x_dk dn_333_0_0_ok 15 rfl)))
  (e_Lok (e_rt (I := eI) (k := 0) ⟨(x_dk dn_333_0_0_ok 16 rfl), rfl⟩)))))))
def te_333 : Nat → eE := te_333_0
theorem te_333_ok : ∀ pc, e_EOq eft cls elay eI n_333 pc (te_333 pc) := te_333_0_ok
theorem ho_334 : (xm_y n_334).cls = "RobotCellHouseModel" := rfl
def dn_334_0_0 : List (Nat × Instr × Nat) := [(0, .aload_n 0, 1), (1, .getfield 530, 3), (4, .ifCond .eq 4, 3), (7, .return_, 1), (8, .iload_n 1, 1), (9, .ifCond .eq 10, 3), (12, .aload_n 0, 1), (13, .invokevirtual 536, 3), (16, .goto 8, 3), (19, .aload_n 0, 1), (20, .iconst 2, 1), (21, .invokevirtual 539, 3), (24, .return_, 1)]
set_option maxRecDepth 20000 in
theorem dn_334_0_0_ok : dn_334_0_0.all (fun q => decide (decode (xm_b n_334) q.1 = .ok (q.2.1, q.2.2))) = true := xa_g_ok (by decide +kernel)
def te_334_0 : Nat → eE := (e_T 9 (e_T 4 (e_T 0 (e_L 0 (0, ei_load 0 2 1, 0, 0)) (e_T 1 (e_L 1 (0, ei_getf eft elay 12 88 4, 0, 0)) (e_L 4 (0, ei_if1 0 8 7, 0, 0)))) (e_T 7 (e_L 7 (1, e_nof, 0, 0)) (e_T 8 (e_L 8 (0, ei_load 1 0 9, 0, 0)) (e_L 9 (0, ei_if1 0 19 12, 0, 0))))) (e_T 16 (e_T 12 (e_L 12 (0, ei_load 0 2 13, 0, 0)) (e_T 13 (e_L 13 (2, e_nof, 327, 1)) (e_L 16 (0, ei_goto 24, 0, 0)))) (e_T 20 (e_T 19 (e_L 19 (0, ei_load 0 2 20, 0, 0)) (e_L 20 (0, ei_push (0, 2) 21, 0, 0))) (e_T 21 (e_L 21 (2, e_nof, 333, 2)) (e_L 24 (1, e_nof, 0, 0))))))
set_option maxRecDepth 20000 in
set_option maxHeartbeats 4000000 in
theorem te_334_0_ok : ∀ pc, e_EOq eft cls elay eI n_334 pc (te_334_0 pc) :=
  (e_Tok2
  (e_Tok2
  (e_Tok2
  (e_Lok (ld_aload_n_0 (x_dk dn_334_0_0_ok 0 rfl)))
  (e_Tok2
  (e_Lok (lk_12_530g ho_334 (x_dk dn_334_0_0_ok 1 rfl)))
  (e_Lok (e_st (I := eI) (er_ifeq (off := 4) (tg := 8) (x_dk dn_334_0_0_ok 2 rfl) (by decide)) nx_if1))))
  (e_Tok2
  (e_Lok (e_rt (I := eI) (k := 0) ⟨(x_dk dn_334_0_0_ok 3 rfl), rfl⟩))
  (e_Tok2
  (e_Lok (ld_iload_n_1 (x_dk dn_334_0_0_ok 4 rfl)))
  (e_Lok (e_st (I := eI) (er_ifeq (off := 10) (tg := 19) (x_dk dn_334_0_0_ok 5 rfl) (by decide)) nx_if1)))))
  (e_Tok2
  (e_Tok2
  (e_Lok (ld_aload_n_0 (x_dk dn_334_0_0_ok 6 rfl)))
  (e_Tok2
  (e_Lok (lk_12_536 ho_334 (x_dk dn_334_0_0_ok 7 rfl)))
  (e_Lok (e_st (I := eI) (er_goto (off := 8) (tg := 24) (x_dk dn_334_0_0_ok 8 rfl) (by decide)) nx_goto))))
  (e_Tok2
  (e_Tok2
  (e_Lok (ld_aload_n_0 (x_dk dn_334_0_0_ok 9 rfl)))
  (e_Lok (ps_iconst_2 (x_dk dn_334_0_0_ok 10 rfl))))
  (e_Tok2
  (e_Lok (lk_12_539 ho_334 (x_dk dn_334_0_0_ok 11 rfl)))
  (e_Lok (e_rt (I := eI) (k := 0) ⟨(x_dk dn_334_0_0_ok 12 rfl), rfl⟩))))))
def te_334 : Nat → eE := te_334_0
theorem te_334_ok : ∀ pc, e_EOq eft cls elay eI n_334 pc (te_334 pc) := te_334_0_ok
theorem ho_335 : (xm_y n_335).cls = "RobotCellHouseModel" := rfl
def dn_335_0_0 : List (Nat × Instr × Nat) := [(0, .aload_n 0, 1), (1, .getfield 530, 3), (4, .ifCond .ne 17, 3), (7, .aload_n 0, 1), (8, .getfield 542, 3), (11, .bipush 30, 2), (13, .if_icmp .ne 8, 3), (16, .aload_n 0, 1), (17, .iconst 3, 1), (18, .invokevirtual 539, 3), (21, .aload_n 0, 1), (22, .dup, 1), (23, .getfield 542, 3), (26, .iconst 1, 1), (27, .iadd, 1), (28, .putfield 542, 3), (31, .return_, 1)]
set_option maxRecDepth 20000 in
theorem dn_335_0_0_ok : dn_335_0_0.all (fun q => decide (decode (xm_b n_335) q.1 = .ok (q.2.1, q.2.2))) = true := xa_g_ok (by decide +kernel)
def te_335_0 : Nat → eE := (e_T 16 (e_T 7 (e_T 1 (e_T 0 (e_L 0 (0, ei_load 0 2 1, 0, 0)) (e_L 1 (0, ei_getf eft elay 12 88 4, 0, 0))) (e_T 4 (e_L 4 (0, ei_if1 1 21 7, 0, 0)) (e_L 7 (0, ei_load 0 2 8, 0, 0)))) (e_T 11 (e_T 8 (e_L 8 (0, ei_getf eft elay 12 83 11, 0, 0)) (e_L 11 (0, ei_push (0, 30) 13, 0, 0))) (e_T 13 (e_L 13 (0, ei_if2 1 21 16, 0, 0)) (e_L 16 (0, ei_load 0 2 17, 0, 0))))) (e_T 22 (e_T 18 (e_T 17 (e_L 17 (0, ei_push (0, 3) 18, 0, 0)) (e_L 18 (2, e_nof, 333, 2))) (e_T 21 (e_L 21 (0, ei_load 0 2 22, 0, 0)) (e_L 22 (0, ei_stk ef_dup 23, 0, 0)))) (e_T 26 (e_T 23 (e_L 23 (0, ei_getf eft elay 12 83 26, 0, 0)) (e_L 26 (0, ei_push (0, 1) 27, 0, 0))) (e_T 27 (e_L 27 (0, ei_bin eF_add 28, 0, 0)) (e_T 28 (e_L 28 (0, ei_putf eft elay 12 83 0 31, 0, 0)) (e_L 31 (1, e_nof, 0, 0)))))))
set_option maxRecDepth 20000 in
set_option maxHeartbeats 4000000 in
theorem te_335_0_ok : ∀ pc, e_EOq eft cls elay eI n_335 pc (te_335_0 pc) :=
  (e_Tok2
  (e_Tok2
  (e_Tok2
  (e_Tok2
  (e_Lok (ld_aload_n_0 (x_dk dn_335_0_0_ok 0 rfl)))
  (e_Lok (lk_12_530g ho_335 (x_dk dn_335_0_0_ok 1 rfl))))
  (e_Tok2
  (e_Lok (e_st (I := eI) (er_ifne (off := 17) (tg := 21) (x_dk dn_335_0_0_ok 2 rfl) (by decide)) nx_if1))
  (e_Lok (ld_aload_n_0 (x_dk dn_335_0_0_ok 3 rfl)))))
  (e_Tok2
  (e_Tok2
  (e_Lok (lk_12_542g ho_335 (x_dk dn_335_0_0_ok 4 rfl)))
  (e_Lok (ps_bipush_30 (x_dk dn_335_0_0_ok 5 rfl))))
  (e_Tok2
  (e_Lok (e_st (I := eI) (er_icmpne (off := 8) (tg := 21) (x_dk dn_335_0_0_ok 6 rfl) (by decide)) nx_if2))
  (e_Lok (ld_aload_n_0 (x_dk dn_335_0_0_ok 7 rfl))))))
  (e_Tok2
  (e_Tok2
  (e_Tok2
  (e_Lok (ps_iconst_3 (x_dk dn_335_0_0_ok 8 rfl)))
  (e_Lok (lk_12_539 ho_335 (x_dk dn_335_0_0_ok 9 rfl))))
  (e_Tok2
  (e_Lok (ld_aload_n_0 (x_dk dn_335_0_0_ok 10 rfl)))
  (e_Lok (e_st (I := eI) (er_dup (x_dk dn_335_0_0_ok 11 rfl)) (nx_stk bf_dup)))))
  (e_Tok2
  (e_Tok2
  (e_Lok (lk_12_542g ho_335 (x_dk dn_335_0_0_ok 12 rfl)))
  (e_Lok (ps_iconst_1 (x_dk dn_335_0_0_ok 13 rfl))))
  (e_Tok2
  (e_Lok (sm_iadd (x_dk dn_335_0_0_ok 14 rfl)))
  (e_Tok2
  (e_Lok (lk_12_542p ho_335 (x_dk dn_335_0_0_ok 15 rfl)))
  (e_Lok (e_rt (I := eI) (k := 0) ⟨(x_dk dn_335_0_0_ok 16 rfl), rfl⟩)))))))
def te_335 : Nat → eE := te_335_0
theorem te_335_ok : ∀ pc, e_EOq eft cls elay eI n_335 pc (te_335 pc) := te_335_0_ok
theorem ho_336 : (xm_y n_336).cls = "RobotCellHouseModel" := rfl
def dn_336_0_0 : List (Nat × Instr × Nat) := [(0, .ldc_w 545, 3), (3, .aload_n 0, 1), (4, .getfield 546, 3), (7, .iadd, 1), (8, .istore_n 3, 1), (9, .aload_n 0, 1), (10, .getfield 171, 3), (13, .iload_n 3, 1), (14, .iload_n 1, 1), (15, .iastore, 1), (16, .aload_n 0, 1), (17, .getfield 174, 3), (20, .iload_n 3, 1), (21, .iload_n 2, 1), (22, .iastore, 1), (23, .aload_n 0, 1), (24, .getfield 177, 3), (27, .iload_n 3, 1), (28, .aload_n 0, 1), (29, .getfield 549, 3), (32, .iastore, 1), (33, .aload_n 0, 1), (34, .dup, 1), (35, .getfield 546, 3), (38, .iconst 1, 1)]
set_option maxRecDepth 20000 in
theorem dn_336_0_0_ok : dn_336_0_0.all (fun q => decide (decode (xm_b n_336) q.1 = .ok (q.2.1, q.2.2))) = true := xa_g_ok (by decide +kernel)
def dn_336_0_1 : List (Nat × Instr × Nat) := [(39, .iadd, 1), (40, .putfield 546, 3), (43, .aload_n 0, 1), (44, .getfield 546, 3), (47, .iconst 1, 1), (48, .isub, 1), (49, .ireturn, 1)]
set_option maxRecDepth 20000 in
theorem dn_336_0_1_ok : dn_336_0_1.all (fun q => decide (decode (xm_b n_336) q.1 = .ok (q.2.1, q.2.2))) = true := xa_g_ok (by decide +kernel)
def te_336_0 : Nat → eE := (e_T 23 (e_T 13 (e_T 7 (e_T 3 (e_T 0 (e_L 0 (0, ei_push (0, 40000) 3, 0, 0)) (e_L 3 (0, ei_load 0 2 4, 0, 0))) (e_T 4 (e_L 4 (0, ei_getf eft elay 12 78 7, 0, 0)) (e_L 7 (0, ei_bin eF_add 8, 0, 0)))) (e_T 9 (e_T 8 (e_L 8 (0, ei_stor 3 0 9, 0, 0)) (e_L 9 (0, ei_load 0 2 10, 0, 0))) (e_T 10 (e_L 10 (0, ei_getf eft elay 12 65 13, 0, 0)) (e_L 13 (0, ei_load 3 0 14, 0, 0))))) (e_T 17 (e_T 15 (e_T 14 (e_L 14 (0, ei_load 1 0 15, 0, 0)) (e_L 15 (0, ei_ast elay false 16, 0, 0))) (e_T 16 (e_L 16 (0, ei_load 0 2 17, 0, 0)) (e_L 17 (0, ei_getf eft elay 12 66 20, 0, 0)))) (e_T 21 (e_T 20 (e_L 20 (0, ei_load 3 0 21, 0, 0)) (e_L 21 (0, ei_load 2 0 22, 0, 0))) (e_T 22 (e_L 22 (0, ei_ast elay false 23, 0, 0)) (e_L 23 (0, ei_load 0 2 24, 0, 0)))))) (e_T 35 (e_T 29 (e_T 27 (e_T 24 (e_L 24 (0, ei_getf eft elay 12 67 27, 0, 0)) (e_L 27 (0, ei_load 3 0 28, 0, 0))) (e_T 28 (e_L 28 (0, ei_load 0 2 29, 0, 0)) (e_L 29 (0, ei_getf eft elay 12 81 32, 0, 0)))) (e_T 33 (e_T 32 (e_L 32 (0, ei_ast elay false 33, 0, 0)) (e_L 33 (0, ei_load 0 2 34, 0, 0))) (e_T 34 (e_L 34 (0, ei_stk ef_dup 35, 0, 0)) (e_L 35 (0, ei_getf eft elay 12 78 38, 0, 0))))) (e_T 43 (e_T 39 (e_T 38 (e_L 38 (0, ei_push (0, 1) 39, 0, 0)) (e_L 39 (0, ei_bin eF_add 40, 0, 0))) (e_T 40 (e_L 40 (0, ei_putf eft elay 12 78 0 43, 0, 0)) (e_L 43 (0, ei_load 0 2 44, 0, 0)))) (e_T 47 (e_T 44 (e_L 44 (0, ei_getf eft elay 12 78 47, 0, 0)) (e_L 47 (0, ei_push (0, 1) 48, 0, 0))) (e_T 48 (e_L 48 (0, ei_bin eF_sub 49, 0, 0)) (e_L 49 (1, e_nof, 1, 0)))))))
set_option maxRecDepth 20000 in
set_option maxHeartbeats 4000000 in
theorem te_336_0_ok : ∀ pc, e_EOq eft cls elay eI n_336 pc (te_336_0 pc) :=
  (e_Tok2
  (e_Tok2
  (e_Tok2
  (e_Tok2
  (e_Tok2
  (e_Lok (e_st (I := eI) (er_ldcw (ix := 545) (z := 40000) (v := 40000) (x_dk dn_336_0_0_ok 0 rfl) (in_t12 (List.mem_of_getElem? (i := 40) rfl) rfl) (by decide)) (nx_push (Or.inl rfl))))
  (e_Lok (ld_aload_n_0 (x_dk dn_336_0_0_ok 1 rfl))))
  (e_Tok2
  (e_Lok (lk_12_546g ho_336 (x_dk dn_336_0_0_ok 2 rfl)))
  (e_Lok (sm_iadd (x_dk dn_336_0_0_ok 3 rfl)))))
  (e_Tok2
  (e_Tok2
  (e_Lok (e_st (I := eI) (er_istore_n (i := 3) (x_dk dn_336_0_0_ok 4 rfl) (by decide +kernel)) nx_stor))
  (e_Lok (ld_aload_n_0 (x_dk dn_336_0_0_ok 5 rfl))))
  (e_Tok2
  (e_Lok (lk_12_171g ho_336 (x_dk dn_336_0_0_ok 6 rfl)))
  (e_Lok (ld_iload_n_3 (x_dk dn_336_0_0_ok 7 rfl))))))
  (e_Tok2
  (e_Tok2
  (e_Tok2
  (e_Lok (ld_iload_n_1 (x_dk dn_336_0_0_ok 8 rfl)))
  (e_Lok (sm_iastore (x_dk dn_336_0_0_ok 9 rfl))))
  (e_Tok2
  (e_Lok (ld_aload_n_0 (x_dk dn_336_0_0_ok 10 rfl)))
  (e_Lok (lk_12_174g ho_336 (x_dk dn_336_0_0_ok 11 rfl)))))
  (e_Tok2
  (e_Tok2
  (e_Lok (ld_iload_n_3 (x_dk dn_336_0_0_ok 12 rfl)))
  (e_Lok (ld_iload_n_2 (x_dk dn_336_0_0_ok 13 rfl))))
  (e_Tok2
  (e_Lok (sm_iastore (x_dk dn_336_0_0_ok 14 rfl)))
  (e_Lok (ld_aload_n_0 (x_dk dn_336_0_0_ok 15 rfl)))))))
  (e_Tok2
  (e_Tok2
  (e_Tok2
  (e_Tok2
  (e_Lok (lk_12_177g ho_336 (x_dk dn_336_0_0_ok 16 rfl)))
  (e_Lok (ld_iload_n_3 (x_dk dn_336_0_0_ok 17 rfl))))
  (e_Tok2
  (e_Lok (ld_aload_n_0 (x_dk dn_336_0_0_ok 18 rfl)))
  (e_Lok (lk_12_549g ho_336 (x_dk dn_336_0_0_ok 19 rfl)))))
  (e_Tok2
  (e_Tok2
  (e_Lok (sm_iastore (x_dk dn_336_0_0_ok 20 rfl)))
  (e_Lok (ld_aload_n_0 (x_dk dn_336_0_0_ok 21 rfl))))
  (e_Tok2
  (e_Lok (e_st (I := eI) (er_dup (x_dk dn_336_0_0_ok 22 rfl)) (nx_stk bf_dup)))
  (e_Lok (lk_12_546g ho_336 (x_dk dn_336_0_0_ok 23 rfl))))))
  (e_Tok2
  (e_Tok2
  (e_Tok2
  (e_Lok (ps_iconst_1 (x_dk dn_336_0_0_ok 24 rfl)))
  (e_Lok (sm_iadd (x_dk dn_336_0_1_ok 0 rfl))))
  (e_Tok2
  (e_Lok (lk_12_546p ho_336 (x_dk dn_336_0_1_ok 1 rfl)))
  (e_Lok (ld_aload_n_0 (x_dk dn_336_0_1_ok 2 rfl)))))
  (e_Tok2
  (e_Tok2
  (e_Lok (lk_12_546g ho_336 (x_dk dn_336_0_1_ok 3 rfl)))
  (e_Lok (ps_iconst_1 (x_dk dn_336_0_1_ok 4 rfl))))
  (e_Tok2
  (e_Lok (sm_isub (x_dk dn_336_0_1_ok 5 rfl)))
  (e_Lok (e_rt (I := eI) (k := 1) ⟨(x_dk dn_336_0_1_ok 6 rfl), rfl⟩)))))))
def te_336 : Nat → eE := te_336_0
theorem te_336_ok : ∀ pc, e_EOq eft cls elay eI n_336 pc (te_336 pc) := te_336_0_ok
theorem ho_337 : (xm_y n_337).cls = "RobotCellHouseModel" := rfl
def dn_337_0_0 : List (Nat × Instr × Nat) := [(0, .aload_n 0, 1), (1, .getfield 174, 3), (4, .ldc_w 545, 3), (7, .iload_n 1, 1), (8, .iadd, 1), (9, .aload_n 0, 1), (10, .getfield 546, 3), (13, .iastore, 1), (14, .return_, 1)]
set_option maxRecDepth 20000 in
theorem dn_337_0_0_ok : dn_337_0_0.all (fun q => decide (decode (xm_b n_337) q.1 = .ok (q.2.1, q.2.2))) = true := xa_g_ok (by decide +kernel)
def te_337_0 : Nat → eE := (e_T 7 (e_T 1 (e_T 0 (e_L 0 (0, ei_load 0 2 1, 0, 0)) (e_L 1 (0, ei_getf eft elay 12 66 4, 0, 0))) (e_T 4 (e_L 4 (0, ei_push (0, 40000) 7, 0, 0)) (e_L 7 (0, ei_load 1 0 8, 0, 0)))) (e_T 9 (e_T 8 (e_L 8 (0, ei_bin eF_add 9, 0, 0)) (e_L 9 (0, ei_load 0 2 10, 0, 0))) (e_T 10 (e_L 10 (0, ei_getf eft elay 12 78 13, 0, 0)) (e_T 13 (e_L 13 (0, ei_ast elay false 14, 0, 0)) (e_L 14 (1, e_nof, 0, 0))))))
set_option maxRecDepth 20000 in
set_option maxHeartbeats 4000000 in
theorem te_337_0_ok : ∀ pc, e_EOq eft cls elay eI n_337 pc (te_337_0 pc) :=
  (e_Tok2
  (e_Tok2
  (e_Tok2
  (e_Lok (ld_aload_n_0 (x_dk dn_337_0_0_ok 0 rfl)))
  (e_Lok (lk_12_174g ho_337 (x_dk dn_337_0_0_ok 1 rfl))))
  (e_Tok2
  (e_Lok (e_st (I := eI) (er_ldcw (ix := 545) (z := 40000) (v := 40000) (x_dk dn_337_0_0_ok 2 rfl) (in_t12 (List.mem_of_getElem? (i := 40) rfl) rfl) (by decide)) (nx_push (Or.inl rfl))))
  (e_Lok (ld_iload_n_1 (x_dk dn_337_0_0_ok 3 rfl)))))
  (e_Tok2
  (e_Tok2
  (e_Lok (sm_iadd (x_dk dn_337_0_0_ok 4 rfl)))
  (e_Lok (ld_aload_n_0 (x_dk dn_337_0_0_ok 5 rfl))))
  (e_Tok2
  (e_Lok (lk_12_546g ho_337 (x_dk dn_337_0_0_ok 6 rfl)))
  (e_Tok2
  (e_Lok (sm_iastore (x_dk dn_337_0_0_ok 7 rfl)))
  (e_Lok (e_rt (I := eI) (k := 0) ⟨(x_dk dn_337_0_0_ok 8 rfl), rfl⟩))))))
def te_337 : Nat → eE := te_337_0
theorem te_337_ok : ∀ pc, e_EOq eft cls elay eI n_337 pc (te_337 pc) := te_337_0_ok
theorem ho_338 : (xm_y n_338).cls = "RobotCellHouseModel" := rfl
def dn_338_0_0 : List (Nat × Instr × Nat) := [(0, .aload_n 0, 1), (1, .getfield 530, 3), (4, .ifCond .ne 72, 3), (7, .aload_n 0, 1), (8, .getfield 497, 3), (11, .iconst 1, 1), (12, .if_icmp .ne 64, 3), (15, .aload_n 0, 1), (16, .getfield 210, 3), (19, .aload_n 0, 1), (20, .getfield 552, 3), (23, .iload_n 1, 1), (24, .iastore, 1), (25, .aload_n 0, 1), (26, .getfield 213, 3), (29, .aload_n 0, 1), (30, .getfield 552, 3), (33, .aload_n 0, 1), (34, .getfield 491, 3), (37, .iastore, 1), (38, .aload_n 0, 1), (39, .getfield 216, 3), (42, .aload_n 0, 1), (43, .getfield 552, 3), (46, .aload_n 0, 1)]
set_option maxRecDepth 20000 in
theorem dn_338_0_0_ok : dn_338_0_0.all (fun q => decide (decode (xm_b n_338) q.1 = .ok (q.2.1, q.2.2))) = true := xa_g_ok (by decide +kernel)
def dn_338_0_1 : List (Nat × Instr × Nat) := [(47, .getfield 485, 3), (50, .aload_n 0, 1), (51, .getfield 491, 3), (54, .isub, 1), (55, .iastore, 1), (56, .aload_n 0, 1), (57, .getfield 219, 3), (60, .aload_n 0, 1), (61, .getfield 552, 3), (64, .iload_n 2, 1), (65, .iastore, 1), (66, .aload_n 0, 1), (67, .dup, 1), (68, .getfield 552, 3), (71, .iconst 1, 1), (72, .iadd, 1), (73, .putfield 552, 3), (76, .aload_n 0, 1), (77, .aload_n 0, 1), (78, .getfield 497, 3), (81, .iconst 1, 1), (82, .if_icmp .ne 7, 3), (85, .iconst 1, 1), (86, .goto 4, 3), (89, .iconst 0, 1)]
set_option maxRecDepth 20000 in
theorem dn_338_0_1_ok : dn_338_0_1.all (fun q => decide (decode (xm_b n_338) q.1 = .ok (q.2.1, q.2.2))) = true := xa_g_ok (by decide +kernel)
def dn_338_0_2 : List (Nat × Instr × Nat) := [(90, .invokevirtual 555, 3), (93, .return_, 1)]
set_option maxRecDepth 20000 in
theorem dn_338_0_2_ok : dn_338_0_2.all (fun q => decide (decode (xm_b n_338) q.1 = .ok (q.2.1, q.2.2))) = true := xa_g_ok (by decide +kernel)
def te_338_0 : Nat → eE := (e_T 24 (e_T 11 (e_T 4 (e_T 0 (e_L 0 (0, ei_load 0 2 1, 0, 0)) (e_T 1 (e_L 1 (0, ei_getf eft elay 12 88 4, 0, 0)) (e_L 4 (0, ei_if1 1 76 7, 0, 0)))) (e_T 7 (e_L 7 (0, ei_load 0 2 8, 0, 0)) (e_T 8 (e_L 8 (0, ei_getf eft elay 12 84 11, 0, 0)) (e_L 11 (0, ei_push (0, 1) 12, 0, 0))))) (e_T 16 (e_T 12 (e_L 12 (0, ei_if2 1 76 15, 0, 0)) (e_T 15 (e_L 15 (0, ei_load 0 2 16, 0, 0)) (e_L 16 (0, ei_getf eft elay 12 90 19, 0, 0)))) (e_T 20 (e_T 19 (e_L 19 (0, ei_load 0 2 20, 0, 0)) (e_L 20 (0, ei_getf eft elay 12 94 23, 0, 0))) (e_T 23 (e_L 23 (0, ei_load 1 0 24, 0, 0)) (e_L 24 (0, ei_ast elay false 25, 0, 0)))))) (e_T 34 (e_T 29 (e_T 25 (e_L 25 (0, ei_load 0 2 26, 0, 0)) (e_T 26 (e_L 26 (0, ei_getf eft elay 12 91 29, 0, 0)) (e_L 29 (0, ei_load 0 2 30, 0, 0)))) (e_T 30 (e_L 30 (0, ei_getf eft elay 12 94 33, 0, 0)) (e_T 33 (e_L 33 (0, ei_load 0 2 34, 0, 0)) (e_L 34 (0, ei_getf eft elay 12 86 37, 0, 0))))) (e_T 39 (e_T 37 (e_L 37 (0, ei_ast elay false 38, 0, 0)) (e_T 38 (e_L 38 (0, ei_load 0 2 39, 0, 0)) (e_L 39 (0, ei_getf eft elay 12 92 42, 0, 0)))) (e_T 43 (e_T 42 (e_L 42 (0, ei_load 0 2 43, 0, 0)) (e_L 43 (0, ei_getf eft elay 12 94 46, 0, 0))) (e_T 46 (e_L 46 (0, ei_load 0 2 47, 0, 0)) (e_L 47 (0, ei_getf eft elay 12 87 50, 0, 0)))))))
set_option maxRecDepth 20000 in
set_option maxHeartbeats 4000000 in
theorem te_338_0_ok : ∀ pc, e_EOq eft cls elay eI n_338 pc (te_338_0 pc) :=
  (e_Tok2
  (e_Tok2
  (e_Tok2
  (e_Tok2
  (e_Lok (ld_aload_n_0 (x_dk dn_338_0_0_ok 0 rfl)))
  (e_Tok2
  (e_Lok (lk_12_530g ho_338 (x_dk dn_338_0_0_ok 1 rfl)))
  (e_Lok (e_st (I := eI) (er_ifne (off := 72) (tg := 76) (x_dk dn_338_0_0_ok 2 rfl) (by decide)) nx_if1))))
  (e_Tok2
  (e_Lok (ld_aload_n_0 (x_dk dn_338_0_0_ok 3 rfl)))
  (e_Tok2
  (e_Lok (lk_12_497g ho_338 (x_dk dn_338_0_0_ok 4 rfl)))
  (e_Lok (ps_iconst_1 (x_dk dn_338_0_0_ok 5 rfl))))))
  (e_Tok2
  (e_Tok2
  (e_Lok (e_st (I := eI) (er_icmpne (off := 64) (tg := 76) (x_dk dn_338_0_0_ok 6 rfl) (by decide)) nx_if2))
  (e_Tok2
  (e_Lok (ld_aload_n_0 (x_dk dn_338_0_0_ok 7 rfl)))
  (e_Lok (lk_12_210g ho_338 (x_dk dn_338_0_0_ok 8 rfl)))))
  (e_Tok2
  (e_Tok2
  (e_Lok (ld_aload_n_0 (x_dk dn_338_0_0_ok 9 rfl)))
  (e_Lok (lk_12_552g ho_338 (x_dk dn_338_0_0_ok 10 rfl))))
  (e_Tok2
  (e_Lok (ld_iload_n_1 (x_dk dn_338_0_0_ok 11 rfl)))
  (e_Lok (sm_iastore (x_dk dn_338_0_0_ok 12 rfl)))))))
  (e_Tok2
  (e_Tok2
  (e_Tok2
  (e_Lok (ld_aload_n_0 (x_dk dn_338_0_0_ok 13 rfl)))
  (e_Tok2
  (e_Lok (lk_12_213g ho_338 (x_dk dn_338_0_0_ok 14 rfl)))
  (e_Lok (ld_aload_n_0 (x_dk dn_338_0_0_ok 15 rfl)))))
  (e_Tok2
  (e_Lok (lk_12_552g ho_338 (x_dk dn_338_0_0_ok 16 rfl)))
  (e_Tok2
  (e_Lok (ld_aload_n_0 (x_dk dn_338_0_0_ok 17 rfl)))
  (e_Lok (lk_12_491g ho_338 (x_dk dn_338_0_0_ok 18 rfl))))))
  (e_Tok2
  (e_Tok2
  (e_Lok (sm_iastore (x_dk dn_338_0_0_ok 19 rfl)))
  (e_Tok2
  (e_Lok (ld_aload_n_0 (x_dk dn_338_0_0_ok 20 rfl)))
  (e_Lok (lk_12_216g ho_338 (x_dk dn_338_0_0_ok 21 rfl)))))
  (e_Tok2
  (e_Tok2
  (e_Lok (ld_aload_n_0 (x_dk dn_338_0_0_ok 22 rfl)))
  (e_Lok (lk_12_552g ho_338 (x_dk dn_338_0_0_ok 23 rfl))))
  (e_Tok2
  (e_Lok (ld_aload_n_0 (x_dk dn_338_0_0_ok 24 rfl)))
  (e_Lok (lk_12_485g ho_338 (x_dk dn_338_0_1_ok 0 rfl))))))))
def te_338_26 : Nat → eE := (e_T 68 (e_T 57 (e_T 54 (e_T 50 (e_L 50 (0, ei_load 0 2 51, 0, 0)) (e_T 51 (e_L 51 (0, ei_getf eft elay 12 86 54, 0, 0)) (e_L 54 (0, ei_bin eF_sub 55, 0, 0)))) (e_T 55 (e_L 55 (0, ei_ast elay false 56, 0, 0)) (e_T 56 (e_L 56 (0, ei_load 0 2 57, 0, 0)) (e_L 57 (0, ei_getf eft elay 12 93 60, 0, 0))))) (e_T 64 (e_T 60 (e_L 60 (0, ei_load 0 2 61, 0, 0)) (e_T 61 (e_L 61 (0, ei_getf eft elay 12 94 64, 0, 0)) (e_L 64 (0, ei_load 2 0 65, 0, 0)))) (e_T 66 (e_T 65 (e_L 65 (0, ei_ast elay false 66, 0, 0)) (e_L 66 (0, ei_load 0 2 67, 0, 0))) (e_T 67 (e_L 67 (0, ei_stk ef_dup 68, 0, 0)) (e_L 68 (0, ei_getf eft elay 12 94 71, 0, 0)))))) (e_T 78 (e_T 73 (e_T 71 (e_L 71 (0, ei_push (0, 1) 72, 0, 0)) (e_T 72 (e_L 72 (0, ei_bin eF_add 73, 0, 0)) (e_L 73 (0, ei_putf eft elay 12 94 0 76, 0, 0)))) (e_T 76 (e_L 76 (0, ei_load 0 2 77, 0, 0)) (e_T 77 (e_L 77 (0, ei_load 0 2 78, 0, 0)) (e_L 78 (0, ei_getf eft elay 12 84 81, 0, 0))))) (e_T 85 (e_T 81 (e_L 81 (0, ei_push (0, 1) 82, 0, 0)) (e_T 82 (e_L 82 (0, ei_if2 1 89 85, 0, 0)) (e_L 85 (0, ei_push (0, 1) 86, 0, 0)))) (e_T 89 (e_T 86 (e_L 86 (0, ei_goto 90, 0, 0)) (e_L 89 (0, ei_push (0, 0) 90, 0, 0))) (e_T 90 (e_L 90 (2, e_nof, 334, 2)) (e_L 93 (1, e_nof, 0, 0)))))))
set_option maxRecDepth 20000 in
set_option maxHeartbeats 4000000 in
theorem te_338_26_ok : ∀ pc, e_EOq eft cls elay eI n_338 pc (te_338_26 pc) :=
  (e_Tok2
  (e_Tok2
  (e_Tok2
  (e_Tok2
  (e_Lok (ld_aload_n_0 (x_dk dn_338_0_1_ok 1 rfl)))
  (e_Tok2
  (e_Lok (lk_12_491g ho_338 (x_dk dn_338_0_1_ok 2 rfl)))
  (e_Lok (sm_isub (x_dk dn_338_0_1_ok 3 rfl)))))
  (e_Tok2
  (e_Lok (sm_iastore (x_dk dn_338_0_1_ok 4 rfl)))
  (e_Tok2
  (e_Lok (ld_aload_n_0 (x_dk dn_338_0_1_ok 5 rfl)))
  (e_Lok (lk_12_219g ho_338 (x_dk dn_338_0_1_ok 6 rfl))))))
  (e_Tok2
  (e_Tok2
  (e_Lok (ld_aload_n_0 (x_dk dn_338_0_1_ok 7 rfl)))
  (e_Tok2
  (e_Lok (lk_12_552g ho_338 (x_dk dn_338_0_1_ok 8 rfl)))
  (e_Lok (ld_iload_n_2 (x_dk dn_338_0_1_ok 9 rfl)))))
  (e_Tok2
  (e_Tok2
  (e_Lok (sm_iastore (x_dk dn_338_0_1_ok 10 rfl)))
  (e_Lok (ld_aload_n_0 (x_dk dn_338_0_1_ok 11 rfl))))
  (e_Tok2
  (e_Lok (e_st (I := eI) (er_dup (x_dk dn_338_0_1_ok 12 rfl)) (nx_stk bf_dup)))
  (e_Lok (lk_12_552g ho_338 (x_dk dn_338_0_1_ok 13 rfl)))))))
  (e_Tok2
  (e_Tok2
  (e_Tok2
  (e_Lok (ps_iconst_1 (x_dk dn_338_0_1_ok 14 rfl)))
  (e_Tok2
  (e_Lok (sm_iadd (x_dk dn_338_0_1_ok 15 rfl)))
  (e_Lok (lk_12_552p ho_338 (x_dk dn_338_0_1_ok 16 rfl)))))
  (e_Tok2
  (e_Lok (ld_aload_n_0 (x_dk dn_338_0_1_ok 17 rfl)))
  (e_Tok2
  (e_Lok (ld_aload_n_0 (x_dk dn_338_0_1_ok 18 rfl)))
  (e_Lok (lk_12_497g ho_338 (x_dk dn_338_0_1_ok 19 rfl))))))
  (e_Tok2
  (e_Tok2
  (e_Lok (ps_iconst_1 (x_dk dn_338_0_1_ok 20 rfl)))
  (e_Tok2
  (e_Lok (e_st (I := eI) (er_icmpne (off := 7) (tg := 89) (x_dk dn_338_0_1_ok 21 rfl) (by decide)) nx_if2))
  (e_Lok (ps_iconst_1 (x_dk dn_338_0_1_ok 22 rfl)))))
  (e_Tok2
  (e_Tok2
  (e_Lok (e_st (I := eI) (er_goto (off := 4) (tg := 90) (x_dk dn_338_0_1_ok 23 rfl) (by decide)) nx_goto))
  (e_Lok (ps_iconst_0 (x_dk dn_338_0_1_ok 24 rfl))))
  (e_Tok2
  (e_Lok (lk_12_555 ho_338 (x_dk dn_338_0_2_ok 0 rfl)))
  (e_Lok (e_rt (I := eI) (k := 0) ⟨(x_dk dn_338_0_2_ok 1 rfl), rfl⟩)))))))
def te_338 : Nat → eE := (e_T 47 te_338_0 te_338_26)
theorem te_338_ok : ∀ pc, e_EOq eft cls elay eI n_338 pc (te_338 pc) := (e_Tok2 (te_338_0_ok) (te_338_26_ok))
theorem ho_339 : (xm_y n_339).cls = "RobotCellHouseModel" := rfl
def dn_339_0_0 : List (Nat × Instr × Nat) := [(0, .aload_n 0, 1), (1, .invokevirtual 559, 3), (4, .iconst (-1), 1), (5, .istore_n 1, 1), (6, .aload_n 0, 1), (7, .getfield 530, 3), (10, .ifCond .ne 31, 3), (13, .aload_n 0, 1), (14, .bipush 24, 2), (16, .invokevirtual 562, 3), (19, .ifCond .eq 22, 3), (22, .aload_n 0, 1), (23, .bipush 22, 2), (25, .iload_n 1, 1), (26, .invokevirtual 565, 3), (29, .istore_n 1, 1), (30, .aload_n 0, 1), (31, .invokevirtual 536, 3), (34, .aload_n 0, 1), (35, .invokevirtual 559, 3), (38, .goto (-32), 3), (41, .aload_n 0, 1), (42, .iload_n 1, 1), (43, .invokevirtual 569, 3), (46, .return_, 1)]
set_option maxRecDepth 20000 in
theorem dn_339_0_0_ok : dn_339_0_0.all (fun q => decide (decode (xm_b n_339) q.1 = .ok (q.2.1, q.2.2))) = true := xa_g_ok (by decide +kernel)
def te_339_0 : Nat → eE := (e_T 22 (e_T 7 (e_T 4 (e_T 0 (e_L 0 (0, ei_load 0 2 1, 0, 0)) (e_T 1 (e_L 1 (2, e_nof, 340, 1)) (e_L 4 (0, ei_push (0, (-1)) 5, 0, 0)))) (e_T 5 (e_L 5 (0, ei_stor 1 0 6, 0, 0)) (e_T 6 (e_L 6 (0, ei_load 0 2 7, 0, 0)) (e_L 7 (0, ei_getf eft elay 12 88 10, 0, 0))))) (e_T 14 (e_T 10 (e_L 10 (0, ei_if1 1 41 13, 0, 0)) (e_T 13 (e_L 13 (0, ei_load 0 2 14, 0, 0)) (e_L 14 (0, ei_push (0, 24) 16, 0, 0)))) (e_T 16 (e_L 16 (2, e_nof, 332, 2)) (e_T 19 (e_L 19 (0, ei_if1 0 41 22, 0, 0)) (e_L 22 (0, ei_load 0 2 23, 0, 0)))))) (e_T 31 (e_T 26 (e_T 23 (e_L 23 (0, ei_push (0, 22) 25, 0, 0)) (e_T 25 (e_L 25 (0, ei_load 1 0 26, 0, 0)) (e_L 26 (2, e_nof, 336, 3)))) (e_T 29 (e_L 29 (0, ei_stor 1 0 30, 0, 0)) (e_T 30 (e_L 30 (0, ei_load 0 2 31, 0, 0)) (e_L 31 (2, e_nof, 327, 1))))) (e_T 38 (e_T 34 (e_L 34 (0, ei_load 0 2 35, 0, 0)) (e_T 35 (e_L 35 (2, e_nof, 340, 1)) (e_L 38 (0, ei_goto 6, 0, 0)))) (e_T 42 (e_T 41 (e_L 41 (0, ei_load 0 2 42, 0, 0)) (e_L 42 (0, ei_load 1 0 43, 0, 0))) (e_T 43 (e_L 43 (2, e_nof, 341, 2)) (e_L 46 (1, e_nof, 0, 0)))))))
set_option maxRecDepth 20000 in
set_option maxHeartbeats 4000000 in
theorem te_339_0_ok : ∀ pc, e_EOq eft cls elay eI n_339 pc (te_339_0 pc) :=
  (e_Tok2
  (e_Tok2
  (e_Tok2
  (e_Tok2
  (e_Lok (ld_aload_n_0 (x_dk dn_339_0_0_ok 0 rfl)))
  (e_Tok2
  (e_Lok (lk_12_559 ho_339 (x_dk dn_339_0_0_ok 1 rfl)))
  (e_Lok (ps_iconst_m1 (x_dk dn_339_0_0_ok 2 rfl)))))
  (e_Tok2
  (e_Lok (e_st (I := eI) (er_istore_n (i := 1) (x_dk dn_339_0_0_ok 3 rfl) (by decide +kernel)) nx_stor))
  (e_Tok2
  (e_Lok (ld_aload_n_0 (x_dk dn_339_0_0_ok 4 rfl)))
  (e_Lok (lk_12_530g ho_339 (x_dk dn_339_0_0_ok 5 rfl))))))
  (e_Tok2
  (e_Tok2
  (e_Lok (e_st (I := eI) (er_ifne (off := 31) (tg := 41) (x_dk dn_339_0_0_ok 6 rfl) (by decide)) nx_if1))
  (e_Tok2
  (e_Lok (ld_aload_n_0 (x_dk dn_339_0_0_ok 7 rfl)))
  (e_Lok (ps_bipush_24 (x_dk dn_339_0_0_ok 8 rfl)))))
  (e_Tok2
  (e_Lok (lk_12_562 ho_339 (x_dk dn_339_0_0_ok 9 rfl)))
  (e_Tok2
  (e_Lok (e_st (I := eI) (er_ifeq (off := 22) (tg := 41) (x_dk dn_339_0_0_ok 10 rfl) (by decide)) nx_if1))
  (e_Lok (ld_aload_n_0 (x_dk dn_339_0_0_ok 11 rfl)))))))
  (e_Tok2
  (e_Tok2
  (e_Tok2
  (e_Lok (ps_bipush_22 (x_dk dn_339_0_0_ok 12 rfl)))
  (e_Tok2
  (e_Lok (ld_iload_n_1 (x_dk dn_339_0_0_ok 13 rfl)))
  (e_Lok (lk_12_565 ho_339 (x_dk dn_339_0_0_ok 14 rfl)))))
  (e_Tok2
  (e_Lok (e_st (I := eI) (er_istore_n (i := 1) (x_dk dn_339_0_0_ok 15 rfl) (by decide +kernel)) nx_stor))
  (e_Tok2
  (e_Lok (ld_aload_n_0 (x_dk dn_339_0_0_ok 16 rfl)))
  (e_Lok (lk_12_536 ho_339 (x_dk dn_339_0_0_ok 17 rfl))))))
  (e_Tok2
  (e_Tok2
  (e_Lok (ld_aload_n_0 (x_dk dn_339_0_0_ok 18 rfl)))
  (e_Tok2
  (e_Lok (lk_12_559 ho_339 (x_dk dn_339_0_0_ok 19 rfl)))
  (e_Lok (e_st (I := eI) (er_goto (off := (-32)) (tg := 6) (x_dk dn_339_0_0_ok 20 rfl) (by decide)) nx_goto))))
  (e_Tok2
  (e_Tok2
  (e_Lok (ld_aload_n_0 (x_dk dn_339_0_0_ok 21 rfl)))
  (e_Lok (ld_iload_n_1 (x_dk dn_339_0_0_ok 22 rfl))))
  (e_Tok2
  (e_Lok (lk_12_569 ho_339 (x_dk dn_339_0_0_ok 23 rfl)))
  (e_Lok (e_rt (I := eI) (k := 0) ⟨(x_dk dn_339_0_0_ok 24 rfl), rfl⟩)))))))
def te_339 : Nat → eE := te_339_0
theorem te_339_ok : ∀ pc, e_EOq eft cls elay eI n_339 pc (te_339 pc) := te_339_0_ok
end
