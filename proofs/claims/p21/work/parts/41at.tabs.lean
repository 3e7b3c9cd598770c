noncomputable section
theorem ho_283 : (xm_y n_283).cls = "RobotCellHouseModel" := rfl
def dn_283_0_0 : List (Nat × Instr × Nat) := [(0, .iload_n 1, 1), (1, .iload_n 2, 1), (2, .invokestatic 313, 3), (5, .ifCond .eq 27, 3), (8, .iload_n 3, 1), (9, .i2l, 1), (10, .lconst 0, 1), (11, .ldc2_w 326, 3), (14, .invokestatic 301, 3), (17, .ifCond .eq 15, 3), (20, .aload_n 0, 1), (21, .iconst 0, 1), (22, .iload_n 1, 1), (23, .iload_n 2, 1), (24, .iload_n 3, 1), (25, .iconst 0, 1), (26, .invokevirtual 338, 3), (29, .goto 4, 3), (32, .iconst (-1), 1), (33, .ireturn, 1)]
set_option maxRecDepth 20000 in
theorem dn_283_0_0_ok : dn_283_0_0.all (fun q => decide (decode (xm_b n_283) q.1 = .ok (q.2.1, q.2.2))) = true := xa_g_ok (by decide +kernel)
def te_283_0 : Nat → eE := (e_T 17 (e_T 8 (e_T 1 (e_T 0 (e_L 0 (0, ei_load 1 0 1, 0, 0)) (e_L 1 (0, ei_load 2 0 2, 0, 0))) (e_T 2 (e_L 2 (2, e_nof, 272, 2)) (e_T 5 (e_L 5 (0, ei_if1 0 32 8, 0, 0)) (e_L 8 (0, ei_load 3 0 9, 0, 0))))) (e_T 10 (e_T 9 (e_L 9 (0, ei_un (fun x => (4, x)) 10, 0, 0)) (e_L 10 (0, ei_push (4, 0) 11, 0, 0))) (e_T 11 (e_L 11 (0, ei_push (4, 8000) 14, 0, 0)) (e_T 14 (e_L 14 (2, e_nof, 266, 3)) (e_L 17 (0, ei_if1 0 32 20, 0, 0)))))) (e_T 24 (e_T 21 (e_T 20 (e_L 20 (0, ei_load 0 2 21, 0, 0)) (e_L 21 (0, ei_push (0, 0) 22, 0, 0))) (e_T 22 (e_L 22 (0, ei_load 1 0 23, 0, 0)) (e_T 23 (e_L 23 (0, ei_load 2 0 24, 0, 0)) (e_L 24 (0, ei_load 3 0 25, 0, 0))))) (e_T 26 (e_T 25 (e_L 25 (0, ei_push (0, 0) 26, 0, 0)) (e_L 26 (2, e_nof, 282, 6))) (e_T 29 (e_L 29 (0, ei_goto 33, 0, 0)) (e_T 32 (e_L 32 (0, ei_push (0, (-1)) 33, 0, 0)) (e_L 33 (1, e_nof, 1, 0)))))))
set_option maxRecDepth 20000 in
set_option maxHeartbeats 4000000 in
theorem te_283_0_ok : ∀ pc, e_EOq eft cls elay eI n_283 pc (te_283_0 pc) :=
  (e_Tok2
  (e_Tok2
  (e_Tok2
  (e_Tok2
  (e_Lok (ld_iload_n_1 (x_dk dn_283_0_0_ok 0 rfl)))
  (e_Lok (ld_iload_n_2 (x_dk dn_283_0_0_ok 1 rfl))))
  (e_Tok2
  (e_Lok (lk_12_313 ho_283 (x_dk dn_283_0_0_ok 2 rfl)))
  (e_Tok2
  (e_Lok (e_st (I := eI) (er_ifeq (off := 27) (tg := 32) (x_dk dn_283_0_0_ok 3 rfl) (by decide)) nx_if1))
  (e_Lok (ld_iload_n_3 (x_dk dn_283_0_0_ok 4 rfl))))))
  (e_Tok2
  (e_Tok2
  (e_Lok (e_st (I := eI) (er_i2l (x_dk dn_283_0_0_ok 5 rfl)) (nx_un (fun _ => rfl))))
  (e_Lok (ps_lconst_0 (x_dk dn_283_0_0_ok 6 rfl))))
  (e_Tok2
  (e_Lok (e_st (I := eI) (er_ldc2 (ix := 326) (z := 8000) (v := 8000) (x_dk dn_283_0_0_ok 7 rfl) (in_t11 (List.mem_of_getElem? (i := 17) rfl) rfl) (by decide)) (nx_push (Or.inl rfl))))
  (e_Tok2
  (e_Lok (lk_12_301 ho_283 (x_dk dn_283_0_0_ok 8 rfl)))
  (e_Lok (e_st (I := eI) (er_ifeq (off := 15) (tg := 32) (x_dk dn_283_0_0_ok 9 rfl) (by decide)) nx_if1))))))
  (e_Tok2
  (e_Tok2
  (e_Tok2
  (e_Lok (ld_aload_n_0 (x_dk dn_283_0_0_ok 10 rfl)))
  (e_Lok (ps_iconst_0 (x_dk dn_283_0_0_ok 11 rfl))))
  (e_Tok2
  (e_Lok (ld_iload_n_1 (x_dk dn_283_0_0_ok 12 rfl)))
  (e_Tok2
  (e_Lok (ld_iload_n_2 (x_dk dn_283_0_0_ok 13 rfl)))
  (e_Lok (ld_iload_n_3 (x_dk dn_283_0_0_ok 14 rfl))))))
  (e_Tok2
  (e_Tok2
  (e_Lok (ps_iconst_0 (x_dk dn_283_0_0_ok 15 rfl)))
  (e_Lok (lk_12_338 ho_283 (x_dk dn_283_0_0_ok 16 rfl))))
  (e_Tok2
  (e_Lok (e_st (I := eI) (er_goto (off := 4) (tg := 33) (x_dk dn_283_0_0_ok 17 rfl) (by decide)) nx_goto))
  (e_Tok2
  (e_Lok (ps_iconst_m1 (x_dk dn_283_0_0_ok 18 rfl)))
  (e_Lok (e_rt (I := eI) (k := 1) ⟨(x_dk dn_283_0_0_ok 19 rfl), rfl⟩)))))))
def te_283 : Nat → eE := te_283_0
theorem te_283_ok : ∀ pc, e_EOq eft cls elay eI n_283 pc (te_283 pc) := te_283_0_ok
theorem ho_284 : (xm_y n_284).cls = "RobotCellHouseModel" := rfl
def dn_284_0_0 : List (Nat × Instr × Nat) := [(0, .iload_n 1, 1), (1, .iload_n 2, 1), (2, .iload_n 3, 1), (3, .iload 4, 2), (5, .invokestatic 342, 3), (8, .ifCond .eq 16, 3), (11, .aload_n 0, 1), (12, .iconst 1, 1), (13, .iload_n 1, 1), (14, .iload_n 2, 1), (15, .iload_n 3, 1), (16, .iload 4, 2), (18, .invokevirtual 338, 3), (21, .goto 4, 3), (24, .iconst (-1), 1), (25, .ireturn, 1)]
set_option maxRecDepth 20000 in
theorem dn_284_0_0_ok : dn_284_0_0.all (fun q => decide (decode (xm_b n_284) q.1 = .ok (q.2.1, q.2.2))) = true := xa_g_ok (by decide +kernel)
def te_284_0 : Nat → eE := (e_T 12 (e_T 3 (e_T 1 (e_T 0 (e_L 0 (0, ei_load 1 0 1, 0, 0)) (e_L 1 (0, ei_load 2 0 2, 0, 0))) (e_T 2 (e_L 2 (0, ei_load 3 0 3, 0, 0)) (e_L 3 (0, ei_load 4 0 5, 0, 0)))) (e_T 8 (e_T 5 (e_L 5 (2, e_nof, 273, 4)) (e_L 8 (0, ei_if1 0 24 11, 0, 0))) (e_T 11 (e_L 11 (0, ei_load 0 2 12, 0, 0)) (e_L 12 (0, ei_push (0, 1) 13, 0, 0))))) (e_T 16 (e_T 14 (e_T 13 (e_L 13 (0, ei_load 1 0 14, 0, 0)) (e_L 14 (0, ei_load 2 0 15, 0, 0))) (e_T 15 (e_L 15 (0, ei_load 3 0 16, 0, 0)) (e_L 16 (0, ei_load 4 0 18, 0, 0)))) (e_T 21 (e_T 18 (e_L 18 (2, e_nof, 282, 6)) (e_L 21 (0, ei_goto 25, 0, 0))) (e_T 24 (e_L 24 (0, ei_push (0, (-1)) 25, 0, 0)) (e_L 25 (1, e_nof, 1, 0))))))
set_option maxRecDepth 20000 in
set_option maxHeartbeats 4000000 in
theorem te_284_0_ok : ∀ pc, e_EOq eft cls elay eI n_284 pc (te_284_0 pc) :=
  (e_Tok2
  (e_Tok2
  (e_Tok2
  (e_Tok2
  (e_Lok (ld_iload_n_1 (x_dk dn_284_0_0_ok 0 rfl)))
  (e_Lok (ld_iload_n_2 (x_dk dn_284_0_0_ok 1 rfl))))
  (e_Tok2
  (e_Lok (ld_iload_n_3 (x_dk dn_284_0_0_ok 2 rfl)))
  (e_Lok (ld_iload_4 (x_dk dn_284_0_0_ok 3 rfl)))))
  (e_Tok2
  (e_Tok2
  (e_Lok (lk_12_342 ho_284 (x_dk dn_284_0_0_ok 4 rfl)))
  (e_Lok (e_st (I := eI) (er_ifeq (off := 16) (tg := 24) (x_dk dn_284_0_0_ok 5 rfl) (by decide)) nx_if1)))
  (e_Tok2
  (e_Lok (ld_aload_n_0 (x_dk dn_284_0_0_ok 6 rfl)))
  (e_Lok (ps_iconst_1 (x_dk dn_284_0_0_ok 7 rfl))))))
  (e_Tok2
  (e_Tok2
  (e_Tok2
  (e_Lok (ld_iload_n_1 (x_dk dn_284_0_0_ok 8 rfl)))
  (e_Lok (ld_iload_n_2 (x_dk dn_284_0_0_ok 9 rfl))))
  (e_Tok2
  (e_Lok (ld_iload_n_3 (x_dk dn_284_0_0_ok 10 rfl)))
  (e_Lok (ld_iload_4 (x_dk dn_284_0_0_ok 11 rfl)))))
  (e_Tok2
  (e_Tok2
  (e_Lok (lk_12_338 ho_284 (x_dk dn_284_0_0_ok 12 rfl)))
  (e_Lok (e_st (I := eI) (er_goto (off := 4) (tg := 25) (x_dk dn_284_0_0_ok 13 rfl) (by decide)) nx_goto)))
  (e_Tok2
  (e_Lok (ps_iconst_m1 (x_dk dn_284_0_0_ok 14 rfl)))
  (e_Lok (e_rt (I := eI) (k := 1) ⟨(x_dk dn_284_0_0_ok 15 rfl), rfl⟩))))))
def te_284 : Nat → eE := te_284_0
theorem te_284_ok : ∀ pc, e_EOq eft cls elay eI n_284 pc (te_284 pc) := te_284_0_ok
theorem ho_285 : (xm_y n_285).cls = "RobotCellHouseModel" := rfl
def dn_285_0_0 : List (Nat × Instr × Nat) := [(0, .aload_n 0, 1), (1, .iload_n 1, 1), (2, .invokevirtual 305, 3), (5, .ifCond .eq 31, 3), (8, .iload_n 2, 1), (9, .i2l, 1), (10, .lconst 0, 1), (11, .ldc2_w 346, 3), (14, .invokestatic 301, 3), (17, .ifCond .eq 19, 3), (20, .iload_n 3, 1), (21, .i2l, 1), (22, .lconst 0, 1), (23, .aload_n 0, 1), (24, .getfield 273, 3), (27, .iconst 1, 1), (28, .isub, 1), (29, .i2l, 1), (30, .invokestatic 301, 3), (33, .ifCond .ne 5, 3), (36, .iconst (-1), 1), (37, .ireturn, 1), (38, .aload_n 0, 1), (39, .getfield 265, 3), (42, .ifCond .eq 6, 3)]
set_option maxRecDepth 20000 in
theorem dn_285_0_0_ok : dn_285_0_0.all (fun q => decide (decode (xm_b n_285) q.1 = .ok (q.2.1, q.2.2))) = true := xa_g_ok (by decide +kernel)
def dn_285_0_1 : List (Nat × Instr × Nat) := [(45, .bipush (-2), 2), (47, .ireturn, 1), (48, .bipush 112, 2), (50, .iload_n 1, 1), (51, .imul, 1), (52, .bipush 16, 2), (54, .iload_n 2, 1), (55, .imul, 1), (56, .iadd, 1), (57, .iload_n 3, 1), (58, .iadd, 1), (59, .istore 4, 2), (61, .aload_n 0, 1), (62, .getfield 83, 3), (65, .iload 4, 2), (67, .baload, 1), (68, .ifCond .eq 7, 3), (71, .iconst 0, 1), (72, .goto 4, 3), (75, .iconst 1, 1), (76, .istore 5, 2), (78, .aload_n 0, 1), (79, .getfield 83, 3), (82, .iload 4, 2), (84, .iconst 1, 1)]
set_option maxRecDepth 20000 in
theorem dn_285_0_1_ok : dn_285_0_1.all (fun q => decide (decode (xm_b n_285) q.1 = .ok (q.2.1, q.2.2))) = true := xa_g_ok (by decide +kernel)
def dn_285_0_2 : List (Nat × Instr × Nat) := [(85, .bastore, 1), (86, .iload 5, 2), (88, .ireturn, 1)]
set_option maxRecDepth 20000 in
theorem dn_285_0_2_ok : dn_285_0_2.all (fun q => decide (decode (xm_b n_285) q.1 = .ok (q.2.1, q.2.2))) = true := xa_g_ok (by decide +kernel)
def te_285_0 : Nat → eE := (e_T 22 (e_T 9 (e_T 2 (e_T 0 (e_L 0 (0, ei_load 0 2 1, 0, 0)) (e_T 1 (e_L 1 (0, ei_load 1 0 2, 0, 0)) (e_L 2 (2, e_nof, 270, 2)))) (e_T 5 (e_L 5 (0, ei_if1 0 36 8, 0, 0)) (e_T 8 (e_L 8 (0, ei_load 2 0 9, 0, 0)) (e_L 9 (0, ei_un (fun x => (4, x)) 10, 0, 0))))) (e_T 14 (e_T 10 (e_L 10 (0, ei_push (4, 0) 11, 0, 0)) (e_T 11 (e_L 11 (0, ei_push (4, 6) 14, 0, 0)) (e_L 14 (2, e_nof, 266, 3)))) (e_T 20 (e_T 17 (e_L 17 (0, ei_if1 0 36 20, 0, 0)) (e_L 20 (0, ei_load 3 0 21, 0, 0))) (e_T 21 (e_L 21 (0, ei_un (fun x => (4, x)) 22, 0, 0)) (e_L 22 (0, ei_push (4, 0) 23, 0, 0)))))) (e_T 30 (e_T 27 (e_T 23 (e_L 23 (0, ei_load 0 2 24, 0, 0)) (e_T 24 (e_L 24 (0, ei_getf eft elay 12 23 27, 0, 0)) (e_L 27 (0, ei_push (0, 1) 28, 0, 0)))) (e_T 28 (e_L 28 (0, ei_bin eF_sub 29, 0, 0)) (e_T 29 (e_L 29 (0, ei_un (fun x => (4, x)) 30, 0, 0)) (e_L 30 (2, e_nof, 266, 3))))) (e_T 37 (e_T 33 (e_L 33 (0, ei_if1 1 38 36, 0, 0)) (e_T 36 (e_L 36 (0, ei_push (0, (-1)) 37, 0, 0)) (e_L 37 (1, e_nof, 1, 0)))) (e_T 39 (e_T 38 (e_L 38 (0, ei_load 0 2 39, 0, 0)) (e_L 39 (0, ei_getf eft elay 12 3 42, 0, 0))) (e_T 42 (e_L 42 (0, ei_if1 0 48 45, 0, 0)) (e_L 45 (0, ei_push (0, (-2)) 47, 0, 0)))))))
set_option maxRecDepth 20000 in
set_option maxHeartbeats 4000000 in
theorem te_285_0_ok : ∀ pc, e_EOq eft cls elay eI n_285 pc (te_285_0 pc) :=
  (e_Tok2
  (e_Tok2
  (e_Tok2
  (e_Tok2
  (e_Lok (ld_aload_n_0 (x_dk dn_285_0_0_ok 0 rfl)))
  (e_Tok2
  (e_Lok (ld_iload_n_1 (x_dk dn_285_0_0_ok 1 rfl)))
  (e_Lok (lk_12_305 ho_285 (x_dk dn_285_0_0_ok 2 rfl)))))
  (e_Tok2
  (e_Lok (e_st (I := eI) (er_ifeq (off := 31) (tg := 36) (x_dk dn_285_0_0_ok 3 rfl) (by decide)) nx_if1))
  (e_Tok2
  (e_Lok (ld_iload_n_2 (x_dk dn_285_0_0_ok 4 rfl)))
  (e_Lok (e_st (I := eI) (er_i2l (x_dk dn_285_0_0_ok 5 rfl)) (nx_un (fun _ => rfl)))))))
  (e_Tok2
  (e_Tok2
  (e_Lok (ps_lconst_0 (x_dk dn_285_0_0_ok 6 rfl)))
  (e_Tok2
  (e_Lok (e_st (I := eI) (er_ldc2 (ix := 346) (z := 6) (v := 6) (x_dk dn_285_0_0_ok 7 rfl) (in_t11 (List.mem_of_getElem? (i := 66) rfl) rfl) (by decide)) (nx_push (Or.inl rfl))))
  (e_Lok (lk_12_301 ho_285 (x_dk dn_285_0_0_ok 8 rfl)))))
  (e_Tok2
  (e_Tok2
  (e_Lok (e_st (I := eI) (er_ifeq (off := 19) (tg := 36) (x_dk dn_285_0_0_ok 9 rfl) (by decide)) nx_if1))
  (e_Lok (ld_iload_n_3 (x_dk dn_285_0_0_ok 10 rfl))))
  (e_Tok2
  (e_Lok (e_st (I := eI) (er_i2l (x_dk dn_285_0_0_ok 11 rfl)) (nx_un (fun _ => rfl))))
  (e_Lok (ps_lconst_0 (x_dk dn_285_0_0_ok 12 rfl)))))))
  (e_Tok2
  (e_Tok2
  (e_Tok2
  (e_Lok (ld_aload_n_0 (x_dk dn_285_0_0_ok 13 rfl)))
  (e_Tok2
  (e_Lok (lk_12_273g ho_285 (x_dk dn_285_0_0_ok 14 rfl)))
  (e_Lok (ps_iconst_1 (x_dk dn_285_0_0_ok 15 rfl)))))
  (e_Tok2
  (e_Lok (sm_isub (x_dk dn_285_0_0_ok 16 rfl)))
  (e_Tok2
  (e_Lok (e_st (I := eI) (er_i2l (x_dk dn_285_0_0_ok 17 rfl)) (nx_un (fun _ => rfl))))
  (e_Lok (lk_12_301 ho_285 (x_dk dn_285_0_0_ok 18 rfl))))))
  (e_Tok2
  (e_Tok2
  (e_Lok (e_st (I := eI) (er_ifne (off := 5) (tg := 38) (x_dk dn_285_0_0_ok 19 rfl) (by decide)) nx_if1))
  (e_Tok2
  (e_Lok (ps_iconst_m1 (x_dk dn_285_0_0_ok 20 rfl)))
  (e_Lok (e_rt (I := eI) (k := 1) ⟨(x_dk dn_285_0_0_ok 21 rfl), rfl⟩))))
  (e_Tok2
  (e_Tok2
  (e_Lok (ld_aload_n_0 (x_dk dn_285_0_0_ok 22 rfl)))
  (e_Lok (lk_12_265g ho_285 (x_dk dn_285_0_0_ok 23 rfl))))
  (e_Tok2
  (e_Lok (e_st (I := eI) (er_ifeq (off := 6) (tg := 48) (x_dk dn_285_0_0_ok 24 rfl) (by decide)) nx_if1))
  (e_Lok (ps_bipush_m2 (x_dk dn_285_0_1_ok 0 rfl))))))))
def te_285_26 : Nat → eE := (e_T 62 (e_T 54 (e_T 50 (e_T 47 (e_L 47 (1, e_nof, 1, 0)) (e_T 48 (e_L 48 (0, ei_push (0, 112) 50, 0, 0)) (e_L 50 (0, ei_load 1 0 51, 0, 0)))) (e_T 51 (e_L 51 (0, ei_bin eF_mul 52, 0, 0)) (e_T 52 (e_L 52 (0, ei_push (0, 16) 54, 0, 0)) (e_L 54 (0, ei_load 2 0 55, 0, 0))))) (e_T 57 (e_T 55 (e_L 55 (0, ei_bin eF_mul 56, 0, 0)) (e_T 56 (e_L 56 (0, ei_bin eF_add 57, 0, 0)) (e_L 57 (0, ei_load 3 0 58, 0, 0)))) (e_T 59 (e_T 58 (e_L 58 (0, ei_bin eF_add 59, 0, 0)) (e_L 59 (0, ei_stor 4 0 61, 0, 0))) (e_T 61 (e_L 61 (0, ei_load 0 2 62, 0, 0)) (e_L 62 (0, ei_getf eft elay 12 29 65, 0, 0)))))) (e_T 76 (e_T 68 (e_T 65 (e_L 65 (0, ei_load 4 0 67, 0, 0)) (e_T 67 (e_L 67 (0, ei_ald elay true 68, 0, 0)) (e_L 68 (0, ei_if1 0 75 71, 0, 0)))) (e_T 72 (e_T 71 (e_L 71 (0, ei_push (0, 0) 72, 0, 0)) (e_L 72 (0, ei_goto 76, 0, 0))) (e_T 75 (e_L 75 (0, ei_push (0, 1) 76, 0, 0)) (e_L 76 (0, ei_stor 5 0 78, 0, 0))))) (e_T 82 (e_T 78 (e_L 78 (0, ei_load 0 2 79, 0, 0)) (e_T 79 (e_L 79 (0, ei_getf eft elay 12 29 82, 0, 0)) (e_L 82 (0, ei_load 4 0 84, 0, 0)))) (e_T 85 (e_T 84 (e_L 84 (0, ei_push (0, 1) 85, 0, 0)) (e_L 85 (0, ei_ast elay true 86, 0, 0))) (e_T 86 (e_L 86 (0, ei_load 5 0 88, 0, 0)) (e_L 88 (1, e_nof, 1, 0)))))))
set_option maxRecDepth 20000 in
set_option maxHeartbeats 4000000 in
theorem te_285_26_ok : ∀ pc, e_EOq eft cls elay eI n_285 pc (te_285_26 pc) :=
  (e_Tok2
  (e_Tok2
  (e_Tok2
  (e_Tok2
  (e_Lok (e_rt (I := eI) (k := 1) ⟨(x_dk dn_285_0_1_ok 1 rfl), rfl⟩))
  (e_Tok2
  (e_Lok (ps_bipush_112 (x_dk dn_285_0_1_ok 2 rfl)))
  (e_Lok (ld_iload_n_1 (x_dk dn_285_0_1_ok 3 rfl)))))
  (e_Tok2
  (e_Lok (sm_imul (x_dk dn_285_0_1_ok 4 rfl)))
  (e_Tok2
  (e_Lok (ps_bipush_16 (x_dk dn_285_0_1_ok 5 rfl)))
  (e_Lok (ld_iload_n_2 (x_dk dn_285_0_1_ok 6 rfl))))))
  (e_Tok2
  (e_Tok2
  (e_Lok (sm_imul (x_dk dn_285_0_1_ok 7 rfl)))
  (e_Tok2
  (e_Lok (sm_iadd (x_dk dn_285_0_1_ok 8 rfl)))
  (e_Lok (ld_iload_n_3 (x_dk dn_285_0_1_ok 9 rfl)))))
  (e_Tok2
  (e_Tok2
  (e_Lok (sm_iadd (x_dk dn_285_0_1_ok 10 rfl)))
  (e_Lok (e_st (I := eI) (er_istore (i := 4) (x_dk dn_285_0_1_ok 11 rfl) (by decide +kernel)) nx_stor)))
  (e_Tok2
  (e_Lok (ld_aload_n_0 (x_dk dn_285_0_1_ok 12 rfl)))
  (e_Lok (lk_12_83g ho_285 (x_dk dn_285_0_1_ok 13 rfl)))))))
  (e_Tok2
  (e_Tok2
  (e_Tok2
  (e_Lok (ld_iload_4 (x_dk dn_285_0_1_ok 14 rfl)))
  (e_Tok2
  (e_Lok (e_st (I := eI) (er_baload (x_dk dn_285_0_1_ok 15 rfl)) nx_ald))
  (e_Lok (e_st (I := eI) (er_ifeq (off := 7) (tg := 75) (x_dk dn_285_0_1_ok 16 rfl) (by decide)) nx_if1))))
  (e_Tok2
  (e_Tok2
  (e_Lok (ps_iconst_0 (x_dk dn_285_0_1_ok 17 rfl)))
  (e_Lok (e_st (I := eI) (er_goto (off := 4) (tg := 76) (x_dk dn_285_0_1_ok 18 rfl) (by decide)) nx_goto)))
  (e_Tok2
  (e_Lok (ps_iconst_1 (x_dk dn_285_0_1_ok 19 rfl)))
  (e_Lok (e_st (I := eI) (er_istore (i := 5) (x_dk dn_285_0_1_ok 20 rfl) (by decide +kernel)) nx_stor)))))
  (e_Tok2
  (e_Tok2
  (e_Lok (ld_aload_n_0 (x_dk dn_285_0_1_ok 21 rfl)))
  (e_Tok2
  (e_Lok (lk_12_83g ho_285 (x_dk dn_285_0_1_ok 22 rfl)))
  (e_Lok (ld_iload_4 (x_dk dn_285_0_1_ok 23 rfl)))))
  (e_Tok2
  (e_Tok2
  (e_Lok (ps_iconst_1 (x_dk dn_285_0_1_ok 24 rfl)))
  (e_Lok (e_st (I := eI) (er_bastore (x_dk dn_285_0_2_ok 0 rfl)) nx_ast)))
  (e_Tok2
  (e_Lok (ld_iload_5 (x_dk dn_285_0_2_ok 1 rfl)))
  (e_Lok (e_rt (I := eI) (k := 1) ⟨(x_dk dn_285_0_2_ok 2 rfl), rfl⟩)))))))
def te_285 : Nat → eE := (e_T 45 te_285_0 te_285_26)
theorem te_285_ok : ∀ pc, e_EOq eft cls elay eI n_285 pc (te_285 pc) := (e_Tok2 (te_285_0_ok) (te_285_26_ok))
theorem ho_286 : (xm_y n_286).cls = "RobotCellHouseModel" := rfl
def dn_286_0_0 : List (Nat × Instr × Nat) := [(0, .iload_n 1, 1), (1, .iload_n 2, 1), (2, .invokestatic 313, 3), (5, .ifCond .eq 41, 3), (8, .iload_n 3, 1), (9, .i2l, 1), (10, .lconst 0, 1), (11, .ldc2_w 348, 3), (14, .invokestatic 301, 3), (17, .ifCond .eq 29, 3), (20, .iload 4, 2), (22, .i2l, 1), (23, .lconst 0, 1), (24, .ldc2_w 311, 3), (27, .invokestatic 301, 3), (30, .ifCond .eq 16, 3), (33, .iload 5, 2), (35, .i2l, 1), (36, .lconst 0, 1), (37, .ldc2_w 336, 3), (40, .invokestatic 301, 3), (43, .ifCond .ne 5, 3), (46, .iconst (-1), 1), (47, .ireturn, 1), (48, .iload_n 3, 1)]
set_option maxRecDepth 20000 in
theorem dn_286_0_0_ok : dn_286_0_0.all (fun q => decide (decode (xm_b n_286) q.1 = .ok (q.2.1, q.2.2))) = true := xa_g_ok (by decide +kernel)
def dn_286_0_1 : List (Nat × Instr × Nat) := [(49, .iconst 2, 1), (50, .if_icmp .ge 8, 3), (53, .iload 4, 2), (55, .goto 6, 3), (58, .iload 4, 2), (60, .ineg, 1), (61, .istore 6, 2), (63, .iload_n 3, 1), (64, .iconst 2, 1), (65, .irem, 1), (66, .ifCond .ne 10, 3), (69, .iload_n 1, 1), (70, .iload 6, 2), (72, .iadd, 1), (73, .goto 4, 3), (76, .iload_n 1, 1), (77, .iload_n 3, 1), (78, .iconst 2, 1), (79, .irem, 1), (80, .ifCond .ne 7, 3), (83, .iload_n 2, 1), (84, .goto 7, 3), (87, .iload_n 2, 1), (88, .iload 6, 2), (90, .iadd, 1)]
set_option maxRecDepth 20000 in
theorem dn_286_0_1_ok : dn_286_0_1.all (fun q => decide (decode (xm_b n_286) q.1 = .ok (q.2.1, q.2.2))) = true := xa_g_ok (by decide +kernel)
def dn_286_0_2 : List (Nat × Instr × Nat) := [(91, .invokestatic 313, 3), (94, .ifCond .ne 5, 3), (97, .iconst (-1), 1), (98, .ireturn, 1), (99, .aload_n 0, 1), (100, .getfield 265, 3), (103, .ifCond .eq 6, 3), (106, .bipush (-2), 2), (108, .ireturn, 1), (109, .aload_n 0, 1), (110, .getfield 276, 3), (113, .iconst 4, 1), (114, .if_icmp .ne 6, 3), (117, .bipush (-3), 2), (119, .ireturn, 1), (120, .aload_n 0, 1), (121, .getfield 86, 3), (124, .aload_n 0, 1), (125, .getfield 276, 3), (128, .iload_n 1, 1), (129, .iastore, 1), (130, .aload_n 0, 1), (131, .getfield 89, 3), (134, .aload_n 0, 1), (135, .getfield 276, 3)]
set_option maxRecDepth 20000 in
theorem dn_286_0_2_ok : dn_286_0_2.all (fun q => decide (decode (xm_b n_286) q.1 = .ok (q.2.1, q.2.2))) = true := xa_g_ok (by decide +kernel)
def dn_286_0_3 : List (Nat × Instr × Nat) := [(138, .iload_n 2, 1), (139, .iastore, 1), (140, .aload_n 0, 1), (141, .getfield 92, 3), (144, .aload_n 0, 1), (145, .getfield 276, 3), (148, .iload_n 3, 1), (149, .iastore, 1), (150, .aload_n 0, 1), (151, .getfield 95, 3), (154, .aload_n 0, 1), (155, .getfield 276, 3), (158, .iload 4, 2), (160, .iastore, 1), (161, .aload_n 0, 1), (162, .getfield 98, 3), (165, .aload_n 0, 1), (166, .getfield 276, 3), (169, .iconst 0, 1), (170, .iastore, 1), (171, .aload_n 0, 1), (172, .getfield 104, 3), (175, .aload_n 0, 1), (176, .getfield 276, 3), (179, .iconst (-1), 1)]
set_option maxRecDepth 20000 in
theorem dn_286_0_3_ok : dn_286_0_3.all (fun q => decide (decode (xm_b n_286) q.1 = .ok (q.2.1, q.2.2))) = true := xa_g_ok (by decide +kernel)
def dn_286_1_0 : List (Nat × Instr × Nat) := [(180, .iastore, 1), (181, .aload_n 0, 1), (182, .getfield 101, 3), (185, .aload_n 0, 1), (186, .getfield 276, 3), (189, .iload 5, 2), (191, .iastore, 1), (192, .aload_n 0, 1), (193, .dup, 1), (194, .getfield 276, 3), (197, .iconst 1, 1), (198, .iadd, 1), (199, .putfield 276, 3), (202, .aload_n 0, 1), (203, .getfield 276, 3), (206, .iconst 1, 1), (207, .isub, 1), (208, .ireturn, 1)]
set_option maxRecDepth 20000 in
theorem dn_286_1_0_ok : dn_286_1_0.all (fun q => decide (decode (xm_b n_286) q.1 = .ok (q.2.1, q.2.2))) = true := xa_g_ok (by decide +kernel)
def te_286_0 : Nat → eE := (e_T 24 (e_T 10 (e_T 2 (e_T 0 (e_L 0 (0, ei_load 1 0 1, 0, 0)) (e_T 1 (e_L 1 (0, ei_load 2 0 2, 0, 0)) (e_L 2 (2, e_nof, 272, 2)))) (e_T 8 (e_T 5 (e_L 5 (0, ei_if1 0 46 8, 0, 0)) (e_L 8 (0, ei_load 3 0 9, 0, 0))) (e_T 9 (e_L 9 (0, ei_un (fun x => (4, x)) 10, 0, 0)) (e_L 10 (0, ei_push (4, 0) 11, 0, 0))))) (e_T 17 (e_T 11 (e_L 11 (0, ei_push (4, 3) 14, 0, 0)) (e_T 14 (e_L 14 (2, e_nof, 266, 3)) (e_L 17 (0, ei_if1 0 46 20, 0, 0)))) (e_T 22 (e_T 20 (e_L 20 (0, ei_load 4 0 22, 0, 0)) (e_L 22 (0, ei_un (fun x => (4, x)) 23, 0, 0))) (e_T 23 (e_L 23 (0, ei_push (4, 0) 24, 0, 0)) (e_L 24 (0, ei_push (4, 16000) 27, 0, 0)))))) (e_T 40 (e_T 33 (e_T 27 (e_L 27 (2, e_nof, 266, 3)) (e_T 30 (e_L 30 (0, ei_if1 0 46 33, 0, 0)) (e_L 33 (0, ei_load 5 0 35, 0, 0)))) (e_T 36 (e_T 35 (e_L 35 (0, ei_un (fun x => (4, x)) 36, 0, 0)) (e_L 36 (0, ei_push (4, 0) 37, 0, 0))) (e_T 37 (e_L 37 (0, ei_push (4, 2000) 40, 0, 0)) (e_L 40 (2, e_nof, 266, 3))))) (e_T 48 (e_T 46 (e_T 43 (e_L 43 (0, ei_if1 1 48 46, 0, 0)) (e_L 46 (0, ei_push (0, (-1)) 47, 0, 0))) (e_T 47 (e_L 47 (1, e_nof, 1, 0)) (e_L 48 (0, ei_load 3 0 49, 0, 0)))) (e_T 50 (e_T 49 (e_L 49 (0, ei_push (0, 2) 50, 0, 0)) (e_L 50 (0, ei_if2 3 58 53, 0, 0))) (e_T 53 (e_L 53 (0, ei_load 4 0 55, 0, 0)) (e_L 55 (0, ei_goto 61, 0, 0)))))))
set_option maxRecDepth 20000 in
set_option maxHeartbeats 4000000 in
theorem te_286_0_ok : ∀ pc, e_EOq eft cls elay eI n_286 pc (te_286_0 pc) :=
  (e_Tok2
  (e_Tok2
  (e_Tok2
  (e_Tok2
  (e_Lok (ld_iload_n_1 (x_dk dn_286_0_0_ok 0 rfl)))
  (e_Tok2
  (e_Lok (ld_iload_n_2 (x_dk dn_286_0_0_ok 1 rfl)))
  (e_Lok (lk_12_313 ho_286 (x_dk dn_286_0_0_ok 2 rfl)))))
  (e_Tok2
  (e_Tok2
  (e_Lok (e_st (I := eI) (er_ifeq (off := 41) (tg := 46) (x_dk dn_286_0_0_ok 3 rfl) (by decide)) nx_if1))
  (e_Lok (ld_iload_n_3 (x_dk dn_286_0_0_ok 4 rfl))))
  (e_Tok2
  (e_Lok (e_st (I := eI) (er_i2l (x_dk dn_286_0_0_ok 5 rfl)) (nx_un (fun _ => rfl))))
  (e_Lok (ps_lconst_0 (x_dk dn_286_0_0_ok 6 rfl))))))
  (e_Tok2
  (e_Tok2
  (e_Lok (e_st (I := eI) (er_ldc2 (ix := 348) (z := 3) (v := 3) (x_dk dn_286_0_0_ok 7 rfl) (in_t11 (List.mem_of_getElem? (i := 71) rfl) rfl) (by decide)) (nx_push (Or.inl rfl))))
  (e_Tok2
  (e_Lok (lk_12_301 ho_286 (x_dk dn_286_0_0_ok 8 rfl)))
  (e_Lok (e_st (I := eI) (er_ifeq (off := 29) (tg := 46) (x_dk dn_286_0_0_ok 9 rfl) (by decide)) nx_if1))))
  (e_Tok2
  (e_Tok2
  (e_Lok (ld_iload_4 (x_dk dn_286_0_0_ok 10 rfl)))
  (e_Lok (e_st (I := eI) (er_i2l (x_dk dn_286_0_0_ok 11 rfl)) (nx_un (fun _ => rfl)))))
  (e_Tok2
  (e_Lok (ps_lconst_0 (x_dk dn_286_0_0_ok 12 rfl)))
  (e_Lok (e_st (I := eI) (er_ldc2 (ix := 311) (z := 16000) (v := 16000) (x_dk dn_286_0_0_ok 13 rfl) (in_t11 (List.mem_of_getElem? (i := 50) rfl) rfl) (by decide)) (nx_push (Or.inl rfl))))))))
  (e_Tok2
  (e_Tok2
  (e_Tok2
  (e_Lok (lk_12_301 ho_286 (x_dk dn_286_0_0_ok 14 rfl)))
  (e_Tok2
  (e_Lok (e_st (I := eI) (er_ifeq (off := 16) (tg := 46) (x_dk dn_286_0_0_ok 15 rfl) (by decide)) nx_if1))
  (e_Lok (ld_iload_5 (x_dk dn_286_0_0_ok 16 rfl)))))
  (e_Tok2
  (e_Tok2
  (e_Lok (e_st (I := eI) (er_i2l (x_dk dn_286_0_0_ok 17 rfl)) (nx_un (fun _ => rfl))))
  (e_Lok (ps_lconst_0 (x_dk dn_286_0_0_ok 18 rfl))))
  (e_Tok2
  (e_Lok (e_st (I := eI) (er_ldc2 (ix := 336) (z := 2000) (v := 2000) (x_dk dn_286_0_0_ok 19 rfl) (in_t11 (List.mem_of_getElem? (i := 41) rfl) rfl) (by decide)) (nx_push (Or.inl rfl))))
  (e_Lok (lk_12_301 ho_286 (x_dk dn_286_0_0_ok 20 rfl))))))
  (e_Tok2
  (e_Tok2
  (e_Tok2
  (e_Lok (e_st (I := eI) (er_ifne (off := 5) (tg := 48) (x_dk dn_286_0_0_ok 21 rfl) (by decide)) nx_if1))
  (e_Lok (ps_iconst_m1 (x_dk dn_286_0_0_ok 22 rfl))))
  (e_Tok2
  (e_Lok (e_rt (I := eI) (k := 1) ⟨(x_dk dn_286_0_0_ok 23 rfl), rfl⟩))
  (e_Lok (ld_iload_n_3 (x_dk dn_286_0_0_ok 24 rfl)))))
  (e_Tok2
  (e_Tok2
  (e_Lok (ps_iconst_2 (x_dk dn_286_0_1_ok 0 rfl)))
  (e_Lok (e_st (I := eI) (er_icmpge (off := 8) (tg := 58) (x_dk dn_286_0_1_ok 1 rfl) (by decide)) nx_if2)))
  (e_Tok2
  (e_Lok (ld_iload_4 (x_dk dn_286_0_1_ok 2 rfl)))
  (e_Lok (e_st (I := eI) (er_goto (off := 6) (tg := 61) (x_dk dn_286_0_1_ok 3 rfl) (by decide)) nx_goto)))))))
def te_286_29 : Nat → eE := (e_T 79 (e_T 66 (e_T 61 (e_T 58 (e_L 58 (0, ei_load 4 0 60, 0, 0)) (e_T 60 (e_L 60 (0, ei_un (fun x => (0, e32 (-x))) 61, 0, 0)) (e_L 61 (0, ei_stor 6 0 63, 0, 0)))) (e_T 64 (e_T 63 (e_L 63 (0, ei_load 3 0 64, 0, 0)) (e_L 64 (0, ei_push (0, 2) 65, 0, 0))) (e_T 65 (e_L 65 (0, ei_bin eF_rem 66, 0, 0)) (e_L 66 (0, ei_if1 1 76 69, 0, 0))))) (e_T 73 (e_T 70 (e_T 69 (e_L 69 (0, ei_load 1 0 70, 0, 0)) (e_L 70 (0, ei_load 6 0 72, 0, 0))) (e_T 72 (e_L 72 (0, ei_bin eF_add 73, 0, 0)) (e_L 73 (0, ei_goto 77, 0, 0)))) (e_T 77 (e_T 76 (e_L 76 (0, ei_load 1 0 77, 0, 0)) (e_L 77 (0, ei_load 3 0 78, 0, 0))) (e_T 78 (e_L 78 (0, ei_push (0, 2) 79, 0, 0)) (e_L 79 (0, ei_bin eF_rem 80, 0, 0)))))) (e_T 91 (e_T 84 (e_T 80 (e_L 80 (0, ei_if1 1 87 83, 0, 0)) (e_T 83 (e_L 83 (0, ei_load 2 0 84, 0, 0)) (e_L 84 (0, ei_goto 91, 0, 0)))) (e_T 88 (e_T 87 (e_L 87 (0, ei_load 2 0 88, 0, 0)) (e_L 88 (0, ei_load 6 0 90, 0, 0))) (e_T 90 (e_L 90 (0, ei_bin eF_add 91, 0, 0)) (e_L 91 (2, e_nof, 272, 2))))) (e_T 99 (e_T 97 (e_T 94 (e_L 94 (0, ei_if1 1 99 97, 0, 0)) (e_L 97 (0, ei_push (0, (-1)) 98, 0, 0))) (e_T 98 (e_L 98 (1, e_nof, 1, 0)) (e_L 99 (0, ei_load 0 2 100, 0, 0)))) (e_T 103 (e_T 100 (e_L 100 (0, ei_getf eft elay 12 3 103, 0, 0)) (e_L 103 (0, ei_if1 0 109 106, 0, 0))) (e_T 106 (e_L 106 (0, ei_push (0, (-2)) 108, 0, 0)) (e_L 108 (1, e_nof, 1, 0)))))))
set_option maxRecDepth 20000 in
set_option maxHeartbeats 4000000 in
theorem te_286_29_ok : ∀ pc, e_EOq eft cls elay eI n_286 pc (te_286_29 pc) :=
  (e_Tok2
  (e_Tok2
  (e_Tok2
  (e_Tok2
  (e_Lok (ld_iload_4 (x_dk dn_286_0_1_ok 4 rfl)))
  (e_Tok2
  (e_Lok (e_st (I := eI) (er_ineg (x_dk dn_286_0_1_ok 5 rfl)) (nx_un (fun _ => rfl))))
  (e_Lok (e_st (I := eI) (er_istore (i := 6) (x_dk dn_286_0_1_ok 6 rfl) (by decide +kernel)) nx_stor))))
  (e_Tok2
  (e_Tok2
  (e_Lok (ld_iload_n_3 (x_dk dn_286_0_1_ok 7 rfl)))
  (e_Lok (ps_iconst_2 (x_dk dn_286_0_1_ok 8 rfl))))
  (e_Tok2
  (e_Lok (e_st (I := eI) (er_irem (x_dk dn_286_0_1_ok 9 rfl)) nx_bin))
  (e_Lok (e_st (I := eI) (er_ifne (off := 10) (tg := 76) (x_dk dn_286_0_1_ok 10 rfl) (by decide)) nx_if1)))))
  (e_Tok2
  (e_Tok2
  (e_Tok2
  (e_Lok (ld_iload_n_1 (x_dk dn_286_0_1_ok 11 rfl)))
  (e_Lok (ld_iload_6 (x_dk dn_286_0_1_ok 12 rfl))))
  (e_Tok2
  (e_Lok (sm_iadd (x_dk dn_286_0_1_ok 13 rfl)))
  (e_Lok (e_st (I := eI) (er_goto (off := 4) (tg := 77) (x_dk dn_286_0_1_ok 14 rfl) (by decide)) nx_goto))))
  (e_Tok2
  (e_Tok2
  (e_Lok (ld_iload_n_1 (x_dk dn_286_0_1_ok 15 rfl)))
  (e_Lok (ld_iload_n_3 (x_dk dn_286_0_1_ok 16 rfl))))
  (e_Tok2
  (e_Lok (ps_iconst_2 (x_dk dn_286_0_1_ok 17 rfl)))
  (e_Lok (e_st (I := eI) (er_irem (x_dk dn_286_0_1_ok 18 rfl)) nx_bin))))))
  (e_Tok2
  (e_Tok2
  (e_Tok2
  (e_Lok (e_st (I := eI) (er_ifne (off := 7) (tg := 87) (x_dk dn_286_0_1_ok 19 rfl) (by decide)) nx_if1))
  (e_Tok2
  (e_Lok (ld_iload_n_2 (x_dk dn_286_0_1_ok 20 rfl)))
  (e_Lok (e_st (I := eI) (er_goto (off := 7) (tg := 91) (x_dk dn_286_0_1_ok 21 rfl) (by decide)) nx_goto))))
  (e_Tok2
  (e_Tok2
  (e_Lok (ld_iload_n_2 (x_dk dn_286_0_1_ok 22 rfl)))
  (e_Lok (ld_iload_6 (x_dk dn_286_0_1_ok 23 rfl))))
  (e_Tok2
  (e_Lok (sm_iadd (x_dk dn_286_0_1_ok 24 rfl)))
  (e_Lok (lk_12_313 ho_286 (x_dk dn_286_0_2_ok 0 rfl))))))
  (e_Tok2
  (e_Tok2
  (e_Tok2
  (e_Lok (e_st (I := eI) (er_ifne (off := 5) (tg := 99) (x_dk dn_286_0_2_ok 1 rfl) (by decide)) nx_if1))
  (e_Lok (ps_iconst_m1 (x_dk dn_286_0_2_ok 2 rfl))))
  (e_Tok2
  (e_Lok (e_rt (I := eI) (k := 1) ⟨(x_dk dn_286_0_2_ok 3 rfl), rfl⟩))
  (e_Lok (ld_aload_n_0 (x_dk dn_286_0_2_ok 4 rfl)))))
  (e_Tok2
  (e_Tok2
  (e_Lok (lk_12_265g ho_286 (x_dk dn_286_0_2_ok 5 rfl)))
  (e_Lok (e_st (I := eI) (er_ifeq (off := 6) (tg := 109) (x_dk dn_286_0_2_ok 6 rfl) (by decide)) nx_if1)))
  (e_Tok2
  (e_Lok (ps_bipush_m2 (x_dk dn_286_0_2_ok 7 rfl)))
  (e_Lok (e_rt (I := eI) (k := 1) ⟨(x_dk dn_286_0_2_ok 8 rfl), rfl⟩)))))))
def te_286_59 : Nat → eE := (e_T 131 (e_T 120 (e_T 113 (e_T 109 (e_L 109 (0, ei_load 0 2 110, 0, 0)) (e_T 110 (e_L 110 (0, ei_getf eft elay 12 30 113, 0, 0)) (e_L 113 (0, ei_push (0, 4) 114, 0, 0)))) (e_T 117 (e_T 114 (e_L 114 (0, ei_if2 1 120 117, 0, 0)) (e_L 117 (0, ei_push (0, (-3)) 119, 0, 0))) (e_T 119 (e_L 119 (1, e_nof, 1, 0)) (e_L 120 (0, ei_load 0 2 121, 0, 0))))) (e_T 125 (e_T 121 (e_L 121 (0, ei_getf eft elay 12 31 124, 0, 0)) (e_T 124 (e_L 124 (0, ei_load 0 2 125, 0, 0)) (e_L 125 (0, ei_getf eft elay 12 30 128, 0, 0)))) (e_T 129 (e_T 128 (e_L 128 (0, ei_load 1 0 129, 0, 0)) (e_L 129 (0, ei_ast elay false 130, 0, 0))) (e_T 130 (e_L 130 (0, ei_load 0 2 131, 0, 0)) (e_L 131 (0, ei_getf eft elay 12 32 134, 0, 0)))))) (e_T 144 (e_T 138 (e_T 134 (e_L 134 (0, ei_load 0 2 135, 0, 0)) (e_T 135 (e_L 135 (0, ei_getf eft elay 12 30 138, 0, 0)) (e_L 138 (0, ei_load 2 0 139, 0, 0)))) (e_T 140 (e_T 139 (e_L 139 (0, ei_ast elay false 140, 0, 0)) (e_L 140 (0, ei_load 0 2 141, 0, 0))) (e_T 141 (e_L 141 (0, ei_getf eft elay 12 33 144, 0, 0)) (e_L 144 (0, ei_load 0 2 145, 0, 0))))) (e_T 150 (e_T 148 (e_T 145 (e_L 145 (0, ei_getf eft elay 12 30 148, 0, 0)) (e_L 148 (0, ei_load 3 0 149, 0, 0))) (e_T 149 (e_L 149 (0, ei_ast elay false 150, 0, 0)) (e_L 150 (0, ei_load 0 2 151, 0, 0)))) (e_T 154 (e_T 151 (e_L 151 (0, ei_getf eft elay 12 34 154, 0, 0)) (e_L 154 (0, ei_load 0 2 155, 0, 0))) (e_T 155 (e_L 155 (0, ei_getf eft elay 12 30 158, 0, 0)) (e_L 158 (0, ei_load 4 0 160, 0, 0)))))))
set_option maxRecDepth 20000 in
set_option maxHeartbeats 4000000 in
theorem te_286_59_ok : ∀ pc, e_EOq eft cls elay eI n_286 pc (te_286_59 pc) :=
  (e_Tok2
  (e_Tok2
  (e_Tok2
  (e_Tok2
  (e_Lok (ld_aload_n_0 (x_dk dn_286_0_2_ok 9 rfl)))
  (e_Tok2
  (e_Lok (lk_12_276g ho_286 (x_dk dn_286_0_2_ok 10 rfl)))
  (e_Lok (ps_iconst_4 (x_dk dn_286_0_2_ok 11 rfl)))))
  (e_Tok2
  (e_Tok2
  (e_Lok (e_st (I := eI) (er_icmpne (off := 6) (tg := 120) (x_dk dn_286_0_2_ok 12 rfl) (by decide)) nx_if2))
  (e_Lok (ps_bipush_m3 (x_dk dn_286_0_2_ok 13 rfl))))
  (e_Tok2
  (e_Lok (e_rt (I := eI) (k := 1) ⟨(x_dk dn_286_0_2_ok 14 rfl), rfl⟩))
  (e_Lok (ld_aload_n_0 (x_dk dn_286_0_2_ok 15 rfl))))))
  (e_Tok2
  (e_Tok2
  (e_Lok (lk_12_86g ho_286 (x_dk dn_286_0_2_ok 16 rfl)))
  (e_Tok2
  (e_Lok (ld_aload_n_0 (x_dk dn_286_0_2_ok 17 rfl)))
  (e_Lok (lk_12_276g ho_286 (x_dk dn_286_0_2_ok 18 rfl)))))
  (e_Tok2
  (e_Tok2
  (e_Lok (ld_iload_n_1 (x_dk dn_286_0_2_ok 19 rfl)))
  (e_Lok (sm_iastore (x_dk dn_286_0_2_ok 20 rfl))))
  (e_Tok2
  (e_Lok (ld_aload_n_0 (x_dk dn_286_0_2_ok 21 rfl)))
  (e_Lok (lk_12_89g ho_286 (x_dk dn_286_0_2_ok 22 rfl)))))))
  (e_Tok2
  (e_Tok2
  (e_Tok2
  (e_Lok (ld_aload_n_0 (x_dk dn_286_0_2_ok 23 rfl)))
  (e_Tok2
  (e_Lok (lk_12_276g ho_286 (x_dk dn_286_0_2_ok 24 rfl)))
  (e_Lok (ld_iload_n_2 (x_dk dn_286_0_3_ok 0 rfl)))))
  (e_Tok2
  (e_Tok2
  (e_Lok (sm_iastore (x_dk dn_286_0_3_ok 1 rfl)))
  (e_Lok (ld_aload_n_0 (x_dk dn_286_0_3_ok 2 rfl))))
  (e_Tok2
  (e_Lok (lk_12_92g ho_286 (x_dk dn_286_0_3_ok 3 rfl)))
  (e_Lok (ld_aload_n_0 (x_dk dn_286_0_3_ok 4 rfl))))))
  (e_Tok2
  (e_Tok2
  (e_Tok2
  (e_Lok (lk_12_276g ho_286 (x_dk dn_286_0_3_ok 5 rfl)))
  (e_Lok (ld_iload_n_3 (x_dk dn_286_0_3_ok 6 rfl))))
  (e_Tok2
  (e_Lok (sm_iastore (x_dk dn_286_0_3_ok 7 rfl)))
  (e_Lok (ld_aload_n_0 (x_dk dn_286_0_3_ok 8 rfl)))))
  (e_Tok2
  (e_Tok2
  (e_Lok (lk_12_95g ho_286 (x_dk dn_286_0_3_ok 9 rfl)))
  (e_Lok (ld_aload_n_0 (x_dk dn_286_0_3_ok 10 rfl))))
  (e_Tok2
  (e_Lok (lk_12_276g ho_286 (x_dk dn_286_0_3_ok 11 rfl)))
  (e_Lok (ld_iload_4 (x_dk dn_286_0_3_ok 12 rfl))))))))
def te_286_88 : Nat → eE := (e_T 182 (e_T 170 (e_T 162 (e_T 160 (e_L 160 (0, ei_ast elay false 161, 0, 0)) (e_T 161 (e_L 161 (0, ei_load 0 2 162, 0, 0)) (e_L 162 (0, ei_getf eft elay 12 35 165, 0, 0)))) (e_T 166 (e_T 165 (e_L 165 (0, ei_load 0 2 166, 0, 0)) (e_L 166 (0, ei_getf eft elay 12 30 169, 0, 0))) (e_T 169 (e_L 169 (0, ei_push (0, 0) 170, 0, 0)) (e_L 170 (0, ei_ast elay false 171, 0, 0))))) (e_T 176 (e_T 172 (e_T 171 (e_L 171 (0, ei_load 0 2 172, 0, 0)) (e_L 172 (0, ei_getf eft elay 12 37 175, 0, 0))) (e_T 175 (e_L 175 (0, ei_load 0 2 176, 0, 0)) (e_L 176 (0, ei_getf eft elay 12 30 179, 0, 0)))) (e_T 180 (e_T 179 (e_L 179 (0, ei_push (0, (-1)) 180, 0, 0)) (e_L 180 (0, ei_ast elay false 181, 0, 0))) (e_T 181 (e_L 181 (0, ei_load 0 2 182, 0, 0)) (e_L 182 (0, ei_getf eft elay 12 36 185, 0, 0)))))) (e_T 194 (e_T 189 (e_T 185 (e_L 185 (0, ei_load 0 2 186, 0, 0)) (e_T 186 (e_L 186 (0, ei_getf eft elay 12 30 189, 0, 0)) (e_L 189 (0, ei_load 5 0 191, 0, 0)))) (e_T 192 (e_T 191 (e_L 191 (0, ei_ast elay false 192, 0, 0)) (e_L 192 (0, ei_load 0 2 193, 0, 0))) (e_T 193 (e_L 193 (0, ei_stk ef_dup 194, 0, 0)) (e_L 194 (0, ei_getf eft elay 12 30 197, 0, 0))))) (e_T 202 (e_T 198 (e_T 197 (e_L 197 (0, ei_push (0, 1) 198, 0, 0)) (e_L 198 (0, ei_bin eF_add 199, 0, 0))) (e_T 199 (e_L 199 (0, ei_putf eft elay 12 30 0 202, 0, 0)) (e_L 202 (0, ei_load 0 2 203, 0, 0)))) (e_T 206 (e_T 203 (e_L 203 (0, ei_getf eft elay 12 30 206, 0, 0)) (e_L 206 (0, ei_push (0, 1) 207, 0, 0))) (e_T 207 (e_L 207 (0, ei_bin eF_sub 208, 0, 0)) (e_L 208 (1, e_nof, 1, 0)))))))
set_option maxRecDepth 20000 in
set_option maxHeartbeats 4000000 in
theorem te_286_88_ok : ∀ pc, e_EOq eft cls elay eI n_286 pc (te_286_88 pc) :=
  (e_Tok2
  (e_Tok2
  (e_Tok2
  (e_Tok2
  (e_Lok (sm_iastore (x_dk dn_286_0_3_ok 13 rfl)))
  (e_Tok2
  (e_Lok (ld_aload_n_0 (x_dk dn_286_0_3_ok 14 rfl)))
  (e_Lok (lk_12_98g ho_286 (x_dk dn_286_0_3_ok 15 rfl)))))
  (e_Tok2
  (e_Tok2
  (e_Lok (ld_aload_n_0 (x_dk dn_286_0_3_ok 16 rfl)))
  (e_Lok (lk_12_276g ho_286 (x_dk dn_286_0_3_ok 17 rfl))))
  (e_Tok2
  (e_Lok (ps_iconst_0 (x_dk dn_286_0_3_ok 18 rfl)))
  (e_Lok (sm_iastore (x_dk dn_286_0_3_ok 19 rfl))))))
  (e_Tok2
  (e_Tok2
  (e_Tok2
  (e_Lok (ld_aload_n_0 (x_dk dn_286_0_3_ok 20 rfl)))
  (e_Lok (lk_12_104g ho_286 (x_dk dn_286_0_3_ok 21 rfl))))
  (e_Tok2
  (e_Lok (ld_aload_n_0 (x_dk dn_286_0_3_ok 22 rfl)))
  (e_Lok (lk_12_276g ho_286 (x_dk dn_286_0_3_ok 23 rfl)))))
  (e_Tok2
  (e_Tok2
  (e_Lok (ps_iconst_m1 (x_dk dn_286_0_3_ok 24 rfl)))
  (e_Lok (sm_iastore (x_dk dn_286_1_0_ok 0 rfl))))
  (e_Tok2
  (e_Lok (ld_aload_n_0 (x_dk dn_286_1_0_ok 1 rfl)))
  (e_Lok (lk_12_101g ho_286 (x_dk dn_286_1_0_ok 2 rfl)))))))
  (e_Tok2
  (e_Tok2
  (e_Tok2
  (e_Lok (ld_aload_n_0 (x_dk dn_286_1_0_ok 3 rfl)))
  (e_Tok2
  (e_Lok (lk_12_276g ho_286 (x_dk dn_286_1_0_ok 4 rfl)))
  (e_Lok (ld_iload_5 (x_dk dn_286_1_0_ok 5 rfl)))))
  (e_Tok2
  (e_Tok2
  (e_Lok (sm_iastore (x_dk dn_286_1_0_ok 6 rfl)))
  (e_Lok (ld_aload_n_0 (x_dk dn_286_1_0_ok 7 rfl))))
  (e_Tok2
  (e_Lok (e_st (I := eI) (er_dup (x_dk dn_286_1_0_ok 8 rfl)) (nx_stk bf_dup)))
  (e_Lok (lk_12_276g ho_286 (x_dk dn_286_1_0_ok 9 rfl))))))
  (e_Tok2
  (e_Tok2
  (e_Tok2
  (e_Lok (ps_iconst_1 (x_dk dn_286_1_0_ok 10 rfl)))
  (e_Lok (sm_iadd (x_dk dn_286_1_0_ok 11 rfl))))
  (e_Tok2
  (e_Lok (lk_12_276p ho_286 (x_dk dn_286_1_0_ok 12 rfl)))
  (e_Lok (ld_aload_n_0 (x_dk dn_286_1_0_ok 13 rfl)))))
  (e_Tok2
  (e_Tok2
  (e_Lok (lk_12_276g ho_286 (x_dk dn_286_1_0_ok 14 rfl)))
  (e_Lok (ps_iconst_1 (x_dk dn_286_1_0_ok 15 rfl))))
  (e_Tok2
  (e_Lok (sm_isub (x_dk dn_286_1_0_ok 16 rfl)))
  (e_Lok (e_rt (I := eI) (k := 1) ⟨(x_dk dn_286_1_0_ok 17 rfl), rfl⟩)))))))
def te_286 : Nat → eE := (e_T 108 (e_T 55 te_286_0 te_286_29) (e_T 158 te_286_59 te_286_88))
theorem te_286_ok : ∀ pc, e_EOq eft cls elay eI n_286 pc (te_286 pc) := (e_Tok2 ((e_Tok2 (te_286_0_ok) (te_286_29_ok))) ((e_Tok2 (te_286_59_ok) (te_286_88_ok))))
theorem ho_287 : (xm_y n_287).cls = "RobotCellHouseModel" := rfl
def dn_287_0_0 : List (Nat × Instr × Nat) := [(0, .iload_n 1, 1), (1, .i2l, 1), (2, .lconst 0, 1), (3, .aload_n 0, 1), (4, .getfield 276, 3), (7, .iconst 1, 1), (8, .isub, 1), (9, .i2l, 1), (10, .invokestatic 301, 3), (13, .ifCond .eq 15, 3), (16, .iload_n 2, 1), (17, .i2l, 1), (18, .lconst 0, 1), (19, .ldc2_w 350, 3), (22, .invokestatic 301, 3), (25, .ifCond .ne 5, 3), (28, .iconst (-1), 1), (29, .ireturn, 1), (30, .aload_n 0, 1), (31, .getfield 265, 3), (34, .ifCond .eq 6, 3), (37, .bipush (-2), 2), (39, .ireturn, 1), (40, .aload_n 0, 1), (41, .getfield 98, 3)]
set_option maxRecDepth 20000 in
theorem dn_287_0_0_ok : dn_287_0_0.all (fun q => decide (decode (xm_b n_287) q.1 = .ok (q.2.1, q.2.2))) = true := xa_g_ok (by decide +kernel)
def dn_287_0_1 : List (Nat × Instr × Nat) := [(44, .iload_n 1, 1), (45, .iaload, 1), (46, .istore_n 3, 1), (47, .aload_n 0, 1), (48, .getfield 98, 3), (51, .iload_n 1, 1), (52, .iload_n 2, 1), (53, .iastore, 1), (54, .iload_n 3, 1), (55, .ireturn, 1)]
set_option maxRecDepth 20000 in
theorem dn_287_0_1_ok : dn_287_0_1.all (fun q => decide (decode (xm_b n_287) q.1 = .ok (q.2.1, q.2.2))) = true := xa_g_ok (by decide +kernel)
def te_287_0 : Nat → eE := (e_T 28 (e_T 9 (e_T 3 (e_T 1 (e_T 0 (e_L 0 (0, ei_load 1 0 1, 0, 0)) (e_L 1 (0, ei_un (fun x => (4, x)) 2, 0, 0))) (e_T 2 (e_L 2 (0, ei_push (4, 0) 3, 0, 0)) (e_L 3 (0, ei_load 0 2 4, 0, 0)))) (e_T 7 (e_T 4 (e_L 4 (0, ei_getf eft elay 12 30 7, 0, 0)) (e_L 7 (0, ei_push (0, 1) 8, 0, 0))) (e_T 8 (e_L 8 (0, ei_bin eF_sub 9, 0, 0)) (e_L 9 (0, ei_un (fun x => (4, x)) 10, 0, 0))))) (e_T 17 (e_T 13 (e_T 10 (e_L 10 (2, e_nof, 266, 3)) (e_L 13 (0, ei_if1 0 28 16, 0, 0))) (e_T 16 (e_L 16 (0, ei_load 2 0 17, 0, 0)) (e_L 17 (0, ei_un (fun x => (4, x)) 18, 0, 0)))) (e_T 19 (e_T 18 (e_L 18 (0, ei_push (4, 0) 19, 0, 0)) (e_L 19 (0, ei_push (4, 100) 22, 0, 0))) (e_T 22 (e_L 22 (2, e_nof, 266, 3)) (e_T 25 (e_L 25 (0, ei_if1 1 30 28, 0, 0)) (e_L 28 (0, ei_push (0, (-1)) 29, 0, 0))))))) (e_T 44 (e_T 34 (e_T 30 (e_T 29 (e_L 29 (1, e_nof, 1, 0)) (e_L 30 (0, ei_load 0 2 31, 0, 0))) (e_T 31 (e_L 31 (0, ei_getf eft elay 12 3 34, 0, 0)) (e_L 34 (0, ei_if1 0 40 37, 0, 0)))) (e_T 39 (e_T 37 (e_L 37 (0, ei_push (0, (-2)) 39, 0, 0)) (e_L 39 (1, e_nof, 1, 0))) (e_T 40 (e_L 40 (0, ei_load 0 2 41, 0, 0)) (e_T 41 (e_L 41 (0, ei_getf eft elay 12 35 44, 0, 0)) (e_L 44 (0, ei_load 1 0 45, 0, 0)))))) (e_T 48 (e_T 46 (e_T 45 (e_L 45 (0, ei_ald elay false 46, 0, 0)) (e_L 46 (0, ei_stor 3 0 47, 0, 0))) (e_T 47 (e_L 47 (0, ei_load 0 2 48, 0, 0)) (e_L 48 (0, ei_getf eft elay 12 35 51, 0, 0)))) (e_T 52 (e_T 51 (e_L 51 (0, ei_load 1 0 52, 0, 0)) (e_L 52 (0, ei_load 2 0 53, 0, 0))) (e_T 53 (e_L 53 (0, ei_ast elay false 54, 0, 0)) (e_T 54 (e_L 54 (0, ei_load 3 0 55, 0, 0)) (e_L 55 (1, e_nof, 1, 0))))))))
set_option maxRecDepth 20000 in
set_option maxHeartbeats 4000000 in
theorem te_287_0_ok : ∀ pc, e_EOq eft cls elay eI n_287 pc (te_287_0 pc) :=
  (e_Tok2
  (e_Tok2
  (e_Tok2
  (e_Tok2
  (e_Tok2
  (e_Lok (ld_iload_n_1 (x_dk dn_287_0_0_ok 0 rfl)))
  (e_Lok (e_st (I := eI) (er_i2l (x_dk dn_287_0_0_ok 1 rfl)) (nx_un (fun _ => rfl)))))
  (e_Tok2
  (e_Lok (ps_lconst_0 (x_dk dn_287_0_0_ok 2 rfl)))
  (e_Lok (ld_aload_n_0 (x_dk dn_287_0_0_ok 3 rfl)))))
  (e_Tok2
  (e_Tok2
  (e_Lok (lk_12_276g ho_287 (x_dk dn_287_0_0_ok 4 rfl)))
  (e_Lok (ps_iconst_1 (x_dk dn_287_0_0_ok 5 rfl))))
  (e_Tok2
  (e_Lok (sm_isub (x_dk dn_287_0_0_ok 6 rfl)))
  (e_Lok (e_st (I := eI) (er_i2l (x_dk dn_287_0_0_ok 7 rfl)) (nx_un (fun _ => rfl)))))))
  (e_Tok2
  (e_Tok2
  (e_Tok2
  (e_Lok (lk_12_301 ho_287 (x_dk dn_287_0_0_ok 8 rfl)))
  (e_Lok (e_st (I := eI) (er_ifeq (off := 15) (tg := 28) (x_dk dn_287_0_0_ok 9 rfl) (by decide)) nx_if1)))
  (e_Tok2
  (e_Lok (ld_iload_n_2 (x_dk dn_287_0_0_ok 10 rfl)))
  (e_Lok (e_st (I := eI) (er_i2l (x_dk dn_287_0_0_ok 11 rfl)) (nx_un (fun _ => rfl))))))
  (e_Tok2
  (e_Tok2
  (e_Lok (ps_lconst_0 (x_dk dn_287_0_0_ok 12 rfl)))
  (e_Lok (e_st (I := eI) (er_ldc2 (ix := 350) (z := 100) (v := 100) (x_dk dn_287_0_0_ok 13 rfl) (in_t11 (List.mem_of_getElem? (i := 76) rfl) rfl) (by decide)) (nx_push (Or.inl rfl)))))
  (e_Tok2
  (e_Lok (lk_12_301 ho_287 (x_dk dn_287_0_0_ok 14 rfl)))
  (e_Tok2
  (e_Lok (e_st (I := eI) (er_ifne (off := 5) (tg := 30) (x_dk dn_287_0_0_ok 15 rfl) (by decide)) nx_if1))
  (e_Lok (ps_iconst_m1 (x_dk dn_287_0_0_ok 16 rfl))))))))
  (e_Tok2
  (e_Tok2
  (e_Tok2
  (e_Tok2
  (e_Lok (e_rt (I := eI) (k := 1) ⟨(x_dk dn_287_0_0_ok 17 rfl), rfl⟩))
  (e_Lok (ld_aload_n_0 (x_dk dn_287_0_0_ok 18 rfl))))
  (e_Tok2
  (e_Lok (lk_12_265g ho_287 (x_dk dn_287_0_0_ok 19 rfl)))
  (e_Lok (e_st (I := eI) (er_ifeq (off := 6) (tg := 40) (x_dk dn_287_0_0_ok 20 rfl) (by decide)) nx_if1))))
  (e_Tok2
  (e_Tok2
  (e_Lok (ps_bipush_m2 (x_dk dn_287_0_0_ok 21 rfl)))
  (e_Lok (e_rt (I := eI) (k := 1) ⟨(x_dk dn_287_0_0_ok 22 rfl), rfl⟩)))
  (e_Tok2
  (e_Lok (ld_aload_n_0 (x_dk dn_287_0_0_ok 23 rfl)))
  (e_Tok2
  (e_Lok (lk_12_98g ho_287 (x_dk dn_287_0_0_ok 24 rfl)))
  (e_Lok (ld_iload_n_1 (x_dk dn_287_0_1_ok 0 rfl)))))))
  (e_Tok2
  (e_Tok2
  (e_Tok2
  (e_Lok (sm_iaload (x_dk dn_287_0_1_ok 1 rfl)))
  (e_Lok (e_st (I := eI) (er_istore_n (i := 3) (x_dk dn_287_0_1_ok 2 rfl) (by decide +kernel)) nx_stor)))
  (e_Tok2
  (e_Lok (ld_aload_n_0 (x_dk dn_287_0_1_ok 3 rfl)))
  (e_Lok (lk_12_98g ho_287 (x_dk dn_287_0_1_ok 4 rfl)))))
  (e_Tok2
  (e_Tok2
  (e_Lok (ld_iload_n_1 (x_dk dn_287_0_1_ok 5 rfl)))
  (e_Lok (ld_iload_n_2 (x_dk dn_287_0_1_ok 6 rfl))))
  (e_Tok2
  (e_Lok (sm_iastore (x_dk dn_287_0_1_ok 7 rfl)))
  (e_Tok2
  (e_Lok (ld_iload_n_3 (x_dk dn_287_0_1_ok 8 rfl)))
  (e_Lok (e_rt (I := eI) (k := 1) ⟨(x_dk dn_287_0_1_ok 9 rfl), rfl⟩))))))))
def te_287 : Nat → eE := te_287_0
theorem te_287_ok : ∀ pc, e_EOq eft cls elay eI n_287 pc (te_287 pc) := te_287_0_ok
theorem ho_288 : (xm_y n_288).cls = "RobotCellHouseModel" := rfl
def dn_288_0_0 : List (Nat × Instr × Nat) := [(0, .iload_n 1, 1), (1, .i2l, 1), (2, .lconst 0, 1), (3, .aload_n 0, 1), (4, .getfield 276, 3), (7, .iconst 1, 1), (8, .isub, 1), (9, .i2l, 1), (10, .invokestatic 301, 3), (13, .ifCond .eq 25, 3), (16, .iload_n 2, 1), (17, .i2l, 1), (18, .lconst 0, 1), (19, .ldc2_w 352, 3), (22, .invokestatic 301, 3), (25, .ifCond .eq 13, 3), (28, .iload_n 3, 1), (29, .ifCond .lt 9, 3), (32, .iload 4, 2), (34, .iload_n 3, 1), (35, .if_icmp .ge 5, 3), (38, .iconst (-1), 1), (39, .ireturn, 1), (40, .aload_n 0, 1), (41, .getfield 265, 3)]
set_option maxRecDepth 20000 in
theorem dn_288_0_0_ok : dn_288_0_0.all (fun q => decide (decode (xm_b n_288) q.1 = .ok (q.2.1, q.2.2))) = true := xa_g_ok (by decide +kernel)
def dn_288_0_1 : List (Nat × Instr × Nat) := [(44, .ifCond .eq 6, 3), (47, .bipush (-2), 2), (49, .ireturn, 1), (50, .aload_n 0, 1), (51, .getfield 104, 3), (54, .iload_n 1, 1), (55, .iload_n 2, 1), (56, .iastore, 1), (57, .aload_n 0, 1), (58, .getfield 107, 3), (61, .iload_n 1, 1), (62, .iload_n 3, 1), (63, .iastore, 1), (64, .aload_n 0, 1), (65, .getfield 110, 3), (68, .iload_n 1, 1), (69, .iload 4, 2), (71, .iastore, 1), (72, .iconst 0, 1), (73, .ireturn, 1)]
set_option maxRecDepth 20000 in
theorem dn_288_0_1_ok : dn_288_0_1.all (fun q => decide (decode (xm_b n_288) q.1 = .ok (q.2.1, q.2.2))) = true := xa_g_ok (by decide +kernel)
def te_288_0 : Nat → eE := (e_T 16 (e_T 4 (e_T 1 (e_T 0 (e_L 0 (0, ei_load 1 0 1, 0, 0)) (e_L 1 (0, ei_un (fun x => (4, x)) 2, 0, 0))) (e_T 2 (e_L 2 (0, ei_push (4, 0) 3, 0, 0)) (e_T 3 (e_L 3 (0, ei_load 0 2 4, 0, 0)) (e_L 4 (0, ei_getf eft elay 12 30 7, 0, 0))))) (e_T 9 (e_T 7 (e_L 7 (0, ei_push (0, 1) 8, 0, 0)) (e_T 8 (e_L 8 (0, ei_bin eF_sub 9, 0, 0)) (e_L 9 (0, ei_un (fun x => (4, x)) 10, 0, 0)))) (e_T 10 (e_L 10 (2, e_nof, 266, 3)) (e_T 13 (e_L 13 (0, ei_if1 0 38 16, 0, 0)) (e_L 16 (0, ei_load 2 0 17, 0, 0)))))) (e_T 25 (e_T 18 (e_T 17 (e_L 17 (0, ei_un (fun x => (4, x)) 18, 0, 0)) (e_L 18 (0, ei_push (4, 0) 19, 0, 0))) (e_T 19 (e_L 19 (0, ei_push (4, 63) 22, 0, 0)) (e_T 22 (e_L 22 (2, e_nof, 266, 3)) (e_L 25 (0, ei_if1 0 38 28, 0, 0))))) (e_T 32 (e_T 28 (e_L 28 (0, ei_load 3 0 29, 0, 0)) (e_T 29 (e_L 29 (0, ei_if1 2 38 32, 0, 0)) (e_L 32 (0, ei_load 4 0 34, 0, 0)))) (e_T 34 (e_L 34 (0, ei_load 3 0 35, 0, 0)) (e_T 35 (e_L 35 (0, ei_if2 3 40 38, 0, 0)) (e_L 38 (0, ei_push (0, (-1)) 39, 0, 0)))))))
set_option maxRecDepth 20000 in
set_option maxHeartbeats 4000000 in
theorem te_288_0_ok : ∀ pc, e_EOq eft cls elay eI n_288 pc (te_288_0 pc) :=
  (e_Tok2
  (e_Tok2
  (e_Tok2
  (e_Tok2
  (e_Lok (ld_iload_n_1 (x_dk dn_288_0_0_ok 0 rfl)))
  (e_Lok (e_st (I := eI) (er_i2l (x_dk dn_288_0_0_ok 1 rfl)) (nx_un (fun _ => rfl)))))
  (e_Tok2
  (e_Lok (ps_lconst_0 (x_dk dn_288_0_0_ok 2 rfl)))
  (e_Tok2
  (e_Lok (ld_aload_n_0 (x_dk dn_288_0_0_ok 3 rfl)))
  (e_Lok (lk_12_276g ho_288 (x_dk dn_288_0_0_ok 4 rfl))))))
  (e_Tok2
  (e_Tok2
  (e_Lok (ps_iconst_1 (x_dk dn_288_0_0_ok 5 rfl)))
  (e_Tok2
  (e_Lok (sm_isub (x_dk dn_288_0_0_ok 6 rfl)))
  (e_Lok (e_st (I := eI) (er_i2l (x_dk dn_288_0_0_ok 7 rfl)) (nx_un (fun _ => rfl))))))
  (e_Tok2
  (e_Lok (lk_12_301 ho_288 (x_dk dn_288_0_0_ok 8 rfl)))
  (e_Tok2
  (e_Lok (e_st (I := eI) (er_ifeq (off := 25) (tg := 38) (x_dk dn_288_0_0_ok 9 rfl) (by decide)) nx_if1))
  (e_Lok (ld_iload_n_2 (x_dk dn_288_0_0_ok 10 rfl)))))))
  (e_Tok2
  (e_Tok2
  (e_Tok2
  (e_Lok (e_st (I := eI) (er_i2l (x_dk dn_288_0_0_ok 11 rfl)) (nx_un (fun _ => rfl))))
  (e_Lok (ps_lconst_0 (x_dk dn_288_0_0_ok 12 rfl))))
  (e_Tok2
  (e_Lok (e_st (I := eI) (er_ldc2 (ix := 352) (z := 63) (v := 63) (x_dk dn_288_0_0_ok 13 rfl) (in_t11 (List.mem_of_getElem? (i := 81) rfl) rfl) (by decide)) (nx_push (Or.inl rfl))))
  (e_Tok2
  (e_Lok (lk_12_301 ho_288 (x_dk dn_288_0_0_ok 14 rfl)))
  (e_Lok (e_st (I := eI) (er_ifeq (off := 13) (tg := 38) (x_dk dn_288_0_0_ok 15 rfl) (by decide)) nx_if1)))))
  (e_Tok2
  (e_Tok2
  (e_Lok (ld_iload_n_3 (x_dk dn_288_0_0_ok 16 rfl)))
  (e_Tok2
  (e_Lok (e_st (I := eI) (er_iflt (off := 9) (tg := 38) (x_dk dn_288_0_0_ok 17 rfl) (by decide)) nx_if1))
  (e_Lok (ld_iload_4 (x_dk dn_288_0_0_ok 18 rfl)))))
  (e_Tok2
  (e_Lok (ld_iload_n_3 (x_dk dn_288_0_0_ok 19 rfl)))
  (e_Tok2
  (e_Lok (e_st (I := eI) (er_icmpge (off := 5) (tg := 40) (x_dk dn_288_0_0_ok 20 rfl) (by decide)) nx_if2))
  (e_Lok (ps_iconst_m1 (x_dk dn_288_0_0_ok 21 rfl))))))))
def te_288_22 : Nat → eE := (e_T 56 (e_T 47 (e_T 40 (e_T 39 (e_L 39 (1, e_nof, 1, 0)) (e_L 40 (0, ei_load 0 2 41, 0, 0))) (e_T 41 (e_L 41 (0, ei_getf eft elay 12 3 44, 0, 0)) (e_T 44 (e_L 44 (0, ei_if1 0 50 47, 0, 0)) (e_L 47 (0, ei_push (0, (-2)) 49, 0, 0))))) (e_T 51 (e_T 49 (e_L 49 (1, e_nof, 1, 0)) (e_T 50 (e_L 50 (0, ei_load 0 2 51, 0, 0)) (e_L 51 (0, ei_getf eft elay 12 37 54, 0, 0)))) (e_T 54 (e_L 54 (0, ei_load 1 0 55, 0, 0)) (e_T 55 (e_L 55 (0, ei_load 2 0 56, 0, 0)) (e_L 56 (0, ei_ast elay false 57, 0, 0)))))) (e_T 64 (e_T 61 (e_T 57 (e_L 57 (0, ei_load 0 2 58, 0, 0)) (e_T 58 (e_L 58 (0, ei_getf eft elay 12 38 61, 0, 0)) (e_L 61 (0, ei_load 1 0 62, 0, 0)))) (e_T 62 (e_L 62 (0, ei_load 3 0 63, 0, 0)) (e_T 63 (e_L 63 (0, ei_ast elay false 64, 0, 0)) (e_L 64 (0, ei_load 0 2 65, 0, 0))))) (e_T 69 (e_T 65 (e_L 65 (0, ei_getf eft elay 12 39 68, 0, 0)) (e_T 68 (e_L 68 (0, ei_load 1 0 69, 0, 0)) (e_L 69 (0, ei_load 4 0 71, 0, 0)))) (e_T 71 (e_L 71 (0, ei_ast elay false 72, 0, 0)) (e_T 72 (e_L 72 (0, ei_push (0, 0) 73, 0, 0)) (e_L 73 (1, e_nof, 1, 0)))))))
set_option maxRecDepth 20000 in
set_option maxHeartbeats 4000000 in
theorem te_288_22_ok : ∀ pc, e_EOq eft cls elay eI n_288 pc (te_288_22 pc) :=
  (e_Tok2
  (e_Tok2
  (e_Tok2
  (e_Tok2
  (e_Lok (e_rt (I := eI) (k := 1) ⟨(x_dk dn_288_0_0_ok 22 rfl), rfl⟩))
  (e_Lok (ld_aload_n_0 (x_dk dn_288_0_0_ok 23 rfl))))
  (e_Tok2
  (e_Lok (lk_12_265g ho_288 (x_dk dn_288_0_0_ok 24 rfl)))
  (e_Tok2
  (e_Lok (e_st (I := eI) (er_ifeq (off := 6) (tg := 50) (x_dk dn_288_0_1_ok 0 rfl) (by decide)) nx_if1))
  (e_Lok (ps_bipush_m2 (x_dk dn_288_0_1_ok 1 rfl))))))
  (e_Tok2
  (e_Tok2
  (e_Lok (e_rt (I := eI) (k := 1) ⟨(x_dk dn_288_0_1_ok 2 rfl), rfl⟩))
  (e_Tok2
  (e_Lok (ld_aload_n_0 (x_dk dn_288_0_1_ok 3 rfl)))
  (e_Lok (lk_12_104g ho_288 (x_dk dn_288_0_1_ok 4 rfl)))))
  (e_Tok2
  (e_Lok (ld_iload_n_1 (x_dk dn_288_0_1_ok 5 rfl)))
  (e_Tok2
  (e_Lok (ld_iload_n_2 (x_dk dn_288_0_1_ok 6 rfl)))
  (e_Lok (sm_iastore (x_dk dn_288_0_1_ok 7 rfl)))))))
  (e_Tok2
  (e_Tok2
  (e_Tok2
  (e_Lok (ld_aload_n_0 (x_dk dn_288_0_1_ok 8 rfl)))
  (e_Tok2
  (e_Lok (lk_12_107g ho_288 (x_dk dn_288_0_1_ok 9 rfl)))
  (e_Lok (ld_iload_n_1 (x_dk dn_288_0_1_ok 10 rfl)))))
  (e_Tok2
  (e_Lok (ld_iload_n_3 (x_dk dn_288_0_1_ok 11 rfl)))
  (e_Tok2
  (e_Lok (sm_iastore (x_dk dn_288_0_1_ok 12 rfl)))
  (e_Lok (ld_aload_n_0 (x_dk dn_288_0_1_ok 13 rfl))))))
  (e_Tok2
  (e_Tok2
  (e_Lok (lk_12_110g ho_288 (x_dk dn_288_0_1_ok 14 rfl)))
  (e_Tok2
  (e_Lok (ld_iload_n_1 (x_dk dn_288_0_1_ok 15 rfl)))
  (e_Lok (ld_iload_4 (x_dk dn_288_0_1_ok 16 rfl)))))
  (e_Tok2
  (e_Lok (sm_iastore (x_dk dn_288_0_1_ok 17 rfl)))
  (e_Tok2
  (e_Lok (ps_iconst_0 (x_dk dn_288_0_1_ok 18 rfl)))
  (e_Lok (e_rt (I := eI) (k := 1) ⟨(x_dk dn_288_0_1_ok 19 rfl), rfl⟩)))))))
def te_288 : Nat → eE := (e_T 38 te_288_0 te_288_22)
theorem te_288_ok : ∀ pc, e_EOq eft cls elay eI n_288 pc (te_288 pc) := (e_Tok2 (te_288_0_ok) (te_288_22_ok))
theorem ho_289 : (xm_y n_289).cls = "RobotCellHouseModel" := rfl
def dn_289_0_0 : List (Nat × Instr × Nat) := [(0, .iload_n 1, 1), (1, .i2l, 1), (2, .lconst 0, 1), (3, .aload_n 0, 1), (4, .getfield 276, 3), (7, .iconst 1, 1), (8, .isub, 1), (9, .i2l, 1), (10, .invokestatic 301, 3), (13, .ifCond .eq 31, 3), (16, .iload_n 2, 1), (17, .i2l, 1), (18, .lconst 0, 1), (19, .aload_n 0, 1), (20, .getfield 95, 3), (23, .iload_n 1, 1), (24, .iaload, 1), (25, .i2l, 1), (26, .invokestatic 301, 3), (29, .ifCond .eq 15, 3), (32, .iload_n 3, 1), (33, .i2l, 1), (34, .lconst 0, 1), (35, .ldc2_w 330, 3), (38, .invokestatic 301, 3)]
set_option maxRecDepth 20000 in
theorem dn_289_0_0_ok : dn_289_0_0.all (fun q => decide (decode (xm_b n_289) q.1 = .ok (q.2.1, q.2.2))) = true := xa_g_ok (by decide +kernel)
def dn_289_0_1 : List (Nat × Instr × Nat) := [(41, .ifCond .ne 5, 3), (44, .iconst (-1), 1), (45, .ireturn, 1), (46, .aload_n 0, 1), (47, .getfield 265, 3), (50, .ifCond .eq 6, 3), (53, .bipush (-2), 2), (55, .ireturn, 1), (56, .aload_n 0, 1), (57, .getfield 279, 3), (60, .bipush 32, 2), (62, .if_icmp .ne 6, 3), (65, .bipush (-3), 2), (67, .ireturn, 1), (68, .aload_n 0, 1), (69, .getfield 113, 3), (72, .aload_n 0, 1), (73, .getfield 279, 3), (76, .iload_n 3, 1), (77, .iastore, 1), (78, .aload_n 0, 1), (79, .aload_n 0, 1), (80, .getfield 279, 3), (83, .iload_n 1, 1), (84, .iload_n 2, 1)]
set_option maxRecDepth 20000 in
theorem dn_289_0_1_ok : dn_289_0_1.all (fun q => decide (decode (xm_b n_289) q.1 = .ok (q.2.1, q.2.2))) = true := xa_g_ok (by decide +kernel)
def dn_289_0_2 : List (Nat × Instr × Nat) := [(85, .invokevirtual 354, 3), (88, .aload_n 0, 1), (89, .dup, 1), (90, .getfield 279, 3), (93, .iconst 1, 1), (94, .iadd, 1), (95, .putfield 279, 3), (98, .aload_n 0, 1), (99, .getfield 279, 3), (102, .iconst 1, 1), (103, .isub, 1), (104, .ireturn, 1)]
set_option maxRecDepth 20000 in
theorem dn_289_0_2_ok : dn_289_0_2.all (fun q => decide (decode (xm_b n_289) q.1 = .ok (q.2.1, q.2.2))) = true := xa_g_ok (by decide +kernel)
def te_289_0 : Nat → eE := (e_T 20 (e_T 8 (e_T 2 (e_T 0 (e_L 0 (0, ei_load 1 0 1, 0, 0)) (e_T 1 (e_L 1 (0, ei_un (fun x => (4, x)) 2, 0, 0)) (e_L 2 (0, ei_push (4, 0) 3, 0, 0)))) (e_T 4 (e_T 3 (e_L 3 (0, ei_load 0 2 4, 0, 0)) (e_L 4 (0, ei_getf eft elay 12 30 7, 0, 0))) (e_T 7 (e_L 7 (0, ei_push (0, 1) 8, 0, 0)) (e_L 8 (0, ei_bin eF_sub 9, 0, 0))))) (e_T 16 (e_T 10 (e_T 9 (e_L 9 (0, ei_un (fun x => (4, x)) 10, 0, 0)) (e_L 10 (2, e_nof, 266, 3))) (e_T 13 (e_L 13 (0, ei_if1 0 44 16, 0, 0)) (e_L 16 (0, ei_load 2 0 17, 0, 0)))) (e_T 18 (e_T 17 (e_L 17 (0, ei_un (fun x => (4, x)) 18, 0, 0)) (e_L 18 (0, ei_push (4, 0) 19, 0, 0))) (e_T 19 (e_L 19 (0, ei_load 0 2 20, 0, 0)) (e_L 20 (0, ei_getf eft elay 12 34 23, 0, 0)))))) (e_T 34 (e_T 26 (e_T 24 (e_T 23 (e_L 23 (0, ei_load 1 0 24, 0, 0)) (e_L 24 (0, ei_ald elay false 25, 0, 0))) (e_T 25 (e_L 25 (0, ei_un (fun x => (4, x)) 26, 0, 0)) (e_L 26 (2, e_nof, 266, 3)))) (e_T 32 (e_T 29 (e_L 29 (0, ei_if1 0 44 32, 0, 0)) (e_L 32 (0, ei_load 3 0 33, 0, 0))) (e_T 33 (e_L 33 (0, ei_un (fun x => (4, x)) 34, 0, 0)) (e_L 34 (0, ei_push (4, 0) 35, 0, 0))))) (e_T 44 (e_T 38 (e_T 35 (e_L 35 (0, ei_push (4, 800) 38, 0, 0)) (e_L 38 (2, e_nof, 266, 3))) (e_T 41 (e_L 41 (0, ei_if1 1 46 44, 0, 0)) (e_L 44 (0, ei_push (0, (-1)) 45, 0, 0)))) (e_T 46 (e_T 45 (e_L 45 (1, e_nof, 1, 0)) (e_L 46 (0, ei_load 0 2 47, 0, 0))) (e_T 47 (e_L 47 (0, ei_getf eft elay 12 3 50, 0, 0)) (e_L 50 (0, ei_if1 0 56 53, 0, 0)))))))
set_option maxRecDepth 20000 in
set_option maxHeartbeats 4000000 in
theorem te_289_0_ok : ∀ pc, e_EOq eft cls elay eI n_289 pc (te_289_0 pc) :=
  (e_Tok2
  (e_Tok2
  (e_Tok2
  (e_Tok2
  (e_Lok (ld_iload_n_1 (x_dk dn_289_0_0_ok 0 rfl)))
  (e_Tok2
  (e_Lok (e_st (I := eI) (er_i2l (x_dk dn_289_0_0_ok 1 rfl)) (nx_un (fun _ => rfl))))
  (e_Lok (ps_lconst_0 (x_dk dn_289_0_0_ok 2 rfl)))))
  (e_Tok2
  (e_Tok2
  (e_Lok (ld_aload_n_0 (x_dk dn_289_0_0_ok 3 rfl)))
  (e_Lok (lk_12_276g ho_289 (x_dk dn_289_0_0_ok 4 rfl))))
  (e_Tok2
  (e_Lok (ps_iconst_1 (x_dk dn_289_0_0_ok 5 rfl)))
  (e_Lok (sm_isub (x_dk dn_289_0_0_ok 6 rfl))))))
  (e_Tok2
  (e_Tok2
  (e_Tok2
  (e_Lok (e_st (I := eI) (er_i2l (x_dk dn_289_0_0_ok 7 rfl)) (nx_un (fun _ => rfl))))
  (e_Lok (lk_12_301 ho_289 (x_dk dn_289_0_0_ok 8 rfl))))
  (e_Tok2
  (e_Lok (e_st (I := eI) (er_ifeq (off := 31) (tg := 44) (x_dk dn_289_0_0_ok 9 rfl) (by decide)) nx_if1))
  (e_Lok (ld_iload_n_2 (x_dk dn_289_0_0_ok 10 rfl)))))
  (e_Tok2
  (e_Tok2
  (e_Lok (e_st (I := eI) (er_i2l (x_dk dn_289_0_0_ok 11 rfl)) (nx_un (fun _ => rfl))))
  (e_Lok (ps_lconst_0 (x_dk dn_289_0_0_ok 12 rfl))))
  (e_Tok2
  (e_Lok (ld_aload_n_0 (x_dk dn_289_0_0_ok 13 rfl)))
  (e_Lok (lk_12_95g ho_289 (x_dk dn_289_0_0_ok 14 rfl)))))))
  (e_Tok2
  (e_Tok2
  (e_Tok2
  (e_Tok2
  (e_Lok (ld_iload_n_1 (x_dk dn_289_0_0_ok 15 rfl)))
  (e_Lok (sm_iaload (x_dk dn_289_0_0_ok 16 rfl))))
  (e_Tok2
  (e_Lok (e_st (I := eI) (er_i2l (x_dk dn_289_0_0_ok 17 rfl)) (nx_un (fun _ => rfl))))
  (e_Lok (lk_12_301 ho_289 (x_dk dn_289_0_0_ok 18 rfl)))))
  (e_Tok2
  (e_Tok2
  (e_Lok (e_st (I := eI) (er_ifeq (off := 15) (tg := 44) (x_dk dn_289_0_0_ok 19 rfl) (by decide)) nx_if1))
  (e_Lok (ld_iload_n_3 (x_dk dn_289_0_0_ok 20 rfl))))
  (e_Tok2
  (e_Lok (e_st (I := eI) (er_i2l (x_dk dn_289_0_0_ok 21 rfl)) (nx_un (fun _ => rfl))))
  (e_Lok (ps_lconst_0 (x_dk dn_289_0_0_ok 22 rfl))))))
  (e_Tok2
  (e_Tok2
  (e_Tok2
  (e_Lok (e_st (I := eI) (er_ldc2 (ix := 330) (z := 800) (v := 800) (x_dk dn_289_0_0_ok 23 rfl) (in_t11 (List.mem_of_getElem? (i := 19) rfl) rfl) (by decide)) (nx_push (Or.inl rfl))))
  (e_Lok (lk_12_301 ho_289 (x_dk dn_289_0_0_ok 24 rfl))))
  (e_Tok2
  (e_Lok (e_st (I := eI) (er_ifne (off := 5) (tg := 46) (x_dk dn_289_0_1_ok 0 rfl) (by decide)) nx_if1))
  (e_Lok (ps_iconst_m1 (x_dk dn_289_0_1_ok 1 rfl)))))
  (e_Tok2
  (e_Tok2
  (e_Lok (e_rt (I := eI) (k := 1) ⟨(x_dk dn_289_0_1_ok 2 rfl), rfl⟩))
  (e_Lok (ld_aload_n_0 (x_dk dn_289_0_1_ok 3 rfl))))
  (e_Tok2
  (e_Lok (lk_12_265g ho_289 (x_dk dn_289_0_1_ok 4 rfl)))
  (e_Lok (e_st (I := eI) (er_ifeq (off := 6) (tg := 56) (x_dk dn_289_0_1_ok 5 rfl) (by decide)) nx_if1)))))))
def te_289_31 : Nat → eE := (e_T 78 (e_T 65 (e_T 56 (e_T 53 (e_L 53 (0, ei_push (0, (-2)) 55, 0, 0)) (e_T 55 (e_L 55 (1, e_nof, 1, 0)) (e_L 56 (0, ei_load 0 2 57, 0, 0)))) (e_T 60 (e_T 57 (e_L 57 (0, ei_getf eft elay 12 40 60, 0, 0)) (e_L 60 (0, ei_push (0, 32) 62, 0, 0))) (e_T 62 (e_L 62 (0, ei_if2 1 68 65, 0, 0)) (e_L 65 (0, ei_push (0, (-3)) 67, 0, 0))))) (e_T 72 (e_T 68 (e_T 67 (e_L 67 (1, e_nof, 1, 0)) (e_L 68 (0, ei_load 0 2 69, 0, 0))) (e_T 69 (e_L 69 (0, ei_getf eft elay 12 41 72, 0, 0)) (e_L 72 (0, ei_load 0 2 73, 0, 0)))) (e_T 76 (e_T 73 (e_L 73 (0, ei_getf eft elay 12 40 76, 0, 0)) (e_L 76 (0, ei_load 3 0 77, 0, 0))) (e_T 77 (e_L 77 (0, ei_ast elay false 78, 0, 0)) (e_L 78 (0, ei_load 0 2 79, 0, 0)))))) (e_T 90 (e_T 84 (e_T 80 (e_T 79 (e_L 79 (0, ei_load 0 2 80, 0, 0)) (e_L 80 (0, ei_getf eft elay 12 40 83, 0, 0))) (e_T 83 (e_L 83 (0, ei_load 1 0 84, 0, 0)) (e_L 84 (0, ei_load 2 0 85, 0, 0)))) (e_T 88 (e_T 85 (e_L 85 (2, e_nof, 393, 4)) (e_L 88 (0, ei_load 0 2 89, 0, 0))) (e_T 89 (e_L 89 (0, ei_stk ef_dup 90, 0, 0)) (e_L 90 (0, ei_getf eft elay 12 40 93, 0, 0))))) (e_T 98 (e_T 94 (e_T 93 (e_L 93 (0, ei_push (0, 1) 94, 0, 0)) (e_L 94 (0, ei_bin eF_add 95, 0, 0))) (e_T 95 (e_L 95 (0, ei_putf eft elay 12 40 0 98, 0, 0)) (e_L 98 (0, ei_load 0 2 99, 0, 0)))) (e_T 102 (e_T 99 (e_L 99 (0, ei_getf eft elay 12 40 102, 0, 0)) (e_L 102 (0, ei_push (0, 1) 103, 0, 0))) (e_T 103 (e_L 103 (0, ei_bin eF_sub 104, 0, 0)) (e_L 104 (1, e_nof, 1, 0)))))))
set_option maxRecDepth 20000 in
set_option maxHeartbeats 4000000 in
theorem te_289_31_ok : ∀ pc, e_EOq eft cls elay eI n_289 pc (te_289_31 pc) :=
  (e_Tok2
  (e_Tok2
  (e_Tok2
  (e_Tok2
  (e_Lok (ps_bipush_m2 (x_dk dn_289_0_1_ok 6 rfl)))
  (e_Tok2
  (e_Lok (e_rt (I := eI) (k := 1) ⟨(x_dk dn_289_0_1_ok 7 rfl), rfl⟩))
  (e_Lok (ld_aload_n_0 (x_dk dn_289_0_1_ok 8 rfl)))))
  (e_Tok2
  (e_Tok2
  (e_Lok (lk_12_279g ho_289 (x_dk dn_289_0_1_ok 9 rfl)))
  (e_Lok (ps_bipush_32 (x_dk dn_289_0_1_ok 10 rfl))))
  (e_Tok2
  (e_Lok (e_st (I := eI) (er_icmpne (off := 6) (tg := 68) (x_dk dn_289_0_1_ok 11 rfl) (by decide)) nx_if2))
  (e_Lok (ps_bipush_m3 (x_dk dn_289_0_1_ok 12 rfl))))))
  (e_Tok2
  (e_Tok2
  (e_Tok2
  (e_Lok (e_rt (I := eI) (k := 1) ⟨(x_dk dn_289_0_1_ok 13 rfl), rfl⟩))
  (e_Lok (ld_aload_n_0 (x_dk dn_289_0_1_ok 14 rfl))))
  (e_Tok2
  (e_Lok (lk_12_113g ho_289 (x_dk dn_289_0_1_ok 15 rfl)))
  (e_Lok (ld_aload_n_0 (x_dk dn_289_0_1_ok 16 rfl)))))
  (e_Tok2
  (e_Tok2
  (e_Lok (lk_12_279g ho_289 (x_dk dn_289_0_1_ok 17 rfl)))
  (e_Lok (ld_iload_n_3 (x_dk dn_289_0_1_ok 18 rfl))))
  (e_Tok2
  (e_Lok (sm_iastore (x_dk dn_289_0_1_ok 19 rfl)))
  (e_Lok (ld_aload_n_0 (x_dk dn_289_0_1_ok 20 rfl)))))))
  (e_Tok2
  (e_Tok2
  (e_Tok2
  (e_Tok2
  (e_Lok (ld_aload_n_0 (x_dk dn_289_0_1_ok 21 rfl)))
  (e_Lok (lk_12_279g ho_289 (x_dk dn_289_0_1_ok 22 rfl))))
  (e_Tok2
  (e_Lok (ld_iload_n_1 (x_dk dn_289_0_1_ok 23 rfl)))
  (e_Lok (ld_iload_n_2 (x_dk dn_289_0_1_ok 24 rfl)))))
  (e_Tok2
  (e_Tok2
  (e_Lok (lk_12_354 ho_289 (x_dk dn_289_0_2_ok 0 rfl)))
  (e_Lok (ld_aload_n_0 (x_dk dn_289_0_2_ok 1 rfl))))
  (e_Tok2
  (e_Lok (e_st (I := eI) (er_dup (x_dk dn_289_0_2_ok 2 rfl)) (nx_stk bf_dup)))
  (e_Lok (lk_12_279g ho_289 (x_dk dn_289_0_2_ok 3 rfl))))))
  (e_Tok2
  (e_Tok2
  (e_Tok2
  (e_Lok (ps_iconst_1 (x_dk dn_289_0_2_ok 4 rfl)))
  (e_Lok (sm_iadd (x_dk dn_289_0_2_ok 5 rfl))))
  (e_Tok2
  (e_Lok (lk_12_279p ho_289 (x_dk dn_289_0_2_ok 6 rfl)))
  (e_Lok (ld_aload_n_0 (x_dk dn_289_0_2_ok 7 rfl)))))
  (e_Tok2
  (e_Tok2
  (e_Lok (lk_12_279g ho_289 (x_dk dn_289_0_2_ok 8 rfl)))
  (e_Lok (ps_iconst_1 (x_dk dn_289_0_2_ok 9 rfl))))
  (e_Tok2
  (e_Lok (sm_isub (x_dk dn_289_0_2_ok 10 rfl)))
  (e_Lok (e_rt (I := eI) (k := 1) ⟨(x_dk dn_289_0_2_ok 11 rfl), rfl⟩)))))))
def te_289 : Nat → eE := (e_T 50 te_289_0 te_289_31)
theorem te_289_ok : ∀ pc, e_EOq eft cls elay eI n_289 pc (te_289 pc) := (e_Tok2 (te_289_0_ok) (te_289_31_ok))
theorem ho_290 : (xm_y n_290).cls = "RobotCellHouseModel" := rfl
def dn_290_0_0 : List (Nat × Instr × Nat) := [(0, .iload_n 1, 1), (1, .iload_n 2, 1), (2, .invokestatic 313, 3), (5, .ifCond .eq 15, 3), (8, .iload_n 3, 1), (9, .i2l, 1), (10, .lconst 0, 1), (11, .ldc2_w 330, 3), (14, .invokestatic 301, 3), (17, .ifCond .ne 5, 3), (20, .iconst (-1), 1), (21, .ireturn, 1), (22, .aload_n 0, 1), (23, .getfield 265, 3), (26, .ifCond .eq 6, 3), (29, .bipush (-2), 2), (31, .ireturn, 1), (32, .aload_n 0, 1), (33, .getfield 279, 3), (36, .bipush 32, 2), (38, .if_icmp .ne 6, 3), (41, .bipush (-3), 2), (43, .ireturn, 1), (44, .aload_n 0, 1), (45, .getfield 113, 3)]
set_option maxRecDepth 20000 in
theorem dn_290_0_0_ok : dn_290_0_0.all (fun q => decide (decode (xm_b n_290) q.1 = .ok (q.2.1, q.2.2))) = true := xa_g_ok (by decide +kernel)
def dn_290_0_1 : List (Nat × Instr × Nat) := [(48, .aload_n 0, 1), (49, .getfield 279, 3), (52, .iload_n 3, 1), (53, .iastore, 1), (54, .aload_n 0, 1), (55, .aload_n 0, 1), (56, .getfield 279, 3), (59, .iload_n 1, 1), (60, .iload_n 2, 1), (61, .invokevirtual 358, 3), (64, .aload_n 0, 1), (65, .dup, 1), (66, .getfield 279, 3), (69, .iconst 1, 1), (70, .iadd, 1), (71, .putfield 279, 3), (74, .aload_n 0, 1), (75, .getfield 279, 3), (78, .iconst 1, 1), (79, .isub, 1), (80, .ireturn, 1)]
set_option maxRecDepth 20000 in
theorem dn_290_0_1_ok : dn_290_0_1.all (fun q => decide (decode (xm_b n_290) q.1 = .ok (q.2.1, q.2.2))) = true := xa_g_ok (by decide +kernel)
def te_290_0 : Nat → eE := (e_T 20 (e_T 8 (e_T 1 (e_T 0 (e_L 0 (0, ei_load 1 0 1, 0, 0)) (e_L 1 (0, ei_load 2 0 2, 0, 0))) (e_T 2 (e_L 2 (2, e_nof, 272, 2)) (e_T 5 (e_L 5 (0, ei_if1 0 20 8, 0, 0)) (e_L 8 (0, ei_load 3 0 9, 0, 0))))) (e_T 11 (e_T 9 (e_L 9 (0, ei_un (fun x => (4, x)) 10, 0, 0)) (e_T 10 (e_L 10 (0, ei_push (4, 0) 11, 0, 0)) (e_L 11 (0, ei_push (4, 800) 14, 0, 0)))) (e_T 14 (e_L 14 (2, e_nof, 266, 3)) (e_T 17 (e_L 17 (0, ei_if1 1 22 20, 0, 0)) (e_L 20 (0, ei_push (0, (-1)) 21, 0, 0)))))) (e_T 31 (e_T 23 (e_T 21 (e_L 21 (1, e_nof, 1, 0)) (e_T 22 (e_L 22 (0, ei_load 0 2 23, 0, 0)) (e_L 23 (0, ei_getf eft elay 12 3 26, 0, 0)))) (e_T 26 (e_L 26 (0, ei_if1 0 32 29, 0, 0)) (e_T 29 (e_L 29 (0, ei_push (0, (-2)) 31, 0, 0)) (e_L 31 (1, e_nof, 1, 0))))) (e_T 36 (e_T 32 (e_L 32 (0, ei_load 0 2 33, 0, 0)) (e_T 33 (e_L 33 (0, ei_getf eft elay 12 40 36, 0, 0)) (e_L 36 (0, ei_push (0, 32) 38, 0, 0)))) (e_T 38 (e_L 38 (0, ei_if2 1 44 41, 0, 0)) (e_T 41 (e_L 41 (0, ei_push (0, (-3)) 43, 0, 0)) (e_L 43 (1, e_nof, 1, 0)))))))
set_option maxRecDepth 20000 in
set_option maxHeartbeats 4000000 in
theorem te_290_0_ok : ∀ pc, e_EOq eft cls elay eI n_290 pc (te_290_0 pc) :=
  (e_Tok2
  (e_Tok2
  (e_Tok2
  (e_Tok2
  (e_Lok (ld_iload_n_1 (x_dk dn_290_0_0_ok 0 rfl)))
  (e_Lok (ld_iload_n_2 (x_dk dn_290_0_0_ok 1 rfl))))
  (e_Tok2
  (e_Lok (lk_12_313 ho_290 (x_dk dn_290_0_0_ok 2 rfl)))
  (e_Tok2
  (e_Lok (e_st (I := eI) (er_ifeq (off := 15) (tg := 20) (x_dk dn_290_0_0_ok 3 rfl) (by decide)) nx_if1))
  (e_Lok (ld_iload_n_3 (x_dk dn_290_0_0_ok 4 rfl))))))
  (e_Tok2
  (e_Tok2
  (e_Lok (e_st (I := eI) (er_i2l (x_dk dn_290_0_0_ok 5 rfl)) (nx_un (fun _ => rfl))))
  (e_Tok2
  (e_Lok (ps_lconst_0 (x_dk dn_290_0_0_ok 6 rfl)))
  (e_Lok (e_st (I := eI) (er_ldc2 (ix := 330) (z := 800) (v := 800) (x_dk dn_290_0_0_ok 7 rfl) (in_t11 (List.mem_of_getElem? (i := 19) rfl) rfl) (by decide)) (nx_push (Or.inl rfl))))))
  (e_Tok2
  (e_Lok (lk_12_301 ho_290 (x_dk dn_290_0_0_ok 8 rfl)))
  (e_Tok2
  (e_Lok (e_st (I := eI) (er_ifne (off := 5) (tg := 22) (x_dk dn_290_0_0_ok 9 rfl) (by decide)) nx_if1))
  (e_Lok (ps_iconst_m1 (x_dk dn_290_0_0_ok 10 rfl)))))))
  (e_Tok2
  (e_Tok2
  (e_Tok2
  (e_Lok (e_rt (I := eI) (k := 1) ⟨(x_dk dn_290_0_0_ok 11 rfl), rfl⟩))
  (e_Tok2
  (e_Lok (ld_aload_n_0 (x_dk dn_290_0_0_ok 12 rfl)))
  (e_Lok (lk_12_265g ho_290 (x_dk dn_290_0_0_ok 13 rfl)))))
  (e_Tok2
  (e_Lok (e_st (I := eI) (er_ifeq (off := 6) (tg := 32) (x_dk dn_290_0_0_ok 14 rfl) (by decide)) nx_if1))
  (e_Tok2
  (e_Lok (ps_bipush_m2 (x_dk dn_290_0_0_ok 15 rfl)))
  (e_Lok (e_rt (I := eI) (k := 1) ⟨(x_dk dn_290_0_0_ok 16 rfl), rfl⟩)))))
  (e_Tok2
  (e_Tok2
  (e_Lok (ld_aload_n_0 (x_dk dn_290_0_0_ok 17 rfl)))
  (e_Tok2
  (e_Lok (lk_12_279g ho_290 (x_dk dn_290_0_0_ok 18 rfl)))
  (e_Lok (ps_bipush_32 (x_dk dn_290_0_0_ok 19 rfl)))))
  (e_Tok2
  (e_Lok (e_st (I := eI) (er_icmpne (off := 6) (tg := 44) (x_dk dn_290_0_0_ok 20 rfl) (by decide)) nx_if2))
  (e_Tok2
  (e_Lok (ps_bipush_m3 (x_dk dn_290_0_0_ok 21 rfl)))
  (e_Lok (e_rt (I := eI) (k := 1) ⟨(x_dk dn_290_0_0_ok 22 rfl), rfl⟩)))))))
def te_290_23 : Nat → eE := (e_T 60 (e_T 52 (e_T 45 (e_T 44 (e_L 44 (0, ei_load 0 2 45, 0, 0)) (e_L 45 (0, ei_getf eft elay 12 41 48, 0, 0))) (e_T 48 (e_L 48 (0, ei_load 0 2 49, 0, 0)) (e_T 49 (e_L 49 (0, ei_getf eft elay 12 40 52, 0, 0)) (e_L 52 (0, ei_load 3 0 53, 0, 0))))) (e_T 55 (e_T 53 (e_L 53 (0, ei_ast elay false 54, 0, 0)) (e_T 54 (e_L 54 (0, ei_load 0 2 55, 0, 0)) (e_L 55 (0, ei_load 0 2 56, 0, 0)))) (e_T 56 (e_L 56 (0, ei_getf eft elay 12 40 59, 0, 0)) (e_T 59 (e_L 59 (0, ei_load 1 0 60, 0, 0)) (e_L 60 (0, ei_load 2 0 61, 0, 0)))))) (e_T 70 (e_T 65 (e_T 61 (e_L 61 (2, e_nof, 394, 4)) (e_T 64 (e_L 64 (0, ei_load 0 2 65, 0, 0)) (e_L 65 (0, ei_stk ef_dup 66, 0, 0)))) (e_T 66 (e_L 66 (0, ei_getf eft elay 12 40 69, 0, 0)) (e_T 69 (e_L 69 (0, ei_push (0, 1) 70, 0, 0)) (e_L 70 (0, ei_bin eF_add 71, 0, 0))))) (e_T 75 (e_T 71 (e_L 71 (0, ei_putf eft elay 12 40 0 74, 0, 0)) (e_T 74 (e_L 74 (0, ei_load 0 2 75, 0, 0)) (e_L 75 (0, ei_getf eft elay 12 40 78, 0, 0)))) (e_T 78 (e_L 78 (0, ei_push (0, 1) 79, 0, 0)) (e_T 79 (e_L 79 (0, ei_bin eF_sub 80, 0, 0)) (e_L 80 (1, e_nof, 1, 0)))))))
set_option maxRecDepth 20000 in
set_option maxHeartbeats 4000000 in
theorem te_290_23_ok : ∀ pc, e_EOq eft cls elay eI n_290 pc (te_290_23 pc) :=
  (e_Tok2
  (e_Tok2
  (e_Tok2
  (e_Tok2
  (e_Lok (ld_aload_n_0 (x_dk dn_290_0_0_ok 23 rfl)))
  (e_Lok (lk_12_113g ho_290 (x_dk dn_290_0_0_ok 24 rfl))))
  (e_Tok2
  (e_Lok (ld_aload_n_0 (x_dk dn_290_0_1_ok 0 rfl)))
  (e_Tok2
  (e_Lok (lk_12_279g ho_290 (x_dk dn_290_0_1_ok 1 rfl)))
  (e_Lok (ld_iload_n_3 (x_dk dn_290_0_1_ok 2 rfl))))))
  (e_Tok2
  (e_Tok2
  (e_Lok (sm_iastore (x_dk dn_290_0_1_ok 3 rfl)))
  (e_Tok2
  (e_Lok (ld_aload_n_0 (x_dk dn_290_0_1_ok 4 rfl)))
  (e_Lok (ld_aload_n_0 (x_dk dn_290_0_1_ok 5 rfl)))))
  (e_Tok2
  (e_Lok (lk_12_279g ho_290 (x_dk dn_290_0_1_ok 6 rfl)))
  (e_Tok2
  (e_Lok (ld_iload_n_1 (x_dk dn_290_0_1_ok 7 rfl)))
  (e_Lok (ld_iload_n_2 (x_dk dn_290_0_1_ok 8 rfl)))))))
  (e_Tok2
  (e_Tok2
  (e_Tok2
  (e_Lok (lk_12_358 ho_290 (x_dk dn_290_0_1_ok 9 rfl)))
  (e_Tok2
  (e_Lok (ld_aload_n_0 (x_dk dn_290_0_1_ok 10 rfl)))
  (e_Lok (e_st (I := eI) (er_dup (x_dk dn_290_0_1_ok 11 rfl)) (nx_stk bf_dup)))))
  (e_Tok2
  (e_Lok (lk_12_279g ho_290 (x_dk dn_290_0_1_ok 12 rfl)))
  (e_Tok2
  (e_Lok (ps_iconst_1 (x_dk dn_290_0_1_ok 13 rfl)))
  (e_Lok (sm_iadd (x_dk dn_290_0_1_ok 14 rfl))))))
  (e_Tok2
  (e_Tok2
  (e_Lok (lk_12_279p ho_290 (x_dk dn_290_0_1_ok 15 rfl)))
  (e_Tok2
  (e_Lok (ld_aload_n_0 (x_dk dn_290_0_1_ok 16 rfl)))
  (e_Lok (lk_12_279g ho_290 (x_dk dn_290_0_1_ok 17 rfl)))))
  (e_Tok2
  (e_Lok (ps_iconst_1 (x_dk dn_290_0_1_ok 18 rfl)))
  (e_Tok2
  (e_Lok (sm_isub (x_dk dn_290_0_1_ok 19 rfl)))
  (e_Lok (e_rt (I := eI) (k := 1) ⟨(x_dk dn_290_0_1_ok 20 rfl), rfl⟩)))))))
def te_290 : Nat → eE := (e_T 43 te_290_0 te_290_23)
theorem te_290_ok : ∀ pc, e_EOq eft cls elay eI n_290 pc (te_290 pc) := (e_Tok2 (te_290_0_ok) (te_290_23_ok))
theorem ho_291 : (xm_y n_291).cls = "RobotCellHouseModel" := rfl
def dn_291_0_0 : List (Nat × Instr × Nat) := [(0, .aload_n 0, 1), (1, .iload_n 1, 1), (2, .invokevirtual 305, 3), (5, .ifCond .eq 15, 3), (8, .iload_n 2, 1), (9, .iload_n 3, 1), (10, .iload 4, 2), (12, .iload 5, 2), (14, .invokestatic 342, 3), (17, .ifCond .ne 5, 3), (20, .iconst (-1), 1), (21, .ireturn, 1), (22, .aload_n 0, 1), (23, .getfield 265, 3), (26, .ifCond .eq 6, 3), (29, .bipush (-2), 2), (31, .ireturn, 1), (32, .aload_n 0, 1), (33, .getfield 282, 3), (36, .bipush 8, 2), (38, .if_icmp .ne 6, 3), (41, .bipush (-3), 2), (43, .ireturn, 1), (44, .aload_n 0, 1), (45, .getfield 116, 3)]
set_option maxRecDepth 20000 in
theorem dn_291_0_0_ok : dn_291_0_0.all (fun q => decide (decode (xm_b n_291) q.1 = .ok (q.2.1, q.2.2))) = true := xa_g_ok (by decide +kernel)
def dn_291_0_1 : List (Nat × Instr × Nat) := [(48, .aload_n 0, 1), (49, .getfield 282, 3), (52, .iload_n 1, 1), (53, .iastore, 1), (54, .aload_n 0, 1), (55, .getfield 119, 3), (58, .aload_n 0, 1), (59, .getfield 282, 3), (62, .iload_n 2, 1), (63, .iastore, 1), (64, .aload_n 0, 1), (65, .getfield 122, 3), (68, .aload_n 0, 1), (69, .getfield 282, 3), (72, .iload_n 3, 1), (73, .iastore, 1), (74, .aload_n 0, 1), (75, .getfield 125, 3), (78, .aload_n 0, 1), (79, .getfield 282, 3), (82, .iload 4, 2), (84, .iastore, 1), (85, .aload_n 0, 1), (86, .getfield 128, 3), (89, .aload_n 0, 1)]
set_option maxRecDepth 20000 in
theorem dn_291_0_1_ok : dn_291_0_1.all (fun q => decide (decode (xm_b n_291) q.1 = .ok (q.2.1, q.2.2))) = true := xa_g_ok (by decide +kernel)
def dn_291_0_2 : List (Nat × Instr × Nat) := [(90, .getfield 282, 3), (93, .iload 5, 2), (95, .iastore, 1), (96, .aload_n 0, 1), (97, .getfield 131, 3), (100, .aload_n 0, 1), (101, .getfield 282, 3), (104, .iconst (-1), 1), (105, .iastore, 1), (106, .aload_n 0, 1), (107, .dup, 1), (108, .getfield 282, 3), (111, .iconst 1, 1), (112, .iadd, 1), (113, .putfield 282, 3), (116, .aload_n 0, 1), (117, .getfield 282, 3), (120, .iconst 1, 1), (121, .isub, 1), (122, .ireturn, 1)]
set_option maxRecDepth 20000 in
theorem dn_291_0_2_ok : dn_291_0_2.all (fun q => decide (decode (xm_b n_291) q.1 = .ok (q.2.1, q.2.2))) = true := xa_g_ok (by decide +kernel)
def te_291_0 : Nat → eE := (e_T 31 (e_T 12 (e_T 5 (e_T 1 (e_T 0 (e_L 0 (0, ei_load 0 2 1, 0, 0)) (e_L 1 (0, ei_load 1 0 2, 0, 0))) (e_T 2 (e_L 2 (2, e_nof, 270, 2)) (e_L 5 (0, ei_if1 0 20 8, 0, 0)))) (e_T 9 (e_T 8 (e_L 8 (0, ei_load 2 0 9, 0, 0)) (e_L 9 (0, ei_load 3 0 10, 0, 0))) (e_T 10 (e_L 10 (0, ei_load 4 0 12, 0, 0)) (e_L 12 (0, ei_load 5 0 14, 0, 0))))) (e_T 21 (e_T 17 (e_T 14 (e_L 14 (2, e_nof, 273, 4)) (e_L 17 (0, ei_if1 1 22 20, 0, 0))) (e_T 20 (e_L 20 (0, ei_push (0, (-1)) 21, 0, 0)) (e_L 21 (1, e_nof, 1, 0)))) (e_T 23 (e_T 22 (e_L 22 (0, ei_load 0 2 23, 0, 0)) (e_L 23 (0, ei_getf eft elay 12 3 26, 0, 0))) (e_T 26 (e_L 26 (0, ei_if1 0 32 29, 0, 0)) (e_T 29 (e_L 29 (0, ei_push (0, (-2)) 31, 0, 0)) (e_L 31 (1, e_nof, 1, 0))))))) (e_T 48 (e_T 38 (e_T 33 (e_T 32 (e_L 32 (0, ei_load 0 2 33, 0, 0)) (e_L 33 (0, ei_getf eft elay 12 42 36, 0, 0))) (e_T 36 (e_L 36 (0, ei_push (0, 8) 38, 0, 0)) (e_L 38 (0, ei_if2 1 44 41, 0, 0)))) (e_T 43 (e_T 41 (e_L 41 (0, ei_push (0, (-3)) 43, 0, 0)) (e_L 43 (1, e_nof, 1, 0))) (e_T 44 (e_L 44 (0, ei_load 0 2 45, 0, 0)) (e_T 45 (e_L 45 (0, ei_getf eft elay 12 43 48, 0, 0)) (e_L 48 (0, ei_load 0 2 49, 0, 0)))))) (e_T 54 (e_T 52 (e_T 49 (e_L 49 (0, ei_getf eft elay 12 42 52, 0, 0)) (e_L 52 (0, ei_load 1 0 53, 0, 0))) (e_T 53 (e_L 53 (0, ei_ast elay false 54, 0, 0)) (e_L 54 (0, ei_load 0 2 55, 0, 0)))) (e_T 58 (e_T 55 (e_L 55 (0, ei_getf eft elay 12 44 58, 0, 0)) (e_L 58 (0, ei_load 0 2 59, 0, 0))) (e_T 59 (e_L 59 (0, ei_getf eft elay 12 42 62, 0, 0)) (e_T 62 (e_L 62 (0, ei_load 2 0 63, 0, 0)) (e_L 63 (0, ei_ast elay false 64, 0, 0))))))))
set_option maxRecDepth 20000 in
set_option maxHeartbeats 4000000 in
theorem te_291_0_ok : ∀ pc, e_EOq eft cls elay eI n_291 pc (te_291_0 pc) :=
  (e_Tok2
  (e_Tok2
  (e_Tok2
  (e_Tok2
  (e_Tok2
  (e_Lok (ld_aload_n_0 (x_dk dn_291_0_0_ok 0 rfl)))
  (e_Lok (ld_iload_n_1 (x_dk dn_291_0_0_ok 1 rfl))))
  (e_Tok2
  (e_Lok (lk_12_305 ho_291 (x_dk dn_291_0_0_ok 2 rfl)))
  (e_Lok (e_st (I := eI) (er_ifeq (off := 15) (tg := 20) (x_dk dn_291_0_0_ok 3 rfl) (by decide)) nx_if1))))
  (e_Tok2
  (e_Tok2
  (e_Lok (ld_iload_n_2 (x_dk dn_291_0_0_ok 4 rfl)))
  (e_Lok (ld_iload_n_3 (x_dk dn_291_0_0_ok 5 rfl))))
  (e_Tok2
  (e_Lok (ld_iload_4 (x_dk dn_291_0_0_ok 6 rfl)))
  (e_Lok (ld_iload_5 (x_dk dn_291_0_0_ok 7 rfl))))))
  (e_Tok2
  (e_Tok2
  (e_Tok2
  (e_Lok (lk_12_342 ho_291 (x_dk dn_291_0_0_ok 8 rfl)))
  (e_Lok (e_st (I := eI) (er_ifne (off := 5) (tg := 22) (x_dk dn_291_0_0_ok 9 rfl) (by decide)) nx_if1)))
  (e_Tok2
  (e_Lok (ps_iconst_m1 (x_dk dn_291_0_0_ok 10 rfl)))
  (e_Lok (e_rt (I := eI) (k := 1) ⟨(x_dk dn_291_0_0_ok 11 rfl), rfl⟩))))
  (e_Tok2
  (e_Tok2
  (e_Lok (ld_aload_n_0 (x_dk dn_291_0_0_ok 12 rfl)))
  (e_Lok (lk_12_265g ho_291 (x_dk dn_291_0_0_ok 13 rfl))))
  (e_Tok2
  (e_Lok (e_st (I := eI) (er_ifeq (off := 6) (tg := 32) (x_dk dn_291_0_0_ok 14 rfl) (by decide)) nx_if1))
  (e_Tok2
  (e_Lok (ps_bipush_m2 (x_dk dn_291_0_0_ok 15 rfl)))
  (e_Lok (e_rt (I := eI) (k := 1) ⟨(x_dk dn_291_0_0_ok 16 rfl), rfl⟩)))))))
  (e_Tok2
  (e_Tok2
  (e_Tok2
  (e_Tok2
  (e_Lok (ld_aload_n_0 (x_dk dn_291_0_0_ok 17 rfl)))
  (e_Lok (lk_12_282g ho_291 (x_dk dn_291_0_0_ok 18 rfl))))
  (e_Tok2
  (e_Lok (ps_bipush_8 (x_dk dn_291_0_0_ok 19 rfl)))
  (e_Lok (e_st (I := eI) (er_icmpne (off := 6) (tg := 44) (x_dk dn_291_0_0_ok 20 rfl) (by decide)) nx_if2))))
  (e_Tok2
  (e_Tok2
  (e_Lok (ps_bipush_m3 (x_dk dn_291_0_0_ok 21 rfl)))
  (e_Lok (e_rt (I := eI) (k := 1) ⟨(x_dk dn_291_0_0_ok 22 rfl), rfl⟩)))
  (e_Tok2
  (e_Lok (ld_aload_n_0 (x_dk dn_291_0_0_ok 23 rfl)))
  (e_Tok2
  (e_Lok (lk_12_116g ho_291 (x_dk dn_291_0_0_ok 24 rfl)))
  (e_Lok (ld_aload_n_0 (x_dk dn_291_0_1_ok 0 rfl)))))))
  (e_Tok2
  (e_Tok2
  (e_Tok2
  (e_Lok (lk_12_282g ho_291 (x_dk dn_291_0_1_ok 1 rfl)))
  (e_Lok (ld_iload_n_1 (x_dk dn_291_0_1_ok 2 rfl))))
  (e_Tok2
  (e_Lok (sm_iastore (x_dk dn_291_0_1_ok 3 rfl)))
  (e_Lok (ld_aload_n_0 (x_dk dn_291_0_1_ok 4 rfl)))))
  (e_Tok2
  (e_Tok2
  (e_Lok (lk_12_119g ho_291 (x_dk dn_291_0_1_ok 5 rfl)))
  (e_Lok (ld_aload_n_0 (x_dk dn_291_0_1_ok 6 rfl))))
  (e_Tok2
  (e_Lok (lk_12_282g ho_291 (x_dk dn_291_0_1_ok 7 rfl)))
  (e_Tok2
  (e_Lok (ld_iload_n_2 (x_dk dn_291_0_1_ok 8 rfl)))
  (e_Lok (sm_iastore (x_dk dn_291_0_1_ok 9 rfl)))))))))
def te_291_35 : Nat → eE := (e_T 93 (e_T 75 (e_T 69 (e_T 65 (e_T 64 (e_L 64 (0, ei_load 0 2 65, 0, 0)) (e_L 65 (0, ei_getf eft elay 12 45 68, 0, 0))) (e_T 68 (e_L 68 (0, ei_load 0 2 69, 0, 0)) (e_L 69 (0, ei_getf eft elay 12 42 72, 0, 0)))) (e_T 73 (e_T 72 (e_L 72 (0, ei_load 3 0 73, 0, 0)) (e_L 73 (0, ei_ast elay false 74, 0, 0))) (e_T 74 (e_L 74 (0, ei_load 0 2 75, 0, 0)) (e_L 75 (0, ei_getf eft elay 12 46 78, 0, 0))))) (e_T 84 (e_T 79 (e_T 78 (e_L 78 (0, ei_load 0 2 79, 0, 0)) (e_L 79 (0, ei_getf eft elay 12 42 82, 0, 0))) (e_T 82 (e_L 82 (0, ei_load 4 0 84, 0, 0)) (e_L 84 (0, ei_ast elay false 85, 0, 0)))) (e_T 86 (e_T 85 (e_L 85 (0, ei_load 0 2 86, 0, 0)) (e_L 86 (0, ei_getf eft elay 12 47 89, 0, 0))) (e_T 89 (e_L 89 (0, ei_load 0 2 90, 0, 0)) (e_T 90 (e_L 90 (0, ei_getf eft elay 12 42 93, 0, 0)) (e_L 93 (0, ei_load 5 0 95, 0, 0))))))) (e_T 107 (e_T 100 (e_T 96 (e_T 95 (e_L 95 (0, ei_ast elay false 96, 0, 0)) (e_L 96 (0, ei_load 0 2 97, 0, 0))) (e_T 97 (e_L 97 (0, ei_getf eft elay 12 48 100, 0, 0)) (e_L 100 (0, ei_load 0 2 101, 0, 0)))) (e_T 104 (e_T 101 (e_L 101 (0, ei_getf eft elay 12 42 104, 0, 0)) (e_L 104 (0, ei_push (0, (-1)) 105, 0, 0))) (e_T 105 (e_L 105 (0, ei_ast elay false 106, 0, 0)) (e_T 106 (e_L 106 (0, ei_load 0 2 107, 0, 0)) (e_L 107 (0, ei_stk ef_dup 108, 0, 0)))))) (e_T 113 (e_T 111 (e_T 108 (e_L 108 (0, ei_getf eft elay 12 42 111, 0, 0)) (e_L 111 (0, ei_push (0, 1) 112, 0, 0))) (e_T 112 (e_L 112 (0, ei_bin eF_add 113, 0, 0)) (e_L 113 (0, ei_putf eft elay 12 42 0 116, 0, 0)))) (e_T 117 (e_T 116 (e_L 116 (0, ei_load 0 2 117, 0, 0)) (e_L 117 (0, ei_getf eft elay 12 42 120, 0, 0))) (e_T 120 (e_L 120 (0, ei_push (0, 1) 121, 0, 0)) (e_T 121 (e_L 121 (0, ei_bin eF_sub 122, 0, 0)) (e_L 122 (1, e_nof, 1, 0))))))))
set_option maxRecDepth 20000 in
set_option maxHeartbeats 4000000 in
theorem te_291_35_ok : ∀ pc, e_EOq eft cls elay eI n_291 pc (te_291_35 pc) :=
  (e_Tok2
  (e_Tok2
  (e_Tok2
  (e_Tok2
  (e_Tok2
  (e_Lok (ld_aload_n_0 (x_dk dn_291_0_1_ok 10 rfl)))
  (e_Lok (lk_12_122g ho_291 (x_dk dn_291_0_1_ok 11 rfl))))
  (e_Tok2
  (e_Lok (ld_aload_n_0 (x_dk dn_291_0_1_ok 12 rfl)))
  (e_Lok (lk_12_282g ho_291 (x_dk dn_291_0_1_ok 13 rfl)))))
  (e_Tok2
  (e_Tok2
  (e_Lok (ld_iload_n_3 (x_dk dn_291_0_1_ok 14 rfl)))
  (e_Lok (sm_iastore (x_dk dn_291_0_1_ok 15 rfl))))
  (e_Tok2
  (e_Lok (ld_aload_n_0 (x_dk dn_291_0_1_ok 16 rfl)))
  (e_Lok (lk_12_125g ho_291 (x_dk dn_291_0_1_ok 17 rfl))))))
  (e_Tok2
  (e_Tok2
  (e_Tok2
  (e_Lok (ld_aload_n_0 (x_dk dn_291_0_1_ok 18 rfl)))
  (e_Lok (lk_12_282g ho_291 (x_dk dn_291_0_1_ok 19 rfl))))
  (e_Tok2
  (e_Lok (ld_iload_4 (x_dk dn_291_0_1_ok 20 rfl)))
  (e_Lok (sm_iastore (x_dk dn_291_0_1_ok 21 rfl)))))
  (e_Tok2
  (e_Tok2
  (e_Lok (ld_aload_n_0 (x_dk dn_291_0_1_ok 22 rfl)))
  (e_Lok (lk_12_128g ho_291 (x_dk dn_291_0_1_ok 23 rfl))))
  (e_Tok2
  (e_Lok (ld_aload_n_0 (x_dk dn_291_0_1_ok 24 rfl)))
  (e_Tok2
  (e_Lok (lk_12_282g ho_291 (x_dk dn_291_0_2_ok 0 rfl)))
  (e_Lok (ld_iload_5 (x_dk dn_291_0_2_ok 1 rfl))))))))
  (e_Tok2
  (e_Tok2
  (e_Tok2
  (e_Tok2
  (e_Lok (sm_iastore (x_dk dn_291_0_2_ok 2 rfl)))
  (e_Lok (ld_aload_n_0 (x_dk dn_291_0_2_ok 3 rfl))))
  (e_Tok2
  (e_Lok (lk_12_131g ho_291 (x_dk dn_291_0_2_ok 4 rfl)))
  (e_Lok (ld_aload_n_0 (x_dk dn_291_0_2_ok 5 rfl)))))
  (e_Tok2
  (e_Tok2
  (e_Lok (lk_12_282g ho_291 (x_dk dn_291_0_2_ok 6 rfl)))
  (e_Lok (ps_iconst_m1 (x_dk dn_291_0_2_ok 7 rfl))))
  (e_Tok2
  (e_Lok (sm_iastore (x_dk dn_291_0_2_ok 8 rfl)))
  (e_Tok2
  (e_Lok (ld_aload_n_0 (x_dk dn_291_0_2_ok 9 rfl)))
  (e_Lok (e_st (I := eI) (er_dup (x_dk dn_291_0_2_ok 10 rfl)) (nx_stk bf_dup)))))))
  (e_Tok2
  (e_Tok2
  (e_Tok2
  (e_Lok (lk_12_282g ho_291 (x_dk dn_291_0_2_ok 11 rfl)))
  (e_Lok (ps_iconst_1 (x_dk dn_291_0_2_ok 12 rfl))))
  (e_Tok2
  (e_Lok (sm_iadd (x_dk dn_291_0_2_ok 13 rfl)))
  (e_Lok (lk_12_282p ho_291 (x_dk dn_291_0_2_ok 14 rfl)))))
  (e_Tok2
  (e_Tok2
  (e_Lok (ld_aload_n_0 (x_dk dn_291_0_2_ok 15 rfl)))
  (e_Lok (lk_12_282g ho_291 (x_dk dn_291_0_2_ok 16 rfl))))
  (e_Tok2
  (e_Lok (ps_iconst_1 (x_dk dn_291_0_2_ok 17 rfl)))
  (e_Tok2
  (e_Lok (sm_isub (x_dk dn_291_0_2_ok 18 rfl)))
  (e_Lok (e_rt (I := eI) (k := 1) ⟨(x_dk dn_291_0_2_ok 19 rfl), rfl⟩))))))))
def te_291 : Nat → eE := (e_T 63 te_291_0 te_291_35)
theorem te_291_ok : ∀ pc, e_EOq eft cls elay eI n_291 pc (te_291 pc) := (e_Tok2 (te_291_0_ok) (te_291_35_ok))
theorem ho_292 : (xm_y n_292).cls = "RobotCellHouseModel" := rfl
def dn_292_0_0 : List (Nat × Instr × Nat) := [(0, .iload_n 1, 1), (1, .i2l, 1), (2, .lconst 0, 1), (3, .aload_n 0, 1), (4, .getfield 282, 3), (7, .iconst 1, 1), (8, .isub, 1), (9, .i2l, 1), (10, .invokestatic 301, 3), (13, .ifCond .eq 17, 3), (16, .iload_n 2, 1), (17, .i2l, 1), (18, .ldc2_w 361, 3), (21, .ldc2_w 363, 3), (24, .invokestatic 301, 3), (27, .ifCond .ne 5, 3), (30, .iconst (-1), 1), (31, .ireturn, 1), (32, .aload_n 0, 1), (33, .getfield 265, 3), (36, .ifCond .eq 6, 3), (39, .bipush (-2), 2), (41, .ireturn, 1), (42, .aload_n 0, 1), (43, .getfield 131, 3)]
set_option maxRecDepth 20000 in
theorem dn_292_0_0_ok : dn_292_0_0.all (fun q => decide (decode (xm_b n_292) q.1 = .ok (q.2.1, q.2.2))) = true := xa_g_ok (by decide +kernel)
def dn_292_0_1 : List (Nat × Instr × Nat) := [(46, .iload_n 1, 1), (47, .iaload, 1), (48, .istore_n 3, 1), (49, .aload_n 0, 1), (50, .getfield 131, 3), (53, .iload_n 1, 1), (54, .iload_n 2, 1), (55, .iastore, 1), (56, .iload_n 3, 1), (57, .ireturn, 1)]
set_option maxRecDepth 20000 in
theorem dn_292_0_1_ok : dn_292_0_1.all (fun q => decide (decode (xm_b n_292) q.1 = .ok (q.2.1, q.2.2))) = true := xa_g_ok (by decide +kernel)
def te_292_0 : Nat → eE := (e_T 30 (e_T 9 (e_T 3 (e_T 1 (e_T 0 (e_L 0 (0, ei_load 1 0 1, 0, 0)) (e_L 1 (0, ei_un (fun x => (4, x)) 2, 0, 0))) (e_T 2 (e_L 2 (0, ei_push (4, 0) 3, 0, 0)) (e_L 3 (0, ei_load 0 2 4, 0, 0)))) (e_T 7 (e_T 4 (e_L 4 (0, ei_getf eft elay 12 42 7, 0, 0)) (e_L 7 (0, ei_push (0, 1) 8, 0, 0))) (e_T 8 (e_L 8 (0, ei_bin eF_sub 9, 0, 0)) (e_L 9 (0, ei_un (fun x => (4, x)) 10, 0, 0))))) (e_T 17 (e_T 13 (e_T 10 (e_L 10 (2, e_nof, 266, 3)) (e_L 13 (0, ei_if1 0 30 16, 0, 0))) (e_T 16 (e_L 16 (0, ei_load 2 0 17, 0, 0)) (e_L 17 (0, ei_un (fun x => (4, x)) 18, 0, 0)))) (e_T 21 (e_T 18 (e_L 18 (0, ei_push (4, (-1)) 21, 0, 0)) (e_L 21 (0, ei_push (4, 32000) 24, 0, 0))) (e_T 24 (e_L 24 (2, e_nof, 266, 3)) (e_T 27 (e_L 27 (0, ei_if1 1 32 30, 0, 0)) (e_L 30 (0, ei_push (0, (-1)) 31, 0, 0))))))) (e_T 46 (e_T 36 (e_T 32 (e_T 31 (e_L 31 (1, e_nof, 1, 0)) (e_L 32 (0, ei_load 0 2 33, 0, 0))) (e_T 33 (e_L 33 (0, ei_getf eft elay 12 3 36, 0, 0)) (e_L 36 (0, ei_if1 0 42 39, 0, 0)))) (e_T 41 (e_T 39 (e_L 39 (0, ei_push (0, (-2)) 41, 0, 0)) (e_L 41 (1, e_nof, 1, 0))) (e_T 42 (e_L 42 (0, ei_load 0 2 43, 0, 0)) (e_T 43 (e_L 43 (0, ei_getf eft elay 12 48 46, 0, 0)) (e_L 46 (0, ei_load 1 0 47, 0, 0)))))) (e_T 50 (e_T 48 (e_T 47 (e_L 47 (0, ei_ald elay false 48, 0, 0)) (e_L 48 (0, ei_stor 3 0 49, 0, 0))) (e_T 49 (e_L 49 (0, ei_load 0 2 50, 0, 0)) (e_L 50 (0, ei_getf eft elay 12 48 53, 0, 0)))) (e_T 54 (e_T 53 (e_L 53 (0, ei_load 1 0 54, 0, 0)) (e_L 54 (0, ei_load 2 0 55, 0, 0))) (e_T 55 (e_L 55 (0, ei_ast elay false 56, 0, 0)) (e_T 56 (e_L 56 (0, ei_load 3 0 57, 0, 0)) (e_L 57 (1, e_nof, 1, 0))))))))
set_option maxRecDepth 20000 in
set_option maxHeartbeats 4000000 in
theorem te_292_0_ok : ∀ pc, e_EOq eft cls elay eI n_292 pc (te_292_0 pc) :=
  (e_Tok2
  (e_Tok2
  (e_Tok2
  (e_Tok2
  (e_Tok2
  (e_Lok (ld_iload_n_1 (x_dk dn_292_0_0_ok 0 rfl)))
  (e_Lok (e_st (I := eI) (er_i2l (x_dk dn_292_0_0_ok 1 rfl)) (nx_un (fun _ => rfl)))))
  (e_Tok2
  (e_Lok (ps_lconst_0 (x_dk dn_292_0_0_ok 2 rfl)))
  (e_Lok (ld_aload_n_0 (x_dk dn_292_0_0_ok 3 rfl)))))
  (e_Tok2
  (e_Tok2
  (e_Lok (lk_12_282g ho_292 (x_dk dn_292_0_0_ok 4 rfl)))
  (e_Lok (ps_iconst_1 (x_dk dn_292_0_0_ok 5 rfl))))
  (e_Tok2
  (e_Lok (sm_isub (x_dk dn_292_0_0_ok 6 rfl)))
  (e_Lok (e_st (I := eI) (er_i2l (x_dk dn_292_0_0_ok 7 rfl)) (nx_un (fun _ => rfl)))))))
  (e_Tok2
  (e_Tok2
  (e_Tok2
  (e_Lok (lk_12_301 ho_292 (x_dk dn_292_0_0_ok 8 rfl)))
  (e_Lok (e_st (I := eI) (er_ifeq (off := 17) (tg := 30) (x_dk dn_292_0_0_ok 9 rfl) (by decide)) nx_if1)))
  (e_Tok2
  (e_Lok (ld_iload_n_2 (x_dk dn_292_0_0_ok 10 rfl)))
  (e_Lok (e_st (I := eI) (er_i2l (x_dk dn_292_0_0_ok 11 rfl)) (nx_un (fun _ => rfl))))))
  (e_Tok2
  (e_Tok2
  (e_Lok (e_st (I := eI) (er_ldc2 (ix := 361) (z := (-1)) (v := (-1)) (x_dk dn_292_0_0_ok 12 rfl) (in_t11 (List.mem_of_getElem? (i := 109) rfl) rfl) (by decide)) (nx_push (Or.inl rfl))))
  (e_Lok (e_st (I := eI) (er_ldc2 (ix := 363) (z := 32000) (v := 32000) (x_dk dn_292_0_0_ok 13 rfl) (in_t11 (List.mem_of_getElem? (i := 110) rfl) rfl) (by decide)) (nx_push (Or.inl rfl)))))
  (e_Tok2
  (e_Lok (lk_12_301 ho_292 (x_dk dn_292_0_0_ok 14 rfl)))
  (e_Tok2
  (e_Lok (e_st (I := eI) (er_ifne (off := 5) (tg := 32) (x_dk dn_292_0_0_ok 15 rfl) (by decide)) nx_if1))
  (e_Lok (ps_iconst_m1 (x_dk dn_292_0_0_ok 16 rfl))))))))
  (e_Tok2
  (e_Tok2
  (e_Tok2
  (e_Tok2
  (e_Lok (e_rt (I := eI) (k := 1) ⟨(x_dk dn_292_0_0_ok 17 rfl), rfl⟩))
  (e_Lok (ld_aload_n_0 (x_dk dn_292_0_0_ok 18 rfl))))
  (e_Tok2
  (e_Lok (lk_12_265g ho_292 (x_dk dn_292_0_0_ok 19 rfl)))
  (e_Lok (e_st (I := eI) (er_ifeq (off := 6) (tg := 42) (x_dk dn_292_0_0_ok 20 rfl) (by decide)) nx_if1))))
  (e_Tok2
  (e_Tok2
  (e_Lok (ps_bipush_m2 (x_dk dn_292_0_0_ok 21 rfl)))
  (e_Lok (e_rt (I := eI) (k := 1) ⟨(x_dk dn_292_0_0_ok 22 rfl), rfl⟩)))
  (e_Tok2
  (e_Lok (ld_aload_n_0 (x_dk dn_292_0_0_ok 23 rfl)))
  (e_Tok2
  (e_Lok (lk_12_131g ho_292 (x_dk dn_292_0_0_ok 24 rfl)))
  (e_Lok (ld_iload_n_1 (x_dk dn_292_0_1_ok 0 rfl)))))))
  (e_Tok2
  (e_Tok2
  (e_Tok2
  (e_Lok (sm_iaload (x_dk dn_292_0_1_ok 1 rfl)))
  (e_Lok (e_st (I := eI) (er_istore_n (i := 3) (x_dk dn_292_0_1_ok 2 rfl) (by decide +kernel)) nx_stor)))
  (e_Tok2
  (e_Lok (ld_aload_n_0 (x_dk dn_292_0_1_ok 3 rfl)))
  (e_Lok (lk_12_131g ho_292 (x_dk dn_292_0_1_ok 4 rfl)))))
  (e_Tok2
  (e_Tok2
  (e_Lok (ld_iload_n_1 (x_dk dn_292_0_1_ok 5 rfl)))
  (e_Lok (ld_iload_n_2 (x_dk dn_292_0_1_ok 6 rfl))))
  (e_Tok2
  (e_Lok (sm_iastore (x_dk dn_292_0_1_ok 7 rfl)))
  (e_Tok2
  (e_Lok (ld_iload_n_3 (x_dk dn_292_0_1_ok 8 rfl)))
  (e_Lok (e_rt (I := eI) (k := 1) ⟨(x_dk dn_292_0_1_ok 9 rfl), rfl⟩))))))))
def te_292 : Nat → eE := te_292_0
theorem te_292_ok : ∀ pc, e_EOq eft cls elay eI n_292 pc (te_292 pc) := te_292_0_ok
theorem ho_293 : (xm_y n_293).cls = "RobotCellHouseModel" := rfl
def dn_293_0_0 : List (Nat × Instr × Nat) := [(0, .iload_n 1, 1), (1, .i2l, 1), (2, .lconst 0, 1), (3, .ldc2_w 365, 3), (6, .invokestatic 301, 3), (9, .ifCond .ne 5, 3), (12, .iconst (-1), 1), (13, .ireturn, 1), (14, .aload_n 0, 1), (15, .getfield 265, 3), (18, .ifCond .eq 6, 3), (21, .bipush (-2), 2), (23, .ireturn, 1), (24, .aload_n 0, 1), (25, .getfield 285, 3), (28, .bipush 8, 2), (30, .if_icmp .ne 6, 3), (33, .bipush (-3), 2), (35, .ireturn, 1), (36, .aload_n 0, 1), (37, .getfield 134, 3), (40, .aload_n 0, 1), (41, .getfield 285, 3), (44, .iload_n 1, 1), (45, .iastore, 1)]
set_option maxRecDepth 20000 in
theorem dn_293_0_0_ok : dn_293_0_0.all (fun q => decide (decode (xm_b n_293) q.1 = .ok (q.2.1, q.2.2))) = true := xa_g_ok (by decide +kernel)
def dn_293_0_1 : List (Nat × Instr × Nat) := [(46, .aload_n 0, 1), (47, .dup, 1), (48, .getfield 285, 3), (51, .iconst 1, 1), (52, .iadd, 1), (53, .putfield 285, 3), (56, .aload_n 0, 1), (57, .getfield 285, 3), (60, .iconst 1, 1), (61, .isub, 1), (62, .ireturn, 1)]
set_option maxRecDepth 20000 in
theorem dn_293_0_1_ok : dn_293_0_1.all (fun q => decide (decode (xm_b n_293) q.1 = .ok (q.2.1, q.2.2))) = true := xa_g_ok (by decide +kernel)
def te_293_0 : Nat → eE := (e_T 33 (e_T 14 (e_T 3 (e_T 1 (e_T 0 (e_L 0 (0, ei_load 1 0 1, 0, 0)) (e_L 1 (0, ei_un (fun x => (4, x)) 2, 0, 0))) (e_T 2 (e_L 2 (0, ei_push (4, 0) 3, 0, 0)) (e_L 3 (0, ei_push (4, 1000) 6, 0, 0)))) (e_T 9 (e_T 6 (e_L 6 (2, e_nof, 266, 3)) (e_L 9 (0, ei_if1 1 14 12, 0, 0))) (e_T 12 (e_L 12 (0, ei_push (0, (-1)) 13, 0, 0)) (e_T 13 (e_L 13 (1, e_nof, 1, 0)) (e_L 14 (0, ei_load 0 2 15, 0, 0)))))) (e_T 23 (e_T 18 (e_T 15 (e_L 15 (0, ei_getf eft elay 12 3 18, 0, 0)) (e_L 18 (0, ei_if1 0 24 21, 0, 0))) (e_T 21 (e_L 21 (0, ei_push (0, (-2)) 23, 0, 0)) (e_L 23 (1, e_nof, 1, 0)))) (e_T 25 (e_T 24 (e_L 24 (0, ei_load 0 2 25, 0, 0)) (e_L 25 (0, ei_getf eft elay 12 49 28, 0, 0))) (e_T 28 (e_L 28 (0, ei_push (0, 8) 30, 0, 0)) (e_T 30 (e_L 30 (0, ei_if2 1 36 33, 0, 0)) (e_L 33 (0, ei_push (0, (-3)) 35, 0, 0))))))) (e_T 47 (e_T 40 (e_T 36 (e_T 35 (e_L 35 (1, e_nof, 1, 0)) (e_L 36 (0, ei_load 0 2 37, 0, 0))) (e_T 37 (e_L 37 (0, ei_getf eft elay 12 50 40, 0, 0)) (e_L 40 (0, ei_load 0 2 41, 0, 0)))) (e_T 44 (e_T 41 (e_L 41 (0, ei_getf eft elay 12 49 44, 0, 0)) (e_L 44 (0, ei_load 1 0 45, 0, 0))) (e_T 45 (e_L 45 (0, ei_ast elay false 46, 0, 0)) (e_T 46 (e_L 46 (0, ei_load 0 2 47, 0, 0)) (e_L 47 (0, ei_stk ef_dup 48, 0, 0)))))) (e_T 53 (e_T 51 (e_T 48 (e_L 48 (0, ei_getf eft elay 12 49 51, 0, 0)) (e_L 51 (0, ei_push (0, 1) 52, 0, 0))) (e_T 52 (e_L 52 (0, ei_bin eF_add 53, 0, 0)) (e_L 53 (0, ei_putf eft elay 12 49 0 56, 0, 0)))) (e_T 57 (e_T 56 (e_L 56 (0, ei_load 0 2 57, 0, 0)) (e_L 57 (0, ei_getf eft elay 12 49 60, 0, 0))) (e_T 60 (e_L 60 (0, ei_push (0, 1) 61, 0, 0)) (e_T 61 (e_L 61 (0, ei_bin eF_sub 62, 0, 0)) (e_L 62 (1, e_nof, 1, 0))))))))
set_option maxRecDepth 20000 in
set_option maxHeartbeats 4000000 in
theorem te_293_0_ok : ∀ pc, e_EOq eft cls elay eI n_293 pc (te_293_0 pc) :=
  (e_Tok2
  (e_Tok2
  (e_Tok2
  (e_Tok2
  (e_Tok2
  (e_Lok (ld_iload_n_1 (x_dk dn_293_0_0_ok 0 rfl)))
  (e_Lok (e_st (I := eI) (er_i2l (x_dk dn_293_0_0_ok 1 rfl)) (nx_un (fun _ => rfl)))))
  (e_Tok2
  (e_Lok (ps_lconst_0 (x_dk dn_293_0_0_ok 2 rfl)))
  (e_Lok (e_st (I := eI) (er_ldc2 (ix := 365) (z := 1000) (v := 1000) (x_dk dn_293_0_0_ok 3 rfl) (in_t11 (List.mem_of_getElem? (i := 115) rfl) rfl) (by decide)) (nx_push (Or.inl rfl))))))
  (e_Tok2
  (e_Tok2
  (e_Lok (lk_12_301 ho_293 (x_dk dn_293_0_0_ok 4 rfl)))
  (e_Lok (e_st (I := eI) (er_ifne (off := 5) (tg := 14) (x_dk dn_293_0_0_ok 5 rfl) (by decide)) nx_if1)))
  (e_Tok2
  (e_Lok (ps_iconst_m1 (x_dk dn_293_0_0_ok 6 rfl)))
  (e_Tok2
  (e_Lok (e_rt (I := eI) (k := 1) ⟨(x_dk dn_293_0_0_ok 7 rfl), rfl⟩))
  (e_Lok (ld_aload_n_0 (x_dk dn_293_0_0_ok 8 rfl)))))))
  (e_Tok2
  (e_Tok2
  (e_Tok2
  (e_Lok (lk_12_265g ho_293 (x_dk dn_293_0_0_ok 9 rfl)))
  (e_Lok (e_st (I := eI) (er_ifeq (off := 6) (tg := 24) (x_dk dn_293_0_0_ok 10 rfl) (by decide)) nx_if1)))
  (e_Tok2
  (e_Lok (ps_bipush_m2 (x_dk dn_293_0_0_ok 11 rfl)))
  (e_Lok (e_rt (I := eI) (k := 1) ⟨(x_dk dn_293_0_0_ok 12 rfl), rfl⟩))))
  (e_Tok2
  (e_Tok2
  (e_Lok (ld_aload_n_0 (x_dk dn_293_0_0_ok 13 rfl)))
  (e_Lok (lk_12_285g ho_293 (x_dk dn_293_0_0_ok 14 rfl))))
  (e_Tok2
  (e_Lok (ps_bipush_8 (x_dk dn_293_0_0_ok 15 rfl)))
  (e_Tok2
  (e_Lok (e_st (I := eI) (er_icmpne (off := 6) (tg := 36) (x_dk dn_293_0_0_ok 16 rfl) (by decide)) nx_if2))
  (e_Lok (ps_bipush_m3 (x_dk dn_293_0_0_ok 17 rfl))))))))
  (e_Tok2
  (e_Tok2
  (e_Tok2
  (e_Tok2
  (e_Lok (e_rt (I := eI) (k := 1) ⟨(x_dk dn_293_0_0_ok 18 rfl), rfl⟩))
  (e_Lok (ld_aload_n_0 (x_dk dn_293_0_0_ok 19 rfl))))
  (e_Tok2
  (e_Lok (lk_12_134g ho_293 (x_dk dn_293_0_0_ok 20 rfl)))
  (e_Lok (ld_aload_n_0 (x_dk dn_293_0_0_ok 21 rfl)))))
  (e_Tok2
  (e_Tok2
  (e_Lok (lk_12_285g ho_293 (x_dk dn_293_0_0_ok 22 rfl)))
  (e_Lok (ld_iload_n_1 (x_dk dn_293_0_0_ok 23 rfl))))
  (e_Tok2
  (e_Lok (sm_iastore (x_dk dn_293_0_0_ok 24 rfl)))
  (e_Tok2
  (e_Lok (ld_aload_n_0 (x_dk dn_293_0_1_ok 0 rfl)))
  (e_Lok (e_st (I := eI) (er_dup (x_dk dn_293_0_1_ok 1 rfl)) (nx_stk bf_dup)))))))
  (e_Tok2
  (e_Tok2
  (e_Tok2
  (e_Lok (lk_12_285g ho_293 (x_dk dn_293_0_1_ok 2 rfl)))
  (e_Lok (ps_iconst_1 (x_dk dn_293_0_1_ok 3 rfl))))
  (e_Tok2
  (e_Lok (sm_iadd (x_dk dn_293_0_1_ok 4 rfl)))
  (e_Lok (lk_12_285p ho_293 (x_dk dn_293_0_1_ok 5 rfl)))))
  (e_Tok2
  (e_Tok2
  (e_Lok (ld_aload_n_0 (x_dk dn_293_0_1_ok 6 rfl)))
  (e_Lok (lk_12_285g ho_293 (x_dk dn_293_0_1_ok 7 rfl))))
  (e_Tok2
  (e_Lok (ps_iconst_1 (x_dk dn_293_0_1_ok 8 rfl)))
  (e_Tok2
  (e_Lok (sm_isub (x_dk dn_293_0_1_ok 9 rfl)))
  (e_Lok (e_rt (I := eI) (k := 1) ⟨(x_dk dn_293_0_1_ok 10 rfl), rfl⟩))))))))
def te_293 : Nat → eE := te_293_0
theorem te_293_ok : ∀ pc, e_EOq eft cls elay eI n_293 pc (te_293 pc) := te_293_0_ok
end
