noncomputable section
theorem ho_410 : (xm_y n_410).cls = "RobotCellHouseModel" := rfl
def dn_410_0_0 : List (Nat × Instr × Nat) := [(0, .iload_n 1, 1), (1, .istore_n 3, 1), (2, .iconst 0, 1), (3, .istore 4, 2), (5, .iload 4, 2), (7, .iload_n 2, 1), (8, .if_icmp .ge 19, 3), (11, .iload_n 3, 1), (12, .aload_n 0, 1), (13, .getfield 228, 3), (16, .iload 4, 2), (18, .iaload, 1), (19, .idiv, 1), (20, .istore_n 3, 1), (21, .iinc 4 1, 3), (24, .goto (-19), 3), (27, .iload_n 3, 1), (28, .aload_n 0, 1), (29, .getfield 228, 3), (32, .iload_n 2, 1), (33, .iaload, 1), (34, .irem, 1), (35, .ireturn, 1)]
set_option maxRecDepth 20000 in
theorem dn_410_0_0_ok : dn_410_0_0.all (fun q => decide (decode (xm_b n_410) q.1 = .ok (q.2.1, q.2.2))) = true := xa_g_ok (by decide +kernel)
def te_410_0 : Nat → eE := (e_T 16 (e_T 5 (e_T 1 (e_T 0 (e_L 0 (0, ei_load 1 0 1, 0, 0)) (e_L 1 (0, ei_stor 3 0 2, 0, 0))) (e_T 2 (e_L 2 (0, ei_push (0, 0) 3, 0, 0)) (e_T 3 (e_L 3 (0, ei_stor 4 0 5, 0, 0)) (e_L 5 (0, ei_load 4 0 7, 0, 0))))) (e_T 11 (e_T 7 (e_L 7 (0, ei_load 2 0 8, 0, 0)) (e_T 8 (e_L 8 (0, ei_if2 3 27 11, 0, 0)) (e_L 11 (0, ei_load 3 0 12, 0, 0)))) (e_T 12 (e_L 12 (0, ei_load 0 2 13, 0, 0)) (e_T 13 (e_L 13 (0, ei_getf eft elay 12 104 16, 0, 0)) (e_L 16 (0, ei_load 4 0 18, 0, 0)))))) (e_T 27 (e_T 20 (e_T 18 (e_L 18 (0, ei_ald elay false 19, 0, 0)) (e_T 19 (e_L 19 (0, ei_bin eF_div 20, 0, 0)) (e_L 20 (0, ei_stor 3 0 21, 0, 0)))) (e_T 21 (e_L 21 (0, ei_inc 4 1 24, 0, 0)) (e_T 24 (e_L 24 (0, ei_goto 5, 0, 0)) (e_L 27 (0, ei_load 3 0 28, 0, 0))))) (e_T 32 (e_T 28 (e_L 28 (0, ei_load 0 2 29, 0, 0)) (e_T 29 (e_L 29 (0, ei_getf eft elay 12 104 32, 0, 0)) (e_L 32 (0, ei_load 2 0 33, 0, 0)))) (e_T 33 (e_L 33 (0, ei_ald elay false 34, 0, 0)) (e_T 34 (e_L 34 (0, ei_bin eF_rem 35, 0, 0)) (e_L 35 (1, e_nof, 1, 0)))))))
set_option maxRecDepth 20000 in
set_option maxHeartbeats 4000000 in
theorem te_410_0_ok : ∀ pc, e_EOq eft cls elay eI n_410 pc (te_410_0 pc) :=
  (e_Tok2
  (e_Tok2
  (e_Tok2
  (e_Tok2
  (e_Lok (ld_iload_n_1 (x_dk dn_410_0_0_ok 0 rfl)))
  (e_Lok (e_st (I := eI) (er_istore_n (i := 3) (x_dk dn_410_0_0_ok 1 rfl) (by decide +kernel)) nx_stor)))
  (e_Tok2
  (e_Lok (ps_iconst_0 (x_dk dn_410_0_0_ok 2 rfl)))
  (e_Tok2
  (e_Lok (e_st (I := eI) (er_istore (i := 4) (x_dk dn_410_0_0_ok 3 rfl) (by decide +kernel)) nx_stor))
  (e_Lok (ld_iload_4 (x_dk dn_410_0_0_ok 4 rfl))))))
  (e_Tok2
  (e_Tok2
  (e_Lok (ld_iload_n_2 (x_dk dn_410_0_0_ok 5 rfl)))
  (e_Tok2
  (e_Lok (e_st (I := eI) (er_icmpge (off := 19) (tg := 27) (x_dk dn_410_0_0_ok 6 rfl) (by decide)) nx_if2))
  (e_Lok (ld_iload_n_3 (x_dk dn_410_0_0_ok 7 rfl)))))
  (e_Tok2
  (e_Lok (ld_aload_n_0 (x_dk dn_410_0_0_ok 8 rfl)))
  (e_Tok2
  (e_Lok (lk_12_228g ho_410 (x_dk dn_410_0_0_ok 9 rfl)))
  (e_Lok (ld_iload_4 (x_dk dn_410_0_0_ok 10 rfl)))))))
  (e_Tok2
  (e_Tok2
  (e_Tok2
  (e_Lok (sm_iaload (x_dk dn_410_0_0_ok 11 rfl)))
  (e_Tok2
  (e_Lok (e_st (I := eI) (er_idiv (x_dk dn_410_0_0_ok 12 rfl)) nx_bin))
  (e_Lok (e_st (I := eI) (er_istore_n (i := 3) (x_dk dn_410_0_0_ok 13 rfl) (by decide +kernel)) nx_stor))))
  (e_Tok2
  (e_Lok (e_st (I := eI) (er_iinc (i := 4) (n := 1) (x_dk dn_410_0_0_ok 14 rfl) (by decide +kernel) (by decide)) nx_inc))
  (e_Tok2
  (e_Lok (e_st (I := eI) (er_goto (off := (-19)) (tg := 5) (x_dk dn_410_0_0_ok 15 rfl) (by decide)) nx_goto))
  (e_Lok (ld_iload_n_3 (x_dk dn_410_0_0_ok 16 rfl))))))
  (e_Tok2
  (e_Tok2
  (e_Lok (ld_aload_n_0 (x_dk dn_410_0_0_ok 17 rfl)))
  (e_Tok2
  (e_Lok (lk_12_228g ho_410 (x_dk dn_410_0_0_ok 18 rfl)))
  (e_Lok (ld_iload_n_2 (x_dk dn_410_0_0_ok 19 rfl)))))
  (e_Tok2
  (e_Lok (sm_iaload (x_dk dn_410_0_0_ok 20 rfl)))
  (e_Tok2
  (e_Lok (e_st (I := eI) (er_irem (x_dk dn_410_0_0_ok 21 rfl)) nx_bin))
  (e_Lok (e_rt (I := eI) (k := 1) ⟨(x_dk dn_410_0_0_ok 22 rfl), rfl⟩)))))))
def te_410 : Nat → eE := te_410_0
theorem te_410_ok : ∀ pc, e_EOq eft cls elay eI n_410 pc (te_410 pc) := te_410_0_ok
theorem ho_411 : (xm_y n_411).cls = "RobotCellHouseModel" := rfl
def dn_411_0_0 : List (Nat × Instr × Nat) := [(0, .iconst 1, 1), (1, .istore_n 2, 1), (2, .iconst 0, 1), (3, .istore_n 3, 1), (4, .iload_n 3, 1), (5, .iload_n 1, 1), (6, .if_icmp .ge 18, 3), (9, .iload_n 2, 1), (10, .aload_n 0, 1), (11, .getfield 228, 3), (14, .iload_n 3, 1), (15, .iaload, 1), (16, .imul, 1), (17, .istore_n 2, 1), (18, .iinc 3 1, 3), (21, .goto (-17), 3), (24, .iload_n 2, 1), (25, .ireturn, 1)]
set_option maxRecDepth 20000 in
theorem dn_411_0_0_ok : dn_411_0_0.all (fun q => decide (decode (xm_b n_411) q.1 = .ok (q.2.1, q.2.2))) = true := xa_g_ok (by decide +kernel)
def te_411_0 : Nat → eE := (e_T 10 (e_T 3 (e_T 1 (e_T 0 (e_L 0 (0, ei_push (0, 1) 1, 0, 0)) (e_L 1 (0, ei_stor 2 0 2, 0, 0))) (e_T 2 (e_L 2 (0, ei_push (0, 0) 3, 0, 0)) (e_L 3 (0, ei_stor 3 0 4, 0, 0)))) (e_T 5 (e_T 4 (e_L 4 (0, ei_load 3 0 5, 0, 0)) (e_L 5 (0, ei_load 1 0 6, 0, 0))) (e_T 6 (e_L 6 (0, ei_if2 3 24 9, 0, 0)) (e_T 9 (e_L 9 (0, ei_load 2 0 10, 0, 0)) (e_L 10 (0, ei_load 0 2 11, 0, 0)))))) (e_T 16 (e_T 14 (e_T 11 (e_L 11 (0, ei_getf eft elay 12 104 14, 0, 0)) (e_L 14 (0, ei_load 3 0 15, 0, 0))) (e_T 15 (e_L 15 (0, ei_ald elay false 16, 0, 0)) (e_L 16 (0, ei_bin eF_mul 17, 0, 0)))) (e_T 18 (e_T 17 (e_L 17 (0, ei_stor 2 0 18, 0, 0)) (e_L 18 (0, ei_inc 3 1 21, 0, 0))) (e_T 21 (e_L 21 (0, ei_goto 4, 0, 0)) (e_T 24 (e_L 24 (0, ei_load 2 0 25, 0, 0)) (e_L 25 (1, e_nof, 1, 0)))))))
set_option maxRecDepth 20000 in
set_option maxHeartbeats 4000000 in
theorem te_411_0_ok : ∀ pc, e_EOq eft cls elay eI n_411 pc (te_411_0 pc) :=
  (e_Tok2
  (e_Tok2
  (e_Tok2
  (e_Tok2
  (e_Lok (ps_iconst_1 (x_dk dn_411_0_0_ok 0 rfl)))
  (e_Lok (e_st (I := eI) (er_istore_n (i := 2) (x_dk dn_411_0_0_ok 1 rfl) (by decide +kernel)) nx_stor)))
  (e_Tok2
  (e_Lok (ps_iconst_0 (x_dk dn_411_0_0_ok 2 rfl)))
  (e_Lok (e_st (I := eI) (er_istore_n (i := 3) (x_dk dn_411_0_0_ok 3 rfl) (by decide +kernel)) nx_stor))))
  (e_Tok2
  (e_Tok2
  (e_Lok (ld_iload_n_3 (x_dk dn_411_0_0_ok 4 rfl)))
  (e_Lok (ld_iload_n_1 (x_dk dn_411_0_0_ok 5 rfl))))
  (e_Tok2
  (e_Lok (e_st (I := eI) (er_icmpge (off := 18) (tg := 24) (x_dk dn_411_0_0_ok 6 rfl) (by decide)) nx_if2))
  (e_Tok2
  (e_Lok (ld_iload_n_2 (x_dk dn_411_0_0_ok 7 rfl)))
  (e_Lok (ld_aload_n_0 (x_dk dn_411_0_0_ok 8 rfl)))))))
  (e_Tok2
  (e_Tok2
  (e_Tok2
  (e_Lok (lk_12_228g ho_411 (x_dk dn_411_0_0_ok 9 rfl)))
  (e_Lok (ld_iload_n_3 (x_dk dn_411_0_0_ok 10 rfl))))
  (e_Tok2
  (e_Lok (sm_iaload (x_dk dn_411_0_0_ok 11 rfl)))
  (e_Lok (sm_imul (x_dk dn_411_0_0_ok 12 rfl)))))
  (e_Tok2
  (e_Tok2
  (e_Lok (e_st (I := eI) (er_istore_n (i := 2) (x_dk dn_411_0_0_ok 13 rfl) (by decide +kernel)) nx_stor))
  (e_Lok (e_st (I := eI) (er_iinc (i := 3) (n := 1) (x_dk dn_411_0_0_ok 14 rfl) (by decide +kernel) (by decide)) nx_inc)))
  (e_Tok2
  (e_Lok (e_st (I := eI) (er_goto (off := (-17)) (tg := 4) (x_dk dn_411_0_0_ok 15 rfl) (by decide)) nx_goto))
  (e_Tok2
  (e_Lok (ld_iload_n_2 (x_dk dn_411_0_0_ok 16 rfl)))
  (e_Lok (e_rt (I := eI) (k := 1) ⟨(x_dk dn_411_0_0_ok 17 rfl), rfl⟩)))))))
def te_411 : Nat → eE := te_411_0
theorem te_411_ok : ∀ pc, e_EOq eft cls elay eI n_411 pc (te_411 pc) := te_411_0_ok
theorem ho_412 : (xm_y n_412).cls = "RobotCellHouseModel" := rfl
def dn_412_0_0 : List (Nat × Instr × Nat) := [(0, .iconst 0, 1), (1, .istore_n 2, 1), (2, .iload_n 2, 1), (3, .aload_n 0, 1), (4, .getfield 43, 3), (7, .aload_n 0, 1), (8, .getfield 819, 3), (11, .iaload, 1), (12, .if_icmp .ge 33, 3), (15, .aload_n 0, 1), (16, .getfield 155, 3), (19, .iload_n 2, 1), (20, .aload_n 0, 1), (21, .getfield 231, 3), (24, .iload_n 2, 1), (25, .iaload, 1), (26, .aload_n 0, 1), (27, .getfield 822, 3), (30, .aload_n 0, 1), (31, .iload_n 1, 1), (32, .iload_n 2, 1), (33, .invokevirtual 825, 3), (36, .imul, 1), (37, .iadd, 1), (38, .iastore, 1)]
set_option maxRecDepth 20000 in
theorem dn_412_0_0_ok : dn_412_0_0.all (fun q => decide (decode (xm_b n_412) q.1 = .ok (q.2.1, q.2.2))) = true := xa_g_ok (by decide +kernel)
def dn_412_0_1 : List (Nat × Instr × Nat) := [(39, .iinc 2 1, 3), (42, .goto (-40), 3), (45, .return_, 1)]
set_option maxRecDepth 20000 in
theorem dn_412_0_1_ok : dn_412_0_1.all (fun q => decide (decode (xm_b n_412) q.1 = .ok (q.2.1, q.2.2))) = true := xa_g_ok (by decide +kernel)
def te_412_0 : Nat → eE := (e_T 21 (e_T 8 (e_T 2 (e_T 0 (e_L 0 (0, ei_push (0, 0) 1, 0, 0)) (e_T 1 (e_L 1 (0, ei_stor 2 0 2, 0, 0)) (e_L 2 (0, ei_load 2 0 3, 0, 0)))) (e_T 4 (e_T 3 (e_L 3 (0, ei_load 0 2 4, 0, 0)) (e_L 4 (0, ei_getf eft elay 12 15 7, 0, 0))) (e_T 7 (e_L 7 (0, ei_load 0 2 8, 0, 0)) (e_L 8 (0, ei_getf eft elay 12 110 11, 0, 0))))) (e_T 15 (e_T 11 (e_L 11 (0, ei_ald elay false 12, 0, 0)) (e_T 12 (e_L 12 (0, ei_if2 3 45 15, 0, 0)) (e_L 15 (0, ei_load 0 2 16, 0, 0)))) (e_T 19 (e_T 16 (e_L 16 (0, ei_getf eft elay 12 57 19, 0, 0)) (e_L 19 (0, ei_load 2 0 20, 0, 0))) (e_T 20 (e_L 20 (0, ei_load 0 2 21, 0, 0)) (e_L 21 (0, ei_getf eft elay 12 105 24, 0, 0)))))) (e_T 32 (e_T 26 (e_T 24 (e_L 24 (0, ei_load 2 0 25, 0, 0)) (e_T 25 (e_L 25 (0, ei_ald elay false 26, 0, 0)) (e_L 26 (0, ei_load 0 2 27, 0, 0)))) (e_T 30 (e_T 27 (e_L 27 (0, ei_getf eft elay 12 111 30, 0, 0)) (e_L 30 (0, ei_load 0 2 31, 0, 0))) (e_T 31 (e_L 31 (0, ei_load 1 0 32, 0, 0)) (e_L 32 (0, ei_load 2 0 33, 0, 0))))) (e_T 37 (e_T 33 (e_L 33 (2, e_nof, 410, 3)) (e_T 36 (e_L 36 (0, ei_bin eF_mul 37, 0, 0)) (e_L 37 (0, ei_bin eF_add 38, 0, 0)))) (e_T 39 (e_T 38 (e_L 38 (0, ei_ast elay false 39, 0, 0)) (e_L 39 (0, ei_inc 2 1 42, 0, 0))) (e_T 42 (e_L 42 (0, ei_goto 2, 0, 0)) (e_L 45 (1, e_nof, 0, 0)))))))
set_option maxRecDepth 20000 in
set_option maxHeartbeats 4000000 in
theorem te_412_0_ok : ∀ pc, e_EOq eft cls elay eI n_412 pc (te_412_0 pc) :=
  (e_Tok2
  (e_Tok2
  (e_Tok2
  (e_Tok2
  (e_Lok (ps_iconst_0 (x_dk dn_412_0_0_ok 0 rfl)))
  (e_Tok2
  (e_Lok (e_st (I := eI) (er_istore_n (i := 2) (x_dk dn_412_0_0_ok 1 rfl) (by decide +kernel)) nx_stor))
  (e_Lok (ld_iload_n_2 (x_dk dn_412_0_0_ok 2 rfl)))))
  (e_Tok2
  (e_Tok2
  (e_Lok (ld_aload_n_0 (x_dk dn_412_0_0_ok 3 rfl)))
  (e_Lok (lk_12_43g ho_412 (x_dk dn_412_0_0_ok 4 rfl))))
  (e_Tok2
  (e_Lok (ld_aload_n_0 (x_dk dn_412_0_0_ok 5 rfl)))
  (e_Lok (lk_12_819g ho_412 (x_dk dn_412_0_0_ok 6 rfl))))))
  (e_Tok2
  (e_Tok2
  (e_Lok (sm_iaload (x_dk dn_412_0_0_ok 7 rfl)))
  (e_Tok2
  (e_Lok (e_st (I := eI) (er_icmpge (off := 33) (tg := 45) (x_dk dn_412_0_0_ok 8 rfl) (by decide)) nx_if2))
  (e_Lok (ld_aload_n_0 (x_dk dn_412_0_0_ok 9 rfl)))))
  (e_Tok2
  (e_Tok2
  (e_Lok (lk_12_155g ho_412 (x_dk dn_412_0_0_ok 10 rfl)))
  (e_Lok (ld_iload_n_2 (x_dk dn_412_0_0_ok 11 rfl))))
  (e_Tok2
  (e_Lok (ld_aload_n_0 (x_dk dn_412_0_0_ok 12 rfl)))
  (e_Lok (lk_12_231g ho_412 (x_dk dn_412_0_0_ok 13 rfl)))))))
  (e_Tok2
  (e_Tok2
  (e_Tok2
  (e_Lok (ld_iload_n_2 (x_dk dn_412_0_0_ok 14 rfl)))
  (e_Tok2
  (e_Lok (sm_iaload (x_dk dn_412_0_0_ok 15 rfl)))
  (e_Lok (ld_aload_n_0 (x_dk dn_412_0_0_ok 16 rfl)))))
  (e_Tok2
  (e_Tok2
  (e_Lok (lk_12_822g ho_412 (x_dk dn_412_0_0_ok 17 rfl)))
  (e_Lok (ld_aload_n_0 (x_dk dn_412_0_0_ok 18 rfl))))
  (e_Tok2
  (e_Lok (ld_iload_n_1 (x_dk dn_412_0_0_ok 19 rfl)))
  (e_Lok (ld_iload_n_2 (x_dk dn_412_0_0_ok 20 rfl))))))
  (e_Tok2
  (e_Tok2
  (e_Lok (lk_12_825 ho_412 (x_dk dn_412_0_0_ok 21 rfl)))
  (e_Tok2
  (e_Lok (sm_imul (x_dk dn_412_0_0_ok 22 rfl)))
  (e_Lok (sm_iadd (x_dk dn_412_0_0_ok 23 rfl)))))
  (e_Tok2
  (e_Tok2
  (e_Lok (sm_iastore (x_dk dn_412_0_0_ok 24 rfl)))
  (e_Lok (e_st (I := eI) (er_iinc (i := 2) (n := 1) (x_dk dn_412_0_1_ok 0 rfl) (by decide +kernel) (by decide)) nx_inc)))
  (e_Tok2
  (e_Lok (e_st (I := eI) (er_goto (off := (-40)) (tg := 2) (x_dk dn_412_0_1_ok 1 rfl) (by decide)) nx_goto))
  (e_Lok (e_rt (I := eI) (k := 0) ⟨(x_dk dn_412_0_1_ok 2 rfl), rfl⟩)))))))
def te_412 : Nat → eE := te_412_0
theorem te_412_ok : ∀ pc, e_EOq eft cls elay eI n_412 pc (te_412 pc) := te_412_0_ok
theorem ho_413 : (xm_y n_413).cls = "RobotCellHouseModel" := rfl
def dn_413_0_0 : List (Nat × Instr × Nat) := [(0, .aload_n 0, 1), (1, .aload_n 0, 1), (2, .getfield 819, 3), (5, .iconst 1, 1), (6, .invokevirtual 397, 3), (9, .aload_n 0, 1), (10, .aload_n 0, 1), (11, .getfield 819, 3), (14, .bipush 28, 2), (16, .aload_n 0, 1), (17, .getfield 828, 3), (20, .invokevirtual 461, 3), (23, .ifCond .ne 7, 3), (26, .iconst 1, 1), (27, .goto 4, 3), (30, .iconst 0, 1), (31, .ireturn, 1)]
set_option maxRecDepth 20000 in
theorem dn_413_0_0_ok : dn_413_0_0.all (fun q => decide (decode (xm_b n_413) q.1 = .ok (q.2.1, q.2.2))) = true := xa_g_ok (by decide +kernel)
def te_413_0 : Nat → eE := (e_T 11 (e_T 5 (e_T 1 (e_T 0 (e_L 0 (0, ei_load 0 2 1, 0, 0)) (e_L 1 (0, ei_load 0 2 2, 0, 0))) (e_T 2 (e_L 2 (0, ei_getf eft elay 12 110 5, 0, 0)) (e_L 5 (0, ei_push (0, 1) 6, 0, 0)))) (e_T 9 (e_T 6 (e_L 6 (2, e_nof, 301, 3)) (e_L 9 (0, ei_load 0 2 10, 0, 0))) (e_T 10 (e_L 10 (0, ei_load 0 2 11, 0, 0)) (e_L 11 (0, ei_getf eft elay 12 110 14, 0, 0))))) (e_T 20 (e_T 16 (e_T 14 (e_L 14 (0, ei_push (0, 28) 16, 0, 0)) (e_L 16 (0, ei_load 0 2 17, 0, 0))) (e_T 17 (e_L 17 (0, ei_getf eft elay 12 112 20, 0, 0)) (e_L 20 (2, e_nof, 317, 4)))) (e_T 26 (e_T 23 (e_L 23 (0, ei_if1 1 30 26, 0, 0)) (e_L 26 (0, ei_push (0, 1) 27, 0, 0))) (e_T 27 (e_L 27 (0, ei_goto 31, 0, 0)) (e_T 30 (e_L 30 (0, ei_push (0, 0) 31, 0, 0)) (e_L 31 (1, e_nof, 4, 0)))))))
set_option maxRecDepth 20000 in
set_option maxHeartbeats 4000000 in
theorem te_413_0_ok : ∀ pc, e_EOq eft cls elay eI n_413 pc (te_413_0 pc) :=
  (e_Tok2
  (e_Tok2
  (e_Tok2
  (e_Tok2
  (e_Lok (ld_aload_n_0 (x_dk dn_413_0_0_ok 0 rfl)))
  (e_Lok (ld_aload_n_0 (x_dk dn_413_0_0_ok 1 rfl))))
  (e_Tok2
  (e_Lok (lk_12_819g ho_413 (x_dk dn_413_0_0_ok 2 rfl)))
  (e_Lok (ps_iconst_1 (x_dk dn_413_0_0_ok 3 rfl)))))
  (e_Tok2
  (e_Tok2
  (e_Lok (lk_12_397 ho_413 (x_dk dn_413_0_0_ok 4 rfl)))
  (e_Lok (ld_aload_n_0 (x_dk dn_413_0_0_ok 5 rfl))))
  (e_Tok2
  (e_Lok (ld_aload_n_0 (x_dk dn_413_0_0_ok 6 rfl)))
  (e_Lok (lk_12_819g ho_413 (x_dk dn_413_0_0_ok 7 rfl))))))
  (e_Tok2
  (e_Tok2
  (e_Tok2
  (e_Lok (ps_bipush_28 (x_dk dn_413_0_0_ok 8 rfl)))
  (e_Lok (ld_aload_n_0 (x_dk dn_413_0_0_ok 9 rfl))))
  (e_Tok2
  (e_Lok (lk_12_828g ho_413 (x_dk dn_413_0_0_ok 10 rfl)))
  (e_Lok (lk_12_461 ho_413 (x_dk dn_413_0_0_ok 11 rfl)))))
  (e_Tok2
  (e_Tok2
  (e_Lok (e_st (I := eI) (er_ifne (off := 7) (tg := 30) (x_dk dn_413_0_0_ok 12 rfl) (by decide)) nx_if1))
  (e_Lok (ps_iconst_1 (x_dk dn_413_0_0_ok 13 rfl))))
  (e_Tok2
  (e_Lok (e_st (I := eI) (er_goto (off := 4) (tg := 31) (x_dk dn_413_0_0_ok 14 rfl) (by decide)) nx_goto))
  (e_Tok2
  (e_Lok (ps_iconst_0 (x_dk dn_413_0_0_ok 15 rfl)))
  (e_Lok (e_rt (I := eI) (k := 4) ⟨(x_dk dn_413_0_0_ok 16 rfl), rfl⟩)))))))
def te_413 : Nat → eE := te_413_0
theorem te_413_ok : ∀ pc, e_EOq eft cls elay eI n_413 pc (te_413 pc) := te_413_0_ok
theorem ho_414 : (xm_y n_414).cls = "RobotCellHouseModel" := rfl
def dn_414_0_0 : List (Nat × Instr × Nat) := [(0, .aload_n 0, 1), (1, .getfield 240, 3), (4, .iload_n 1, 1), (5, .iaload, 1), (6, .ifCond .ne 26, 3), (9, .aload_n 0, 1), (10, .iload_n 1, 1), (11, .invokevirtual 831, 3), (14, .aload_n 0, 1), (15, .getfield 240, 3), (18, .iload_n 1, 1), (19, .aload_n 0, 1), (20, .invokevirtual 834, 3), (23, .ifCond .eq 7, 3), (26, .iconst 1, 1), (27, .goto 4, 3), (30, .iconst 2, 1), (31, .iastore, 1), (32, .aload_n 0, 1), (33, .getfield 240, 3), (36, .iload_n 1, 1), (37, .iaload, 1), (38, .iconst 1, 1), (39, .if_icmp .ne 7, 3), (42, .iconst 1, 1)]
set_option maxRecDepth 20000 in
theorem dn_414_0_0_ok : dn_414_0_0.all (fun q => decide (decode (xm_b n_414) q.1 = .ok (q.2.1, q.2.2))) = true := xa_g_ok (by decide +kernel)
def dn_414_0_1 : List (Nat × Instr × Nat) := [(43, .goto 4, 3), (46, .iconst 0, 1), (47, .ireturn, 1)]
set_option maxRecDepth 20000 in
theorem dn_414_0_1_ok : dn_414_0_1.all (fun q => decide (decode (xm_b n_414) q.1 = .ok (q.2.1, q.2.2))) = true := xa_g_ok (by decide +kernel)
def te_414_0 : Nat → eE := (e_T 23 (e_T 10 (e_T 4 (e_T 0 (e_L 0 (0, ei_load 0 2 1, 0, 0)) (e_T 1 (e_L 1 (0, ei_getf eft elay 12 108 4, 0, 0)) (e_L 4 (0, ei_load 1 0 5, 0, 0)))) (e_T 6 (e_T 5 (e_L 5 (0, ei_ald elay false 6, 0, 0)) (e_L 6 (0, ei_if1 1 32 9, 0, 0))) (e_T 9 (e_L 9 (0, ei_load 0 2 10, 0, 0)) (e_L 10 (0, ei_load 1 0 11, 0, 0))))) (e_T 15 (e_T 11 (e_L 11 (2, e_nof, 412, 2)) (e_T 14 (e_L 14 (0, ei_load 0 2 15, 0, 0)) (e_L 15 (0, ei_getf eft elay 12 108 18, 0, 0)))) (e_T 19 (e_T 18 (e_L 18 (0, ei_load 1 0 19, 0, 0)) (e_L 19 (0, ei_load 0 2 20, 0, 0))) (e_T 20 (e_L 20 (2, e_nof, 413, 1)) (e_L 23 (0, ei_if1 0 30 26, 0, 0)))))) (e_T 36 (e_T 30 (e_T 26 (e_L 26 (0, ei_push (0, 1) 27, 0, 0)) (e_T 27 (e_L 27 (0, ei_goto 31, 0, 0)) (e_L 30 (0, ei_push (0, 2) 31, 0, 0)))) (e_T 32 (e_T 31 (e_L 31 (0, ei_ast elay false 32, 0, 0)) (e_L 32 (0, ei_load 0 2 33, 0, 0))) (e_T 33 (e_L 33 (0, ei_getf eft elay 12 108 36, 0, 0)) (e_L 36 (0, ei_load 1 0 37, 0, 0))))) (e_T 39 (e_T 37 (e_L 37 (0, ei_ald elay false 38, 0, 0)) (e_T 38 (e_L 38 (0, ei_push (0, 1) 39, 0, 0)) (e_L 39 (0, ei_if2 1 46 42, 0, 0)))) (e_T 43 (e_T 42 (e_L 42 (0, ei_push (0, 1) 43, 0, 0)) (e_L 43 (0, ei_goto 47, 0, 0))) (e_T 46 (e_L 46 (0, ei_push (0, 0) 47, 0, 0)) (e_L 47 (1, e_nof, 4, 0)))))))
set_option maxRecDepth 20000 in
set_option maxHeartbeats 4000000 in
theorem te_414_0_ok : ∀ pc, e_EOq eft cls elay eI n_414 pc (te_414_0 pc) :=
  (e_Tok2
  (e_Tok2
  (e_Tok2
  (e_Tok2
  (e_Lok (ld_aload_n_0 (x_dk dn_414_0_0_ok 0 rfl)))
  (e_Tok2
  (e_Lok (lk_12_240g ho_414 (x_dk dn_414_0_0_ok 1 rfl)))
  (e_Lok (ld_iload_n_1 (x_dk dn_414_0_0_ok 2 rfl)))))
  (e_Tok2
  (e_Tok2
  (e_Lok (sm_iaload (x_dk dn_414_0_0_ok 3 rfl)))
  (e_Lok (e_st (I := eI) (er_ifne (off := 26) (tg := 32) (x_dk dn_414_0_0_ok 4 rfl) (by decide)) nx_if1)))
  (e_Tok2
  (e_Lok (ld_aload_n_0 (x_dk dn_414_0_0_ok 5 rfl)))
  (e_Lok (ld_iload_n_1 (x_dk dn_414_0_0_ok 6 rfl))))))
  (e_Tok2
  (e_Tok2
  (e_Lok (lk_12_831 ho_414 (x_dk dn_414_0_0_ok 7 rfl)))
  (e_Tok2
  (e_Lok (ld_aload_n_0 (x_dk dn_414_0_0_ok 8 rfl)))
  (e_Lok (lk_12_240g ho_414 (x_dk dn_414_0_0_ok 9 rfl)))))
  (e_Tok2
  (e_Tok2
  (e_Lok (ld_iload_n_1 (x_dk dn_414_0_0_ok 10 rfl)))
  (e_Lok (ld_aload_n_0 (x_dk dn_414_0_0_ok 11 rfl))))
  (e_Tok2
  (e_Lok (lk_12_834 ho_414 (x_dk dn_414_0_0_ok 12 rfl)))
  (e_Lok (e_st (I := eI) (er_ifeq (off := 7) (tg := 30) (x_dk dn_414_0_0_ok 13 rfl) (by decide)) nx_if1))))))
  (e_Tok2
  (e_Tok2
  (e_Tok2
  (e_Lok (ps_iconst_1 (x_dk dn_414_0_0_ok 14 rfl)))
  (e_Tok2
  (e_Lok (e_st (I := eI) (er_goto (off := 4) (tg := 31) (x_dk dn_414_0_0_ok 15 rfl) (by decide)) nx_goto))
  (e_Lok (ps_iconst_2 (x_dk dn_414_0_0_ok 16 rfl)))))
  (e_Tok2
  (e_Tok2
  (e_Lok (sm_iastore (x_dk dn_414_0_0_ok 17 rfl)))
  (e_Lok (ld_aload_n_0 (x_dk dn_414_0_0_ok 18 rfl))))
  (e_Tok2
  (e_Lok (lk_12_240g ho_414 (x_dk dn_414_0_0_ok 19 rfl)))
  (e_Lok (ld_iload_n_1 (x_dk dn_414_0_0_ok 20 rfl))))))
  (e_Tok2
  (e_Tok2
  (e_Lok (sm_iaload (x_dk dn_414_0_0_ok 21 rfl)))
  (e_Tok2
  (e_Lok (ps_iconst_1 (x_dk dn_414_0_0_ok 22 rfl)))
  (e_Lok (e_st (I := eI) (er_icmpne (off := 7) (tg := 46) (x_dk dn_414_0_0_ok 23 rfl) (by decide)) nx_if2))))
  (e_Tok2
  (e_Tok2
  (e_Lok (ps_iconst_1 (x_dk dn_414_0_0_ok 24 rfl)))
  (e_Lok (e_st (I := eI) (er_goto (off := 4) (tg := 47) (x_dk dn_414_0_1_ok 0 rfl) (by decide)) nx_goto)))
  (e_Tok2
  (e_Lok (ps_iconst_0 (x_dk dn_414_0_1_ok 1 rfl)))
  (e_Lok (e_rt (I := eI) (k := 4) ⟨(x_dk dn_414_0_1_ok 2 rfl), rfl⟩)))))))
def te_414 : Nat → eE := te_414_0
theorem te_414_ok : ∀ pc, e_EOq eft cls elay eI n_414 pc (te_414 pc) := te_414_0_ok
theorem ho_415 : (xm_y n_415).cls = "RobotCellHouseModel" := rfl
def dn_415_0_0 : List (Nat × Instr × Nat) := [(0, .bipush 6, 2), (2, .iload_n 1, 1), (3, .imul, 1), (4, .iload_n 2, 1), (5, .iadd, 1), (6, .istore_n 3, 1), (7, .aload_n 0, 1), (8, .getfield 243, 3), (11, .iload_n 3, 1), (12, .iaload, 1), (13, .ifCond .ne 97, 3), (16, .aload_n 0, 1), (17, .iload_n 1, 1), (18, .invokevirtual 837, 3), (21, .ifCond .eq 21, 3), (24, .aload_n 0, 1), (25, .iload_n 1, 1), (26, .aload_n 0, 1), (27, .iload_n 2, 1), (28, .invokevirtual 840, 3), (31, .iadd, 1), (32, .invokevirtual 837, 3), (35, .ifCond .eq 7, 3), (38, .iconst 1, 1), (39, .goto 4, 3)]
set_option maxRecDepth 20000 in
theorem dn_415_0_0_ok : dn_415_0_0.all (fun q => decide (decode (xm_b n_415) q.1 = .ok (q.2.1, q.2.2))) = true := xa_g_ok (by decide +kernel)
def dn_415_0_1 : List (Nat × Instr × Nat) := [(42, .iconst 0, 1), (43, .istore 4, 2), (45, .iload 4, 2), (47, .ifCond .eq 47, 3), (50, .aload_n 0, 1), (51, .iload_n 1, 1), (52, .invokevirtual 831, 3), (55, .iconst 1, 1), (56, .istore 5, 2), (58, .iload 5, 2), (60, .aload_n 0, 1), (61, .getfield 822, 3), (64, .if_icmp .ge 30, 3), (67, .iload 4, 2), (69, .ifCond .eq 25, 3), (72, .aload_n 0, 1), (73, .getfield 155, 3), (76, .iload_n 2, 1), (77, .dup2, 1), (78, .iaload, 1), (79, .iconst 1, 1), (80, .iadd, 1), (81, .iastore, 1), (82, .aload_n 0, 1), (83, .invokevirtual 834, 3)]
set_option maxRecDepth 20000 in
theorem dn_415_0_1_ok : dn_415_0_1.all (fun q => decide (decode (xm_b n_415) q.1 = .ok (q.2.1, q.2.2))) = true := xa_g_ok (by decide +kernel)
def dn_415_0_2 : List (Nat × Instr × Nat) := [(86, .istore 4, 2), (88, .iinc 5 1, 3), (91, .goto (-33), 3), (94, .aload_n 0, 1), (95, .getfield 243, 3), (98, .iload_n 3, 1), (99, .iload 4, 2), (101, .ifCond .eq 7, 3), (104, .iconst 1, 1), (105, .goto 4, 3), (108, .iconst 2, 1), (109, .iastore, 1), (110, .aload_n 0, 1), (111, .getfield 243, 3), (114, .iload_n 3, 1), (115, .iaload, 1), (116, .iconst 1, 1), (117, .if_icmp .ne 7, 3), (120, .iconst 1, 1), (121, .goto 4, 3), (124, .iconst 0, 1), (125, .ireturn, 1)]
set_option maxRecDepth 20000 in
theorem dn_415_0_2_ok : dn_415_0_2.all (fun q => decide (decode (xm_b n_415) q.1 = .ok (q.2.1, q.2.2))) = true := xa_g_ok (by decide +kernel)
def te_415_0 : Nat → eE := (e_T 26 (e_T 11 (e_T 4 (e_T 2 (e_T 0 (e_L 0 (0, ei_push (0, 6) 2, 0, 0)) (e_L 2 (0, ei_load 1 0 3, 0, 0))) (e_T 3 (e_L 3 (0, ei_bin eF_mul 4, 0, 0)) (e_L 4 (0, ei_load 2 0 5, 0, 0)))) (e_T 6 (e_T 5 (e_L 5 (0, ei_bin eF_add 6, 0, 0)) (e_L 6 (0, ei_stor 3 0 7, 0, 0))) (e_T 7 (e_L 7 (0, ei_load 0 2 8, 0, 0)) (e_T 8 (e_L 8 (0, ei_getf eft elay 12 109 11, 0, 0)) (e_L 11 (0, ei_load 3 0 12, 0, 0)))))) (e_T 17 (e_T 13 (e_T 12 (e_L 12 (0, ei_ald elay false 13, 0, 0)) (e_L 13 (0, ei_if1 1 110 16, 0, 0))) (e_T 16 (e_L 16 (0, ei_load 0 2 17, 0, 0)) (e_L 17 (0, ei_load 1 0 18, 0, 0)))) (e_T 21 (e_T 18 (e_L 18 (2, e_nof, 414, 2)) (e_L 21 (0, ei_if1 0 42 24, 0, 0))) (e_T 24 (e_L 24 (0, ei_load 0 2 25, 0, 0)) (e_T 25 (e_L 25 (0, ei_load 1 0 26, 0, 0)) (e_L 26 (0, ei_load 0 2 27, 0, 0))))))) (e_T 43 (e_T 32 (e_T 28 (e_T 27 (e_L 27 (0, ei_load 2 0 28, 0, 0)) (e_L 28 (2, e_nof, 411, 2))) (e_T 31 (e_L 31 (0, ei_bin eF_add 32, 0, 0)) (e_L 32 (2, e_nof, 414, 2)))) (e_T 38 (e_T 35 (e_L 35 (0, ei_if1 0 42 38, 0, 0)) (e_L 38 (0, ei_push (0, 1) 39, 0, 0))) (e_T 39 (e_L 39 (0, ei_goto 43, 0, 0)) (e_T 42 (e_L 42 (0, ei_push (0, 0) 43, 0, 0)) (e_L 43 (0, ei_stor 4 0 45, 0, 0)))))) (e_T 51 (e_T 47 (e_T 45 (e_L 45 (0, ei_load 4 0 47, 0, 0)) (e_L 47 (0, ei_if1 0 94 50, 0, 0))) (e_T 50 (e_L 50 (0, ei_load 0 2 51, 0, 0)) (e_L 51 (0, ei_load 1 0 52, 0, 0)))) (e_T 55 (e_T 52 (e_L 52 (2, e_nof, 412, 2)) (e_L 55 (0, ei_push (0, 1) 56, 0, 0))) (e_T 56 (e_L 56 (0, ei_stor 5 0 58, 0, 0)) (e_T 58 (e_L 58 (0, ei_load 5 0 60, 0, 0)) (e_L 60 (0, ei_load 0 2 61, 0, 0))))))))
set_option maxRecDepth 20000 in
set_option maxHeartbeats 4000000 in
theorem te_415_0_ok : ∀ pc, e_EOq eft cls elay eI n_415 pc (te_415_0 pc) :=
  (e_Tok2
  (e_Tok2
  (e_Tok2
  (e_Tok2
  (e_Tok2
  (e_Lok (ps_bipush_6 (x_dk dn_415_0_0_ok 0 rfl)))
  (e_Lok (ld_iload_n_1 (x_dk dn_415_0_0_ok 1 rfl))))
  (e_Tok2
  (e_Lok (sm_imul (x_dk dn_415_0_0_ok 2 rfl)))
  (e_Lok (ld_iload_n_2 (x_dk dn_415_0_0_ok 3 rfl)))))
  (e_Tok2
  (e_Tok2
  (e_Lok (sm_iadd (x_dk dn_415_0_0_ok 4 rfl)))
  (e_Lok (e_st (I := eI) (er_istore_n (i := 3) (x_dk dn_415_0_0_ok 5 rfl) (by decide +kernel)) nx_stor)))
  (e_Tok2
  (e_Lok (ld_aload_n_0 (x_dk dn_415_0_0_ok 6 rfl)))
  (e_Tok2
  (e_Lok (lk_12_243g ho_415 (x_dk dn_415_0_0_ok 7 rfl)))
  (e_Lok (ld_iload_n_3 (x_dk dn_415_0_0_ok 8 rfl)))))))
  (e_Tok2
  (e_Tok2
  (e_Tok2
  (e_Lok (sm_iaload (x_dk dn_415_0_0_ok 9 rfl)))
  (e_Lok (e_st (I := eI) (er_ifne (off := 97) (tg := 110) (x_dk dn_415_0_0_ok 10 rfl) (by decide)) nx_if1)))
  (e_Tok2
  (e_Lok (ld_aload_n_0 (x_dk dn_415_0_0_ok 11 rfl)))
  (e_Lok (ld_iload_n_1 (x_dk dn_415_0_0_ok 12 rfl)))))
  (e_Tok2
  (e_Tok2
  (e_Lok (lk_12_837 ho_415 (x_dk dn_415_0_0_ok 13 rfl)))
  (e_Lok (e_st (I := eI) (er_ifeq (off := 21) (tg := 42) (x_dk dn_415_0_0_ok 14 rfl) (by decide)) nx_if1)))
  (e_Tok2
  (e_Lok (ld_aload_n_0 (x_dk dn_415_0_0_ok 15 rfl)))
  (e_Tok2
  (e_Lok (ld_iload_n_1 (x_dk dn_415_0_0_ok 16 rfl)))
  (e_Lok (ld_aload_n_0 (x_dk dn_415_0_0_ok 17 rfl))))))))
  (e_Tok2
  (e_Tok2
  (e_Tok2
  (e_Tok2
  (e_Lok (ld_iload_n_2 (x_dk dn_415_0_0_ok 18 rfl)))
  (e_Lok (lk_12_840 ho_415 (x_dk dn_415_0_0_ok 19 rfl))))
  (e_Tok2
  (e_Lok (sm_iadd (x_dk dn_415_0_0_ok 20 rfl)))
  (e_Lok (lk_12_837 ho_415 (x_dk dn_415_0_0_ok 21 rfl)))))
  (e_Tok2
  (e_Tok2
  (e_Lok (e_st (I := eI) (er_ifeq (off := 7) (tg := 42) (x_dk dn_415_0_0_ok 22 rfl) (by decide)) nx_if1))
  (e_Lok (ps_iconst_1 (x_dk dn_415_0_0_ok 23 rfl))))
  (e_Tok2
  (e_Lok (e_st (I := eI) (er_goto (off := 4) (tg := 43) (x_dk dn_415_0_0_ok 24 rfl) (by decide)) nx_goto))
  (e_Tok2
  (e_Lok (ps_iconst_0 (x_dk dn_415_0_1_ok 0 rfl)))
  (e_Lok (e_st (I := eI) (er_istore (i := 4) (x_dk dn_415_0_1_ok 1 rfl) (by decide +kernel)) nx_stor))))))
  (e_Tok2
  (e_Tok2
  (e_Tok2
  (e_Lok (ld_iload_4 (x_dk dn_415_0_1_ok 2 rfl)))
  (e_Lok (e_st (I := eI) (er_ifeq (off := 47) (tg := 94) (x_dk dn_415_0_1_ok 3 rfl) (by decide)) nx_if1)))
  (e_Tok2
  (e_Lok (ld_aload_n_0 (x_dk dn_415_0_1_ok 4 rfl)))
  (e_Lok (ld_iload_n_1 (x_dk dn_415_0_1_ok 5 rfl)))))
  (e_Tok2
  (e_Tok2
  (e_Lok (lk_12_831 ho_415 (x_dk dn_415_0_1_ok 6 rfl)))
  (e_Lok (ps_iconst_1 (x_dk dn_415_0_1_ok 7 rfl))))
  (e_Tok2
  (e_Lok (e_st (I := eI) (er_istore (i := 5) (x_dk dn_415_0_1_ok 8 rfl) (by decide +kernel)) nx_stor))
  (e_Tok2
  (e_Lok (ld_iload_5 (x_dk dn_415_0_1_ok 9 rfl)))
  (e_Lok (ld_aload_n_0 (x_dk dn_415_0_1_ok 10 rfl)))))))))
def te_415_36 : Nat → eE := (e_T 94 (e_T 78 (e_T 69 (e_T 64 (e_T 61 (e_L 61 (0, ei_getf eft elay 12 111 64, 0, 0)) (e_L 64 (0, ei_if2 3 94 67, 0, 0))) (e_T 67 (e_L 67 (0, ei_load 4 0 69, 0, 0)) (e_L 69 (0, ei_if1 0 94 72, 0, 0)))) (e_T 73 (e_T 72 (e_L 72 (0, ei_load 0 2 73, 0, 0)) (e_L 73 (0, ei_getf eft elay 12 57 76, 0, 0))) (e_T 76 (e_L 76 (0, ei_load 2 0 77, 0, 0)) (e_T 77 (e_L 77 (0, ei_stk ef_dup2 78, 0, 0)) (e_L 78 (0, ei_ald elay false 79, 0, 0)))))) (e_T 82 (e_T 80 (e_T 79 (e_L 79 (0, ei_push (0, 1) 80, 0, 0)) (e_L 80 (0, ei_bin eF_add 81, 0, 0))) (e_T 81 (e_L 81 (0, ei_ast elay false 82, 0, 0)) (e_L 82 (0, ei_load 0 2 83, 0, 0)))) (e_T 86 (e_T 83 (e_L 83 (2, e_nof, 413, 1)) (e_L 86 (0, ei_stor 4 0 88, 0, 0))) (e_T 88 (e_L 88 (0, ei_inc 5 1 91, 0, 0)) (e_T 91 (e_L 91 (0, ei_goto 58, 0, 0)) (e_L 94 (0, ei_load 0 2 95, 0, 0))))))) (e_T 110 (e_T 101 (e_T 98 (e_T 95 (e_L 95 (0, ei_getf eft elay 12 109 98, 0, 0)) (e_L 98 (0, ei_load 3 0 99, 0, 0))) (e_T 99 (e_L 99 (0, ei_load 4 0 101, 0, 0)) (e_L 101 (0, ei_if1 0 108 104, 0, 0)))) (e_T 105 (e_T 104 (e_L 104 (0, ei_push (0, 1) 105, 0, 0)) (e_L 105 (0, ei_goto 109, 0, 0))) (e_T 108 (e_L 108 (0, ei_push (0, 2) 109, 0, 0)) (e_T 109 (e_L 109 (0, ei_ast elay false 110, 0, 0)) (e_L 110 (0, ei_load 0 2 111, 0, 0)))))) (e_T 116 (e_T 114 (e_T 111 (e_L 111 (0, ei_getf eft elay 12 109 114, 0, 0)) (e_L 114 (0, ei_load 3 0 115, 0, 0))) (e_T 115 (e_L 115 (0, ei_ald elay false 116, 0, 0)) (e_L 116 (0, ei_push (0, 1) 117, 0, 0)))) (e_T 120 (e_T 117 (e_L 117 (0, ei_if2 1 124 120, 0, 0)) (e_L 120 (0, ei_push (0, 1) 121, 0, 0))) (e_T 121 (e_L 121 (0, ei_goto 125, 0, 0)) (e_T 124 (e_L 124 (0, ei_push (0, 0) 125, 0, 0)) (e_L 125 (1, e_nof, 4, 0))))))))
set_option maxRecDepth 20000 in
set_option maxHeartbeats 4000000 in
theorem te_415_36_ok : ∀ pc, e_EOq eft cls elay eI n_415 pc (te_415_36 pc) :=
  (e_Tok2
  (e_Tok2
  (e_Tok2
  (e_Tok2
  (e_Tok2
  (e_Lok (lk_12_822g ho_415 (x_dk dn_415_0_1_ok 11 rfl)))
  (e_Lok (e_st (I := eI) (er_icmpge (off := 30) (tg := 94) (x_dk dn_415_0_1_ok 12 rfl) (by decide)) nx_if2)))
  (e_Tok2
  (e_Lok (ld_iload_4 (x_dk dn_415_0_1_ok 13 rfl)))
  (e_Lok (e_st (I := eI) (er_ifeq (off := 25) (tg := 94) (x_dk dn_415_0_1_ok 14 rfl) (by decide)) nx_if1))))
  (e_Tok2
  (e_Tok2
  (e_Lok (ld_aload_n_0 (x_dk dn_415_0_1_ok 15 rfl)))
  (e_Lok (lk_12_155g ho_415 (x_dk dn_415_0_1_ok 16 rfl))))
  (e_Tok2
  (e_Lok (ld_iload_n_2 (x_dk dn_415_0_1_ok 17 rfl)))
  (e_Tok2
  (e_Lok (e_st (I := eI) (er_dup2 (x_dk dn_415_0_1_ok 18 rfl)) (nx_stk bf_dup2)))
  (e_Lok (sm_iaload (x_dk dn_415_0_1_ok 19 rfl)))))))
  (e_Tok2
  (e_Tok2
  (e_Tok2
  (e_Lok (ps_iconst_1 (x_dk dn_415_0_1_ok 20 rfl)))
  (e_Lok (sm_iadd (x_dk dn_415_0_1_ok 21 rfl))))
  (e_Tok2
  (e_Lok (sm_iastore (x_dk dn_415_0_1_ok 22 rfl)))
  (e_Lok (ld_aload_n_0 (x_dk dn_415_0_1_ok 23 rfl)))))
  (e_Tok2
  (e_Tok2
  (e_Lok (lk_12_834 ho_415 (x_dk dn_415_0_1_ok 24 rfl)))
  (e_Lok (e_st (I := eI) (er_istore (i := 4) (x_dk dn_415_0_2_ok 0 rfl) (by decide +kernel)) nx_stor)))
  (e_Tok2
  (e_Lok (e_st (I := eI) (er_iinc (i := 5) (n := 1) (x_dk dn_415_0_2_ok 1 rfl) (by decide +kernel) (by decide)) nx_inc))
  (e_Tok2
  (e_Lok (e_st (I := eI) (er_goto (off := (-33)) (tg := 58) (x_dk dn_415_0_2_ok 2 rfl) (by decide)) nx_goto))
  (e_Lok (ld_aload_n_0 (x_dk dn_415_0_2_ok 3 rfl))))))))
  (e_Tok2
  (e_Tok2
  (e_Tok2
  (e_Tok2
  (e_Lok (lk_12_243g ho_415 (x_dk dn_415_0_2_ok 4 rfl)))
  (e_Lok (ld_iload_n_3 (x_dk dn_415_0_2_ok 5 rfl))))
  (e_Tok2
  (e_Lok (ld_iload_4 (x_dk dn_415_0_2_ok 6 rfl)))
  (e_Lok (e_st (I := eI) (er_ifeq (off := 7) (tg := 108) (x_dk dn_415_0_2_ok 7 rfl) (by decide)) nx_if1))))
  (e_Tok2
  (e_Tok2
  (e_Lok (ps_iconst_1 (x_dk dn_415_0_2_ok 8 rfl)))
  (e_Lok (e_st (I := eI) (er_goto (off := 4) (tg := 109) (x_dk dn_415_0_2_ok 9 rfl) (by decide)) nx_goto)))
  (e_Tok2
  (e_Lok (ps_iconst_2 (x_dk dn_415_0_2_ok 10 rfl)))
  (e_Tok2
  (e_Lok (sm_iastore (x_dk dn_415_0_2_ok 11 rfl)))
  (e_Lok (ld_aload_n_0 (x_dk dn_415_0_2_ok 12 rfl)))))))
  (e_Tok2
  (e_Tok2
  (e_Tok2
  (e_Lok (lk_12_243g ho_415 (x_dk dn_415_0_2_ok 13 rfl)))
  (e_Lok (ld_iload_n_3 (x_dk dn_415_0_2_ok 14 rfl))))
  (e_Tok2
  (e_Lok (sm_iaload (x_dk dn_415_0_2_ok 15 rfl)))
  (e_Lok (ps_iconst_1 (x_dk dn_415_0_2_ok 16 rfl)))))
  (e_Tok2
  (e_Tok2
  (e_Lok (e_st (I := eI) (er_icmpne (off := 7) (tg := 124) (x_dk dn_415_0_2_ok 17 rfl) (by decide)) nx_if2))
  (e_Lok (ps_iconst_1 (x_dk dn_415_0_2_ok 18 rfl))))
  (e_Tok2
  (e_Lok (e_st (I := eI) (er_goto (off := 4) (tg := 125) (x_dk dn_415_0_2_ok 19 rfl) (by decide)) nx_goto))
  (e_Tok2
  (e_Lok (ps_iconst_0 (x_dk dn_415_0_2_ok 20 rfl)))
  (e_Lok (e_rt (I := eI) (k := 4) ⟨(x_dk dn_415_0_2_ok 21 rfl), rfl⟩))))))))
def te_415 : Nat → eE := (e_T 60 te_415_0 te_415_36)
theorem te_415_ok : ∀ pc, e_EOq eft cls elay eI n_415 pc (te_415 pc) := (e_Tok2 (te_415_0_ok) (te_415_36_ok))
theorem ho_416 : (xm_y n_416).cls = "RobotCellHouseModel" := rfl
def dn_416_0_0 : List (Nat × Instr × Nat) := [(0, .iload_n 2, 1), (1, .iconst 2, 1), (2, .idiv, 1), (3, .istore_n 3, 1), (4, .aload_n 0, 1), (5, .iload_n 1, 1), (6, .iload_n 3, 1), (7, .invokevirtual 825, 3), (10, .istore 4, 2), (12, .iload_n 2, 1), (13, .iconst 2, 1), (14, .irem, 1), (15, .ifCond .ne 37, 3), (18, .iload 4, 2), (20, .iconst 1, 1), (21, .iadd, 1), (22, .aload_n 0, 1), (23, .getfield 228, 3), (26, .iload_n 3, 1), (27, .iaload, 1), (28, .if_icmp .ge 22, 3), (31, .aload_n 0, 1), (32, .iload_n 1, 1), (33, .iload_n 3, 1), (34, .invokevirtual 843, 3)]
set_option maxRecDepth 20000 in
theorem dn_416_0_0_ok : dn_416_0_0.all (fun q => decide (decode (xm_b n_416) q.1 = .ok (q.2.1, q.2.2))) = true := xa_g_ok (by decide +kernel)
def dn_416_0_1 : List (Nat × Instr × Nat) := [(37, .ifCond .eq 13, 3), (40, .iload_n 1, 1), (41, .aload_n 0, 1), (42, .iload_n 3, 1), (43, .invokevirtual 840, 3), (46, .iadd, 1), (47, .goto 4, 3), (50, .iconst (-1), 1), (51, .ireturn, 1), (52, .iload 4, 2), (54, .ifCond .le 28, 3), (57, .aload_n 0, 1), (58, .iload_n 1, 1), (59, .aload_n 0, 1), (60, .iload_n 3, 1), (61, .invokevirtual 840, 3), (64, .isub, 1), (65, .iload_n 3, 1), (66, .invokevirtual 843, 3), (69, .ifCond .eq 13, 3), (72, .iload_n 1, 1), (73, .aload_n 0, 1), (74, .iload_n 3, 1), (75, .invokevirtual 840, 3), (78, .isub, 1)]
set_option maxRecDepth 20000 in
theorem dn_416_0_1_ok : dn_416_0_1.all (fun q => decide (decode (xm_b n_416) q.1 = .ok (q.2.1, q.2.2))) = true := xa_g_ok (by decide +kernel)
def dn_416_0_2 : List (Nat × Instr × Nat) := [(79, .goto 4, 3), (82, .iconst (-1), 1), (83, .ireturn, 1)]
set_option maxRecDepth 20000 in
theorem dn_416_0_2_ok : dn_416_0_2.all (fun q => decide (decode (xm_b n_416) q.1 = .ok (q.2.1, q.2.2))) = true := xa_g_ok (by decide +kernel)
def te_416_0 : Nat → eE := (e_T 15 (e_T 5 (e_T 2 (e_T 0 (e_L 0 (0, ei_load 2 0 1, 0, 0)) (e_T 1 (e_L 1 (0, ei_push (0, 2) 2, 0, 0)) (e_L 2 (0, ei_bin eF_div 3, 0, 0)))) (e_T 3 (e_L 3 (0, ei_stor 3 0 4, 0, 0)) (e_T 4 (e_L 4 (0, ei_load 0 2 5, 0, 0)) (e_L 5 (0, ei_load 1 0 6, 0, 0))))) (e_T 10 (e_T 6 (e_L 6 (0, ei_load 3 0 7, 0, 0)) (e_T 7 (e_L 7 (2, e_nof, 410, 3)) (e_L 10 (0, ei_stor 4 0 12, 0, 0)))) (e_T 13 (e_T 12 (e_L 12 (0, ei_load 2 0 13, 0, 0)) (e_L 13 (0, ei_push (0, 2) 14, 0, 0))) (e_T 14 (e_L 14 (0, ei_bin eF_rem 15, 0, 0)) (e_L 15 (0, ei_if1 1 52 18, 0, 0)))))) (e_T 26 (e_T 21 (e_T 18 (e_L 18 (0, ei_load 4 0 20, 0, 0)) (e_T 20 (e_L 20 (0, ei_push (0, 1) 21, 0, 0)) (e_L 21 (0, ei_bin eF_add 22, 0, 0)))) (e_T 22 (e_L 22 (0, ei_load 0 2 23, 0, 0)) (e_T 23 (e_L 23 (0, ei_getf eft elay 12 104 26, 0, 0)) (e_L 26 (0, ei_load 3 0 27, 0, 0))))) (e_T 31 (e_T 27 (e_L 27 (0, ei_ald elay false 28, 0, 0)) (e_T 28 (e_L 28 (0, ei_if2 3 50 31, 0, 0)) (e_L 31 (0, ei_load 0 2 32, 0, 0)))) (e_T 33 (e_T 32 (e_L 32 (0, ei_load 1 0 33, 0, 0)) (e_L 33 (0, ei_load 3 0 34, 0, 0))) (e_T 34 (e_L 34 (2, e_nof, 415, 3)) (e_L 37 (0, ei_if1 0 50 40, 0, 0)))))))
set_option maxRecDepth 20000 in
set_option maxHeartbeats 4000000 in
theorem te_416_0_ok : ∀ pc, e_EOq eft cls elay eI n_416 pc (te_416_0 pc) :=
  (e_Tok2
  (e_Tok2
  (e_Tok2
  (e_Tok2
  (e_Lok (ld_iload_n_2 (x_dk dn_416_0_0_ok 0 rfl)))
  (e_Tok2
  (e_Lok (ps_iconst_2 (x_dk dn_416_0_0_ok 1 rfl)))
  (e_Lok (e_st (I := eI) (er_idiv (x_dk dn_416_0_0_ok 2 rfl)) nx_bin))))
  (e_Tok2
  (e_Lok (e_st (I := eI) (er_istore_n (i := 3) (x_dk dn_416_0_0_ok 3 rfl) (by decide +kernel)) nx_stor))
  (e_Tok2
  (e_Lok (ld_aload_n_0 (x_dk dn_416_0_0_ok 4 rfl)))
  (e_Lok (ld_iload_n_1 (x_dk dn_416_0_0_ok 5 rfl))))))
  (e_Tok2
  (e_Tok2
  (e_Lok (ld_iload_n_3 (x_dk dn_416_0_0_ok 6 rfl)))
  (e_Tok2
  (e_Lok (lk_12_825 ho_416 (x_dk dn_416_0_0_ok 7 rfl)))
  (e_Lok (e_st (I := eI) (er_istore (i := 4) (x_dk dn_416_0_0_ok 8 rfl) (by decide +kernel)) nx_stor))))
  (e_Tok2
  (e_Tok2
  (e_Lok (ld_iload_n_2 (x_dk dn_416_0_0_ok 9 rfl)))
  (e_Lok (ps_iconst_2 (x_dk dn_416_0_0_ok 10 rfl))))
  (e_Tok2
  (e_Lok (e_st (I := eI) (er_irem (x_dk dn_416_0_0_ok 11 rfl)) nx_bin))
  (e_Lok (e_st (I := eI) (er_ifne (off := 37) (tg := 52) (x_dk dn_416_0_0_ok 12 rfl) (by decide)) nx_if1))))))
  (e_Tok2
  (e_Tok2
  (e_Tok2
  (e_Lok (ld_iload_4 (x_dk dn_416_0_0_ok 13 rfl)))
  (e_Tok2
  (e_Lok (ps_iconst_1 (x_dk dn_416_0_0_ok 14 rfl)))
  (e_Lok (sm_iadd (x_dk dn_416_0_0_ok 15 rfl)))))
  (e_Tok2
  (e_Lok (ld_aload_n_0 (x_dk dn_416_0_0_ok 16 rfl)))
  (e_Tok2
  (e_Lok (lk_12_228g ho_416 (x_dk dn_416_0_0_ok 17 rfl)))
  (e_Lok (ld_iload_n_3 (x_dk dn_416_0_0_ok 18 rfl))))))
  (e_Tok2
  (e_Tok2
  (e_Lok (sm_iaload (x_dk dn_416_0_0_ok 19 rfl)))
  (e_Tok2
  (e_Lok (e_st (I := eI) (er_icmpge (off := 22) (tg := 50) (x_dk dn_416_0_0_ok 20 rfl) (by decide)) nx_if2))
  (e_Lok (ld_aload_n_0 (x_dk dn_416_0_0_ok 21 rfl)))))
  (e_Tok2
  (e_Tok2
  (e_Lok (ld_iload_n_1 (x_dk dn_416_0_0_ok 22 rfl)))
  (e_Lok (ld_iload_n_3 (x_dk dn_416_0_0_ok 23 rfl))))
  (e_Tok2
  (e_Lok (lk_12_843 ho_416 (x_dk dn_416_0_0_ok 24 rfl)))
  (e_Lok (e_st (I := eI) (er_ifeq (off := 13) (tg := 50) (x_dk dn_416_0_1_ok 0 rfl) (by decide)) nx_if1)))))))
def te_416_26 : Nat → eE := (e_T 59 (e_T 47 (e_T 42 (e_T 40 (e_L 40 (0, ei_load 1 0 41, 0, 0)) (e_T 41 (e_L 41 (0, ei_load 0 2 42, 0, 0)) (e_L 42 (0, ei_load 3 0 43, 0, 0)))) (e_T 43 (e_L 43 (2, e_nof, 411, 2)) (e_T 46 (e_L 46 (0, ei_bin eF_add 47, 0, 0)) (e_L 47 (0, ei_goto 51, 0, 0))))) (e_T 52 (e_T 50 (e_L 50 (0, ei_push (0, (-1)) 51, 0, 0)) (e_T 51 (e_L 51 (1, e_nof, 1, 0)) (e_L 52 (0, ei_load 4 0 54, 0, 0)))) (e_T 57 (e_T 54 (e_L 54 (0, ei_if1 5 82 57, 0, 0)) (e_L 57 (0, ei_load 0 2 58, 0, 0))) (e_T 58 (e_L 58 (0, ei_load 1 0 59, 0, 0)) (e_L 59 (0, ei_load 0 2 60, 0, 0)))))) (e_T 72 (e_T 64 (e_T 60 (e_L 60 (0, ei_load 3 0 61, 0, 0)) (e_T 61 (e_L 61 (2, e_nof, 411, 2)) (e_L 64 (0, ei_bin eF_sub 65, 0, 0)))) (e_T 66 (e_T 65 (e_L 65 (0, ei_load 3 0 66, 0, 0)) (e_L 66 (2, e_nof, 415, 3))) (e_T 69 (e_L 69 (0, ei_if1 0 82 72, 0, 0)) (e_L 72 (0, ei_load 1 0 73, 0, 0))))) (e_T 75 (e_T 73 (e_L 73 (0, ei_load 0 2 74, 0, 0)) (e_T 74 (e_L 74 (0, ei_load 3 0 75, 0, 0)) (e_L 75 (2, e_nof, 411, 2)))) (e_T 79 (e_T 78 (e_L 78 (0, ei_bin eF_sub 79, 0, 0)) (e_L 79 (0, ei_goto 83, 0, 0))) (e_T 82 (e_L 82 (0, ei_push (0, (-1)) 83, 0, 0)) (e_L 83 (1, e_nof, 1, 0)))))))
set_option maxRecDepth 20000 in
set_option maxHeartbeats 4000000 in
theorem te_416_26_ok : ∀ pc, e_EOq eft cls elay eI n_416 pc (te_416_26 pc) :=
  (e_Tok2
  (e_Tok2
  (e_Tok2
  (e_Tok2
  (e_Lok (ld_iload_n_1 (x_dk dn_416_0_1_ok 1 rfl)))
  (e_Tok2
  (e_Lok (ld_aload_n_0 (x_dk dn_416_0_1_ok 2 rfl)))
  (e_Lok (ld_iload_n_3 (x_dk dn_416_0_1_ok 3 rfl)))))
  (e_Tok2
  (e_Lok (lk_12_840 ho_416 (x_dk dn_416_0_1_ok 4 rfl)))
  (e_Tok2
  (e_Lok (sm_iadd (x_dk dn_416_0_1_ok 5 rfl)))
  (e_Lok (e_st (I := eI) (er_goto (off := 4) (tg := 51) (x_dk dn_416_0_1_ok 6 rfl) (by decide)) nx_goto)))))
  (e_Tok2
  (e_Tok2
  (e_Lok (ps_iconst_m1 (x_dk dn_416_0_1_ok 7 rfl)))
  (e_Tok2
  (e_Lok (e_rt (I := eI) (k := 1) ⟨(x_dk dn_416_0_1_ok 8 rfl), rfl⟩))
  (e_Lok (ld_iload_4 (x_dk dn_416_0_1_ok 9 rfl)))))
  (e_Tok2
  (e_Tok2
  (e_Lok (e_st (I := eI) (er_ifle (off := 28) (tg := 82) (x_dk dn_416_0_1_ok 10 rfl) (by decide)) nx_if1))
  (e_Lok (ld_aload_n_0 (x_dk dn_416_0_1_ok 11 rfl))))
  (e_Tok2
  (e_Lok (ld_iload_n_1 (x_dk dn_416_0_1_ok 12 rfl)))
  (e_Lok (ld_aload_n_0 (x_dk dn_416_0_1_ok 13 rfl)))))))
  (e_Tok2
  (e_Tok2
  (e_Tok2
  (e_Lok (ld_iload_n_3 (x_dk dn_416_0_1_ok 14 rfl)))
  (e_Tok2
  (e_Lok (lk_12_840 ho_416 (x_dk dn_416_0_1_ok 15 rfl)))
  (e_Lok (sm_isub (x_dk dn_416_0_1_ok 16 rfl)))))
  (e_Tok2
  (e_Tok2
  (e_Lok (ld_iload_n_3 (x_dk dn_416_0_1_ok 17 rfl)))
  (e_Lok (lk_12_843 ho_416 (x_dk dn_416_0_1_ok 18 rfl))))
  (e_Tok2
  (e_Lok (e_st (I := eI) (er_ifeq (off := 13) (tg := 82) (x_dk dn_416_0_1_ok 19 rfl) (by decide)) nx_if1))
  (e_Lok (ld_iload_n_1 (x_dk dn_416_0_1_ok 20 rfl))))))
  (e_Tok2
  (e_Tok2
  (e_Lok (ld_aload_n_0 (x_dk dn_416_0_1_ok 21 rfl)))
  (e_Tok2
  (e_Lok (ld_iload_n_3 (x_dk dn_416_0_1_ok 22 rfl)))
  (e_Lok (lk_12_840 ho_416 (x_dk dn_416_0_1_ok 23 rfl)))))
  (e_Tok2
  (e_Tok2
  (e_Lok (sm_isub (x_dk dn_416_0_1_ok 24 rfl)))
  (e_Lok (e_st (I := eI) (er_goto (off := 4) (tg := 83) (x_dk dn_416_0_2_ok 0 rfl) (by decide)) nx_goto)))
  (e_Tok2
  (e_Lok (ps_iconst_m1 (x_dk dn_416_0_2_ok 1 rfl)))
  (e_Lok (e_rt (I := eI) (k := 1) ⟨(x_dk dn_416_0_2_ok 2 rfl), rfl⟩)))))))
def te_416 : Nat → eE := (e_T 37 te_416_0 te_416_26)
theorem te_416_ok : ∀ pc, e_EOq eft cls elay eI n_416 pc (te_416 pc) := (e_Tok2 (te_416_0_ok) (te_416_26_ok))
theorem ho_417 : (xm_y n_417).cls = "RobotCellHouseModel" := rfl
def dn_417_0_0 : List (Nat × Instr × Nat) := [(0, .iconst 0, 1), (1, .istore 4, 2), (3, .iload 4, 2), (5, .iload_n 3, 1), (6, .if_icmp .ge 55, 3), (9, .aload_n 0, 1), (10, .getfield 234, 3), (13, .iload 4, 2), (15, .iconst (-1), 1), (16, .iastore, 1), (17, .aload_n 0, 1), (18, .getfield 240, 3), (21, .iload 4, 2), (23, .iconst 0, 1), (24, .iastore, 1), (25, .iconst 0, 1), (26, .istore 5, 2), (28, .iload 5, 2), (30, .bipush 6, 2), (32, .if_icmp .ge 23, 3), (35, .aload_n 0, 1), (36, .getfield 243, 3), (39, .bipush 6, 2), (41, .iload 4, 2), (43, .imul, 1)]
set_option maxRecDepth 20000 in
theorem dn_417_0_0_ok : dn_417_0_0.all (fun q => decide (decode (xm_b n_417) q.1 = .ok (q.2.1, q.2.2))) = true := xa_g_ok (by decide +kernel)
def dn_417_0_1 : List (Nat × Instr × Nat) := [(44, .iload 5, 2), (46, .iadd, 1), (47, .iconst 0, 1), (48, .iastore, 1), (49, .iinc 5 1, 3), (52, .goto (-24), 3), (55, .iinc 4 1, 3), (58, .goto (-55), 3), (61, .aload_n 0, 1), (62, .iload_n 1, 1), (63, .invokevirtual 837, 3), (66, .ifCond .eq 11, 3), (69, .aload_n 0, 1), (70, .iload_n 2, 1), (71, .invokevirtual 837, 3), (74, .ifCond .ne 5, 3), (77, .iconst (-1), 1), (78, .ireturn, 1), (79, .iconst 2, 1), (80, .aload_n 0, 1), (81, .getfield 43, 3), (84, .aload_n 0, 1), (85, .getfield 819, 3), (88, .iaload, 1), (89, .imul, 1)]
set_option maxRecDepth 20000 in
theorem dn_417_0_1_ok : dn_417_0_1.all (fun q => decide (decode (xm_b n_417) q.1 = .ok (q.2.1, q.2.2))) = true := xa_g_ok (by decide +kernel)
def dn_417_0_2 : List (Nat × Instr × Nat) := [(90, .istore 4, 2), (92, .aload_n 0, 1), (93, .getfield 234, 3), (96, .iload_n 2, 1), (97, .iconst 0, 1), (98, .iastore, 1), (99, .aload_n 0, 1), (100, .getfield 237, 3), (103, .iconst 0, 1), (104, .iload_n 2, 1), (105, .iastore, 1), (106, .iconst 1, 1), (107, .istore 5, 2), (109, .iconst 0, 1), (110, .istore 6, 2), (112, .iload 6, 2), (114, .iload 5, 2), (116, .if_icmp .ge 97, 3), (119, .aload_n 0, 1), (120, .getfield 234, 3), (123, .iload_n 1, 1), (124, .iaload, 1), (125, .ifCond .ge 88, 3), (128, .iconst 0, 1), (129, .istore 7, 2)]
set_option maxRecDepth 20000 in
theorem dn_417_0_2_ok : dn_417_0_2.all (fun q => decide (decode (xm_b n_417) q.1 = .ok (q.2.1, q.2.2))) = true := xa_g_ok (by decide +kernel)
def dn_417_0_3 : List (Nat × Instr × Nat) := [(131, .iload 7, 2), (133, .iload 4, 2), (135, .if_icmp .ge 72, 3), (138, .aload_n 0, 1), (139, .aload_n 0, 1), (140, .getfield 237, 3), (143, .iload 6, 2), (145, .iaload, 1), (146, .iload 7, 2), (148, .invokevirtual 846, 3), (151, .istore 8, 2), (153, .iload 8, 2), (155, .ifCond .lt 46, 3), (158, .aload_n 0, 1), (159, .getfield 234, 3), (162, .iload 8, 2), (164, .iaload, 1), (165, .ifCond .ge 36, 3), (168, .aload_n 0, 1), (169, .getfield 234, 3), (172, .iload 8, 2), (174, .aload_n 0, 1), (175, .getfield 234, 3), (178, .aload_n 0, 1), (179, .getfield 237, 3)]
set_option maxRecDepth 20000 in
theorem dn_417_0_3_ok : dn_417_0_3.all (fun q => decide (decode (xm_b n_417) q.1 = .ok (q.2.1, q.2.2))) = true := xa_g_ok (by decide +kernel)
def dn_417_1_0 : List (Nat × Instr × Nat) := [(182, .iload 6, 2), (184, .iaload, 1), (185, .iaload, 1), (186, .iconst 1, 1), (187, .iadd, 1), (188, .iastore, 1), (189, .aload_n 0, 1), (190, .getfield 237, 3), (193, .iload 5, 2), (195, .iload 8, 2), (197, .iastore, 1), (198, .iinc 5 1, 3), (201, .iinc 7 1, 3), (204, .goto (-73), 3), (207, .iinc 6 1, 3), (210, .goto (-98), 3), (213, .aload_n 0, 1), (214, .getfield 234, 3), (217, .iload_n 1, 1), (218, .iaload, 1), (219, .istore 6, 2), (221, .iload_n 1, 1), (222, .istore 7, 2), (224, .iconst 0, 1), (225, .istore 8, 2)]
set_option maxRecDepth 20000 in
theorem dn_417_1_0_ok : dn_417_1_0.all (fun q => decide (decode (xm_b n_417) q.1 = .ok (q.2.1, q.2.2))) = true := xa_g_ok (by decide +kernel)
def dn_417_1_1 : List (Nat × Instr × Nat) := [(227, .iload 8, 2), (229, .iload 6, 2), (231, .if_icmp .ge 74, 3), (234, .iconst 0, 1), (235, .istore 9, 2), (237, .aload_n 0, 1), (238, .iload 7, 2), (240, .iconst 0, 1), (241, .invokevirtual 846, 3), (244, .istore 10, 2), (246, .iload 10, 2), (248, .ifCond .lt 22, 3), (251, .aload_n 0, 1), (252, .getfield 234, 3), (255, .iload 10, 2), (257, .iaload, 1), (258, .aload_n 0, 1), (259, .getfield 234, 3), (262, .iload 7, 2), (264, .iaload, 1), (265, .iconst 1, 1), (266, .isub, 1), (267, .if_icmp .eq 19, 3), (270, .iinc 9 1, 3), (273, .aload_n 0, 1)]
set_option maxRecDepth 20000 in
theorem dn_417_1_1_ok : dn_417_1_1.all (fun q => decide (decode (xm_b n_417) q.1 = .ok (q.2.1, q.2.2))) = true := xa_g_ok (by decide +kernel)
def dn_417_1_2 : List (Nat × Instr × Nat) := [(274, .iload 7, 2), (276, .iload 9, 2), (278, .invokevirtual 846, 3), (281, .istore 10, 2), (283, .goto (-37), 3), (286, .aload_n 0, 1), (287, .getfield 246, 3), (290, .iload 8, 2), (292, .iload 9, 2), (294, .iastore, 1), (295, .iload 10, 2), (297, .istore 7, 2), (299, .iinc 8 1, 3), (302, .goto (-75), 3), (305, .iload 6, 2), (307, .ireturn, 1)]
set_option maxRecDepth 20000 in
theorem dn_417_1_2_ok : dn_417_1_2.all (fun q => decide (decode (xm_b n_417) q.1 = .ok (q.2.1, q.2.2))) = true := xa_g_ok (by decide +kernel)
def te_417_0 : Nat → eE := (e_T 16 (e_T 6 (e_T 1 (e_T 0 (e_L 0 (0, ei_push (0, 0) 1, 0, 0)) (e_L 1 (0, ei_stor 4 0 3, 0, 0))) (e_T 3 (e_L 3 (0, ei_load 4 0 5, 0, 0)) (e_T 5 (e_L 5 (0, ei_load 3 0 6, 0, 0)) (e_L 6 (0, ei_if2 3 61 9, 0, 0))))) (e_T 10 (e_T 9 (e_L 9 (0, ei_load 0 2 10, 0, 0)) (e_L 10 (0, ei_getf eft elay 12 106 13, 0, 0))) (e_T 13 (e_L 13 (0, ei_load 4 0 15, 0, 0)) (e_T 15 (e_L 15 (0, ei_push (0, (-1)) 16, 0, 0)) (e_L 16 (0, ei_ast elay false 17, 0, 0)))))) (e_T 24 (e_T 18 (e_T 17 (e_L 17 (0, ei_load 0 2 18, 0, 0)) (e_L 18 (0, ei_getf eft elay 12 108 21, 0, 0))) (e_T 21 (e_L 21 (0, ei_load 4 0 23, 0, 0)) (e_T 23 (e_L 23 (0, ei_push (0, 0) 24, 0, 0)) (e_L 24 (0, ei_ast elay false 25, 0, 0))))) (e_T 26 (e_T 25 (e_L 25 (0, ei_push (0, 0) 26, 0, 0)) (e_L 26 (0, ei_stor 5 0 28, 0, 0))) (e_T 28 (e_L 28 (0, ei_load 5 0 30, 0, 0)) (e_T 30 (e_L 30 (0, ei_push (0, 6) 32, 0, 0)) (e_L 32 (0, ei_if2 3 55 35, 0, 0)))))))
set_option maxRecDepth 20000 in
set_option maxHeartbeats 4000000 in
theorem te_417_0_ok : ∀ pc, e_EOq eft cls elay eI n_417 pc (te_417_0 pc) :=
  (e_Tok2
  (e_Tok2
  (e_Tok2
  (e_Tok2
  (e_Lok (ps_iconst_0 (x_dk dn_417_0_0_ok 0 rfl)))
  (e_Lok (e_st (I := eI) (er_istore (i := 4) (x_dk dn_417_0_0_ok 1 rfl) (by decide +kernel)) nx_stor)))
  (e_Tok2
  (e_Lok (ld_iload_4 (x_dk dn_417_0_0_ok 2 rfl)))
  (e_Tok2
  (e_Lok (ld_iload_n_3 (x_dk dn_417_0_0_ok 3 rfl)))
  (e_Lok (e_st (I := eI) (er_icmpge (off := 55) (tg := 61) (x_dk dn_417_0_0_ok 4 rfl) (by decide)) nx_if2)))))
  (e_Tok2
  (e_Tok2
  (e_Lok (ld_aload_n_0 (x_dk dn_417_0_0_ok 5 rfl)))
  (e_Lok (lk_12_234g ho_417 (x_dk dn_417_0_0_ok 6 rfl))))
  (e_Tok2
  (e_Lok (ld_iload_4 (x_dk dn_417_0_0_ok 7 rfl)))
  (e_Tok2
  (e_Lok (ps_iconst_m1 (x_dk dn_417_0_0_ok 8 rfl)))
  (e_Lok (sm_iastore (x_dk dn_417_0_0_ok 9 rfl)))))))
  (e_Tok2
  (e_Tok2
  (e_Tok2
  (e_Lok (ld_aload_n_0 (x_dk dn_417_0_0_ok 10 rfl)))
  (e_Lok (lk_12_240g ho_417 (x_dk dn_417_0_0_ok 11 rfl))))
  (e_Tok2
  (e_Lok (ld_iload_4 (x_dk dn_417_0_0_ok 12 rfl)))
  (e_Tok2
  (e_Lok (ps_iconst_0 (x_dk dn_417_0_0_ok 13 rfl)))
  (e_Lok (sm_iastore (x_dk dn_417_0_0_ok 14 rfl))))))
  (e_Tok2
  (e_Tok2
  (e_Lok (ps_iconst_0 (x_dk dn_417_0_0_ok 15 rfl)))
  (e_Lok (e_st (I := eI) (er_istore (i := 5) (x_dk dn_417_0_0_ok 16 rfl) (by decide +kernel)) nx_stor)))
  (e_Tok2
  (e_Lok (ld_iload_5 (x_dk dn_417_0_0_ok 17 rfl)))
  (e_Tok2
  (e_Lok (ps_bipush_6 (x_dk dn_417_0_0_ok 18 rfl)))
  (e_Lok (e_st (I := eI) (er_icmpge (off := 23) (tg := 55) (x_dk dn_417_0_0_ok 19 rfl) (by decide)) nx_if2)))))))
def te_417_20 : Nat → eE := (e_T 49 (e_T 43 (e_T 36 (e_T 35 (e_L 35 (0, ei_load 0 2 36, 0, 0)) (e_L 36 (0, ei_getf eft elay 12 109 39, 0, 0))) (e_T 39 (e_L 39 (0, ei_push (0, 6) 41, 0, 0)) (e_T 41 (e_L 41 (0, ei_load 4 0 43, 0, 0)) (e_L 43 (0, ei_bin eF_mul 44, 0, 0))))) (e_T 46 (e_T 44 (e_L 44 (0, ei_load 5 0 46, 0, 0)) (e_L 46 (0, ei_bin eF_add 47, 0, 0))) (e_T 47 (e_L 47 (0, ei_push (0, 0) 48, 0, 0)) (e_T 48 (e_L 48 (0, ei_ast elay false 49, 0, 0)) (e_L 49 (0, ei_inc 5 1 52, 0, 0)))))) (e_T 62 (e_T 55 (e_T 52 (e_L 52 (0, ei_goto 28, 0, 0)) (e_L 55 (0, ei_inc 4 1 58, 0, 0))) (e_T 58 (e_L 58 (0, ei_goto 3, 0, 0)) (e_T 61 (e_L 61 (0, ei_load 0 2 62, 0, 0)) (e_L 62 (0, ei_load 1 0 63, 0, 0))))) (e_T 69 (e_T 63 (e_L 63 (2, e_nof, 414, 2)) (e_T 66 (e_L 66 (0, ei_if1 0 77 69, 0, 0)) (e_L 69 (0, ei_load 0 2 70, 0, 0)))) (e_T 70 (e_L 70 (0, ei_load 2 0 71, 0, 0)) (e_T 71 (e_L 71 (2, e_nof, 414, 2)) (e_L 74 (0, ei_if1 1 79 77, 0, 0)))))))
set_option maxRecDepth 20000 in
set_option maxHeartbeats 4000000 in
theorem te_417_20_ok : ∀ pc, e_EOq eft cls elay eI n_417 pc (te_417_20 pc) :=
  (e_Tok2
  (e_Tok2
  (e_Tok2
  (e_Tok2
  (e_Lok (ld_aload_n_0 (x_dk dn_417_0_0_ok 20 rfl)))
  (e_Lok (lk_12_243g ho_417 (x_dk dn_417_0_0_ok 21 rfl))))
  (e_Tok2
  (e_Lok (ps_bipush_6 (x_dk dn_417_0_0_ok 22 rfl)))
  (e_Tok2
  (e_Lok (ld_iload_4 (x_dk dn_417_0_0_ok 23 rfl)))
  (e_Lok (sm_imul (x_dk dn_417_0_0_ok 24 rfl))))))
  (e_Tok2
  (e_Tok2
  (e_Lok (ld_iload_5 (x_dk dn_417_0_1_ok 0 rfl)))
  (e_Lok (sm_iadd (x_dk dn_417_0_1_ok 1 rfl))))
  (e_Tok2
  (e_Lok (ps_iconst_0 (x_dk dn_417_0_1_ok 2 rfl)))
  (e_Tok2
  (e_Lok (sm_iastore (x_dk dn_417_0_1_ok 3 rfl)))
  (e_Lok (e_st (I := eI) (er_iinc (i := 5) (n := 1) (x_dk dn_417_0_1_ok 4 rfl) (by decide +kernel) (by decide)) nx_inc))))))
  (e_Tok2
  (e_Tok2
  (e_Tok2
  (e_Lok (e_st (I := eI) (er_goto (off := (-24)) (tg := 28) (x_dk dn_417_0_1_ok 5 rfl) (by decide)) nx_goto))
  (e_Lok (e_st (I := eI) (er_iinc (i := 4) (n := 1) (x_dk dn_417_0_1_ok 6 rfl) (by decide +kernel) (by decide)) nx_inc)))
  (e_Tok2
  (e_Lok (e_st (I := eI) (er_goto (off := (-55)) (tg := 3) (x_dk dn_417_0_1_ok 7 rfl) (by decide)) nx_goto))
  (e_Tok2
  (e_Lok (ld_aload_n_0 (x_dk dn_417_0_1_ok 8 rfl)))
  (e_Lok (ld_iload_n_1 (x_dk dn_417_0_1_ok 9 rfl))))))
  (e_Tok2
  (e_Tok2
  (e_Lok (lk_12_837 ho_417 (x_dk dn_417_0_1_ok 10 rfl)))
  (e_Tok2
  (e_Lok (e_st (I := eI) (er_ifeq (off := 11) (tg := 77) (x_dk dn_417_0_1_ok 11 rfl) (by decide)) nx_if1))
  (e_Lok (ld_aload_n_0 (x_dk dn_417_0_1_ok 12 rfl)))))
  (e_Tok2
  (e_Lok (ld_iload_n_2 (x_dk dn_417_0_1_ok 13 rfl)))
  (e_Tok2
  (e_Lok (lk_12_837 ho_417 (x_dk dn_417_0_1_ok 14 rfl)))
  (e_Lok (e_st (I := eI) (er_ifne (off := 5) (tg := 79) (x_dk dn_417_0_1_ok 15 rfl) (by decide)) nx_if1)))))))
def te_417_41 : Nat → eE := (e_T 90 (e_T 81 (e_T 78 (e_T 77 (e_L 77 (0, ei_push (0, (-1)) 78, 0, 0)) (e_L 78 (1, e_nof, 1, 0))) (e_T 79 (e_L 79 (0, ei_push (0, 2) 80, 0, 0)) (e_T 80 (e_L 80 (0, ei_load 0 2 81, 0, 0)) (e_L 81 (0, ei_getf eft elay 12 15 84, 0, 0))))) (e_T 85 (e_T 84 (e_L 84 (0, ei_load 0 2 85, 0, 0)) (e_L 85 (0, ei_getf eft elay 12 110 88, 0, 0))) (e_T 88 (e_L 88 (0, ei_ald elay false 89, 0, 0)) (e_T 89 (e_L 89 (0, ei_bin eF_mul 90, 0, 0)) (e_L 90 (0, ei_stor 4 0 92, 0, 0)))))) (e_T 98 (e_T 93 (e_T 92 (e_L 92 (0, ei_load 0 2 93, 0, 0)) (e_L 93 (0, ei_getf eft elay 12 106 96, 0, 0))) (e_T 96 (e_L 96 (0, ei_load 2 0 97, 0, 0)) (e_T 97 (e_L 97 (0, ei_push (0, 0) 98, 0, 0)) (e_L 98 (0, ei_ast elay false 99, 0, 0))))) (e_T 103 (e_T 99 (e_L 99 (0, ei_load 0 2 100, 0, 0)) (e_T 100 (e_L 100 (0, ei_getf eft elay 12 107 103, 0, 0)) (e_L 103 (0, ei_push (0, 0) 104, 0, 0)))) (e_T 104 (e_L 104 (0, ei_load 2 0 105, 0, 0)) (e_T 105 (e_L 105 (0, ei_ast elay false 106, 0, 0)) (e_L 106 (0, ei_push (0, 1) 107, 0, 0)))))))
set_option maxRecDepth 20000 in
set_option maxHeartbeats 4000000 in
theorem te_417_41_ok : ∀ pc, e_EOq eft cls elay eI n_417 pc (te_417_41 pc) :=
  (e_Tok2
  (e_Tok2
  (e_Tok2
  (e_Tok2
  (e_Lok (ps_iconst_m1 (x_dk dn_417_0_1_ok 16 rfl)))
  (e_Lok (e_rt (I := eI) (k := 1) ⟨(x_dk dn_417_0_1_ok 17 rfl), rfl⟩)))
  (e_Tok2
  (e_Lok (ps_iconst_2 (x_dk dn_417_0_1_ok 18 rfl)))
  (e_Tok2
  (e_Lok (ld_aload_n_0 (x_dk dn_417_0_1_ok 19 rfl)))
  (e_Lok (lk_12_43g ho_417 (x_dk dn_417_0_1_ok 20 rfl))))))
  (e_Tok2
  (e_Tok2
  (e_Lok (ld_aload_n_0 (x_dk dn_417_0_1_ok 21 rfl)))
  (e_Lok (lk_12_819g ho_417 (x_dk dn_417_0_1_ok 22 rfl))))
  (e_Tok2
  (e_Lok (sm_iaload (x_dk dn_417_0_1_ok 23 rfl)))
  (e_Tok2
  (e_Lok (sm_imul (x_dk dn_417_0_1_ok 24 rfl)))
  (e_Lok (e_st (I := eI) (er_istore (i := 4) (x_dk dn_417_0_2_ok 0 rfl) (by decide +kernel)) nx_stor))))))
  (e_Tok2
  (e_Tok2
  (e_Tok2
  (e_Lok (ld_aload_n_0 (x_dk dn_417_0_2_ok 1 rfl)))
  (e_Lok (lk_12_234g ho_417 (x_dk dn_417_0_2_ok 2 rfl))))
  (e_Tok2
  (e_Lok (ld_iload_n_2 (x_dk dn_417_0_2_ok 3 rfl)))
  (e_Tok2
  (e_Lok (ps_iconst_0 (x_dk dn_417_0_2_ok 4 rfl)))
  (e_Lok (sm_iastore (x_dk dn_417_0_2_ok 5 rfl))))))
  (e_Tok2
  (e_Tok2
  (e_Lok (ld_aload_n_0 (x_dk dn_417_0_2_ok 6 rfl)))
  (e_Tok2
  (e_Lok (lk_12_237g ho_417 (x_dk dn_417_0_2_ok 7 rfl)))
  (e_Lok (ps_iconst_0 (x_dk dn_417_0_2_ok 8 rfl)))))
  (e_Tok2
  (e_Lok (ld_iload_n_2 (x_dk dn_417_0_2_ok 9 rfl)))
  (e_Tok2
  (e_Lok (sm_iastore (x_dk dn_417_0_2_ok 10 rfl)))
  (e_Lok (ps_iconst_1 (x_dk dn_417_0_2_ok 11 rfl))))))))
def te_417_62 : Nat → eE := (e_T 124 (e_T 114 (e_T 109 (e_T 107 (e_L 107 (0, ei_stor 5 0 109, 0, 0)) (e_L 109 (0, ei_push (0, 0) 110, 0, 0))) (e_T 110 (e_L 110 (0, ei_stor 6 0 112, 0, 0)) (e_T 112 (e_L 112 (0, ei_load 6 0 114, 0, 0)) (e_L 114 (0, ei_load 5 0 116, 0, 0))))) (e_T 119 (e_T 116 (e_L 116 (0, ei_if2 3 213 119, 0, 0)) (e_L 119 (0, ei_load 0 2 120, 0, 0))) (e_T 120 (e_L 120 (0, ei_getf eft elay 12 106 123, 0, 0)) (e_T 123 (e_L 123 (0, ei_load 1 0 124, 0, 0)) (e_L 124 (0, ei_ald elay false 125, 0, 0)))))) (e_T 133 (e_T 128 (e_T 125 (e_L 125 (0, ei_if1 3 213 128, 0, 0)) (e_L 128 (0, ei_push (0, 0) 129, 0, 0))) (e_T 129 (e_L 129 (0, ei_stor 7 0 131, 0, 0)) (e_T 131 (e_L 131 (0, ei_load 7 0 133, 0, 0)) (e_L 133 (0, ei_load 4 0 135, 0, 0))))) (e_T 139 (e_T 135 (e_L 135 (0, ei_if2 3 207 138, 0, 0)) (e_T 138 (e_L 138 (0, ei_load 0 2 139, 0, 0)) (e_L 139 (0, ei_load 0 2 140, 0, 0)))) (e_T 140 (e_L 140 (0, ei_getf eft elay 12 107 143, 0, 0)) (e_T 143 (e_L 143 (0, ei_load 6 0 145, 0, 0)) (e_L 145 (0, ei_ald elay false 146, 0, 0)))))))
set_option maxRecDepth 20000 in
set_option maxHeartbeats 4000000 in
theorem te_417_62_ok : ∀ pc, e_EOq eft cls elay eI n_417 pc (te_417_62 pc) :=
  (e_Tok2
  (e_Tok2
  (e_Tok2
  (e_Tok2
  (e_Lok (e_st (I := eI) (er_istore (i := 5) (x_dk dn_417_0_2_ok 12 rfl) (by decide +kernel)) nx_stor))
  (e_Lok (ps_iconst_0 (x_dk dn_417_0_2_ok 13 rfl))))
  (e_Tok2
  (e_Lok (e_st (I := eI) (er_istore (i := 6) (x_dk dn_417_0_2_ok 14 rfl) (by decide +kernel)) nx_stor))
  (e_Tok2
  (e_Lok (ld_iload_6 (x_dk dn_417_0_2_ok 15 rfl)))
  (e_Lok (ld_iload_5 (x_dk dn_417_0_2_ok 16 rfl))))))
  (e_Tok2
  (e_Tok2
  (e_Lok (e_st (I := eI) (er_icmpge (off := 97) (tg := 213) (x_dk dn_417_0_2_ok 17 rfl) (by decide)) nx_if2))
  (e_Lok (ld_aload_n_0 (x_dk dn_417_0_2_ok 18 rfl))))
  (e_Tok2
  (e_Lok (lk_12_234g ho_417 (x_dk dn_417_0_2_ok 19 rfl)))
  (e_Tok2
  (e_Lok (ld_iload_n_1 (x_dk dn_417_0_2_ok 20 rfl)))
  (e_Lok (sm_iaload (x_dk dn_417_0_2_ok 21 rfl)))))))
  (e_Tok2
  (e_Tok2
  (e_Tok2
  (e_Lok (e_st (I := eI) (er_ifge (off := 88) (tg := 213) (x_dk dn_417_0_2_ok 22 rfl) (by decide)) nx_if1))
  (e_Lok (ps_iconst_0 (x_dk dn_417_0_2_ok 23 rfl))))
  (e_Tok2
  (e_Lok (e_st (I := eI) (er_istore (i := 7) (x_dk dn_417_0_2_ok 24 rfl) (by decide +kernel)) nx_stor))
  (e_Tok2
  (e_Lok (ld_iload_7 (x_dk dn_417_0_3_ok 0 rfl)))
  (e_Lok (ld_iload_4 (x_dk dn_417_0_3_ok 1 rfl))))))
  (e_Tok2
  (e_Tok2
  (e_Lok (e_st (I := eI) (er_icmpge (off := 72) (tg := 207) (x_dk dn_417_0_3_ok 2 rfl) (by decide)) nx_if2))
  (e_Tok2
  (e_Lok (ld_aload_n_0 (x_dk dn_417_0_3_ok 3 rfl)))
  (e_Lok (ld_aload_n_0 (x_dk dn_417_0_3_ok 4 rfl)))))
  (e_Tok2
  (e_Lok (lk_12_237g ho_417 (x_dk dn_417_0_3_ok 5 rfl)))
  (e_Tok2
  (e_Lok (ld_iload_6 (x_dk dn_417_0_3_ok 6 rfl)))
  (e_Lok (sm_iaload (x_dk dn_417_0_3_ok 7 rfl))))))))
def te_417_83 : Nat → eE := (e_T 165 (e_T 155 (e_T 148 (e_T 146 (e_L 146 (0, ei_load 7 0 148, 0, 0)) (e_L 148 (2, e_nof, 416, 3))) (e_T 151 (e_L 151 (0, ei_stor 8 0 153, 0, 0)) (e_T 153 (e_L 153 (0, ei_load 8 0 155, 0, 0)) (e_L 155 (0, ei_if1 2 201 158, 0, 0))))) (e_T 159 (e_T 158 (e_L 158 (0, ei_load 0 2 159, 0, 0)) (e_L 159 (0, ei_getf eft elay 12 106 162, 0, 0))) (e_T 162 (e_L 162 (0, ei_load 8 0 164, 0, 0)) (e_T 164 (e_L 164 (0, ei_ald elay false 165, 0, 0)) (e_L 165 (0, ei_if1 3 201 168, 0, 0)))))) (e_T 175 (e_T 169 (e_T 168 (e_L 168 (0, ei_load 0 2 169, 0, 0)) (e_L 169 (0, ei_getf eft elay 12 106 172, 0, 0))) (e_T 172 (e_L 172 (0, ei_load 8 0 174, 0, 0)) (e_T 174 (e_L 174 (0, ei_load 0 2 175, 0, 0)) (e_L 175 (0, ei_getf eft elay 12 106 178, 0, 0))))) (e_T 179 (e_T 178 (e_L 178 (0, ei_load 0 2 179, 0, 0)) (e_L 179 (0, ei_getf eft elay 12 107 182, 0, 0))) (e_T 182 (e_L 182 (0, ei_load 6 0 184, 0, 0)) (e_T 184 (e_L 184 (0, ei_ald elay false 185, 0, 0)) (e_L 185 (0, ei_ald elay false 186, 0, 0)))))))
set_option maxRecDepth 20000 in
set_option maxHeartbeats 4000000 in
theorem te_417_83_ok : ∀ pc, e_EOq eft cls elay eI n_417 pc (te_417_83 pc) :=
  (e_Tok2
  (e_Tok2
  (e_Tok2
  (e_Tok2
  (e_Lok (ld_iload_7 (x_dk dn_417_0_3_ok 8 rfl)))
  (e_Lok (lk_12_846 ho_417 (x_dk dn_417_0_3_ok 9 rfl))))
  (e_Tok2
  (e_Lok (e_st (I := eI) (er_istore (i := 8) (x_dk dn_417_0_3_ok 10 rfl) (by decide +kernel)) nx_stor))
  (e_Tok2
  (e_Lok (ld_iload_8 (x_dk dn_417_0_3_ok 11 rfl)))
  (e_Lok (e_st (I := eI) (er_iflt (off := 46) (tg := 201) (x_dk dn_417_0_3_ok 12 rfl) (by decide)) nx_if1)))))
  (e_Tok2
  (e_Tok2
  (e_Lok (ld_aload_n_0 (x_dk dn_417_0_3_ok 13 rfl)))
  (e_Lok (lk_12_234g ho_417 (x_dk dn_417_0_3_ok 14 rfl))))
  (e_Tok2
  (e_Lok (ld_iload_8 (x_dk dn_417_0_3_ok 15 rfl)))
  (e_Tok2
  (e_Lok (sm_iaload (x_dk dn_417_0_3_ok 16 rfl)))
  (e_Lok (e_st (I := eI) (er_ifge (off := 36) (tg := 201) (x_dk dn_417_0_3_ok 17 rfl) (by decide)) nx_if1))))))
  (e_Tok2
  (e_Tok2
  (e_Tok2
  (e_Lok (ld_aload_n_0 (x_dk dn_417_0_3_ok 18 rfl)))
  (e_Lok (lk_12_234g ho_417 (x_dk dn_417_0_3_ok 19 rfl))))
  (e_Tok2
  (e_Lok (ld_iload_8 (x_dk dn_417_0_3_ok 20 rfl)))
  (e_Tok2
  (e_Lok (ld_aload_n_0 (x_dk dn_417_0_3_ok 21 rfl)))
  (e_Lok (lk_12_234g ho_417 (x_dk dn_417_0_3_ok 22 rfl))))))
  (e_Tok2
  (e_Tok2
  (e_Lok (ld_aload_n_0 (x_dk dn_417_0_3_ok 23 rfl)))
  (e_Lok (lk_12_237g ho_417 (x_dk dn_417_0_3_ok 24 rfl))))
  (e_Tok2
  (e_Lok (ld_iload_6 (x_dk dn_417_1_0_ok 0 rfl)))
  (e_Tok2
  (e_Lok (sm_iaload (x_dk dn_417_1_0_ok 1 rfl)))
  (e_Lok (sm_iaload (x_dk dn_417_1_0_ok 2 rfl))))))))
def te_417_103 : Nat → eE := (e_T 201 (e_T 190 (e_T 187 (e_T 186 (e_L 186 (0, ei_push (0, 1) 187, 0, 0)) (e_L 187 (0, ei_bin eF_add 188, 0, 0))) (e_T 188 (e_L 188 (0, ei_ast elay false 189, 0, 0)) (e_T 189 (e_L 189 (0, ei_load 0 2 190, 0, 0)) (e_L 190 (0, ei_getf eft elay 12 107 193, 0, 0))))) (e_T 195 (e_T 193 (e_L 193 (0, ei_load 5 0 195, 0, 0)) (e_L 195 (0, ei_load 8 0 197, 0, 0))) (e_T 197 (e_L 197 (0, ei_ast elay false 198, 0, 0)) (e_T 198 (e_L 198 (0, ei_inc 5 1 201, 0, 0)) (e_L 201 (0, ei_inc 7 1 204, 0, 0)))))) (e_T 214 (e_T 207 (e_T 204 (e_L 204 (0, ei_goto 131, 0, 0)) (e_L 207 (0, ei_inc 6 1 210, 0, 0))) (e_T 210 (e_L 210 (0, ei_goto 112, 0, 0)) (e_T 213 (e_L 213 (0, ei_load 0 2 214, 0, 0)) (e_L 214 (0, ei_getf eft elay 12 106 217, 0, 0))))) (e_T 219 (e_T 217 (e_L 217 (0, ei_load 1 0 218, 0, 0)) (e_T 218 (e_L 218 (0, ei_ald elay false 219, 0, 0)) (e_L 219 (0, ei_stor 6 0 221, 0, 0)))) (e_T 221 (e_L 221 (0, ei_load 1 0 222, 0, 0)) (e_T 222 (e_L 222 (0, ei_stor 7 0 224, 0, 0)) (e_L 224 (0, ei_push (0, 0) 225, 0, 0)))))))
set_option maxRecDepth 20000 in
set_option maxHeartbeats 4000000 in
theorem te_417_103_ok : ∀ pc, e_EOq eft cls elay eI n_417 pc (te_417_103 pc) :=
  (e_Tok2
  (e_Tok2
  (e_Tok2
  (e_Tok2
  (e_Lok (ps_iconst_1 (x_dk dn_417_1_0_ok 3 rfl)))
  (e_Lok (sm_iadd (x_dk dn_417_1_0_ok 4 rfl))))
  (e_Tok2
  (e_Lok (sm_iastore (x_dk dn_417_1_0_ok 5 rfl)))
  (e_Tok2
  (e_Lok (ld_aload_n_0 (x_dk dn_417_1_0_ok 6 rfl)))
  (e_Lok (lk_12_237g ho_417 (x_dk dn_417_1_0_ok 7 rfl))))))
  (e_Tok2
  (e_Tok2
  (e_Lok (ld_iload_5 (x_dk dn_417_1_0_ok 8 rfl)))
  (e_Lok (ld_iload_8 (x_dk dn_417_1_0_ok 9 rfl))))
  (e_Tok2
  (e_Lok (sm_iastore (x_dk dn_417_1_0_ok 10 rfl)))
  (e_Tok2
  (e_Lok (e_st (I := eI) (er_iinc (i := 5) (n := 1) (x_dk dn_417_1_0_ok 11 rfl) (by decide +kernel) (by decide)) nx_inc))
  (e_Lok (e_st (I := eI) (er_iinc (i := 7) (n := 1) (x_dk dn_417_1_0_ok 12 rfl) (by decide +kernel) (by decide)) nx_inc))))))
  (e_Tok2
  (e_Tok2
  (e_Tok2
  (e_Lok (e_st (I := eI) (er_goto (off := (-73)) (tg := 131) (x_dk dn_417_1_0_ok 13 rfl) (by decide)) nx_goto))
  (e_Lok (e_st (I := eI) (er_iinc (i := 6) (n := 1) (x_dk dn_417_1_0_ok 14 rfl) (by decide +kernel) (by decide)) nx_inc)))
  (e_Tok2
  (e_Lok (e_st (I := eI) (er_goto (off := (-98)) (tg := 112) (x_dk dn_417_1_0_ok 15 rfl) (by decide)) nx_goto))
  (e_Tok2
  (e_Lok (ld_aload_n_0 (x_dk dn_417_1_0_ok 16 rfl)))
  (e_Lok (lk_12_234g ho_417 (x_dk dn_417_1_0_ok 17 rfl))))))
  (e_Tok2
  (e_Tok2
  (e_Lok (ld_iload_n_1 (x_dk dn_417_1_0_ok 18 rfl)))
  (e_Tok2
  (e_Lok (sm_iaload (x_dk dn_417_1_0_ok 19 rfl)))
  (e_Lok (e_st (I := eI) (er_istore (i := 6) (x_dk dn_417_1_0_ok 20 rfl) (by decide +kernel)) nx_stor))))
  (e_Tok2
  (e_Lok (ld_iload_n_1 (x_dk dn_417_1_0_ok 21 rfl)))
  (e_Tok2
  (e_Lok (e_st (I := eI) (er_istore (i := 7) (x_dk dn_417_1_0_ok 22 rfl) (by decide +kernel)) nx_stor))
  (e_Lok (ps_iconst_0 (x_dk dn_417_1_0_ok 23 rfl))))))))
def te_417_124 : Nat → eE := (e_T 241 (e_T 234 (e_T 227 (e_T 225 (e_L 225 (0, ei_stor 8 0 227, 0, 0)) (e_L 227 (0, ei_load 8 0 229, 0, 0))) (e_T 229 (e_L 229 (0, ei_load 6 0 231, 0, 0)) (e_T 231 (e_L 231 (0, ei_if2 3 305 234, 0, 0)) (e_L 234 (0, ei_push (0, 0) 235, 0, 0))))) (e_T 237 (e_T 235 (e_L 235 (0, ei_stor 9 0 237, 0, 0)) (e_L 237 (0, ei_load 0 2 238, 0, 0))) (e_T 238 (e_L 238 (0, ei_load 7 0 240, 0, 0)) (e_T 240 (e_L 240 (0, ei_push (0, 0) 241, 0, 0)) (e_L 241 (2, e_nof, 416, 3)))))) (e_T 252 (e_T 246 (e_T 244 (e_L 244 (0, ei_stor 10 0 246, 0, 0)) (e_L 246 (0, ei_load 10 0 248, 0, 0))) (e_T 248 (e_L 248 (0, ei_if1 2 270 251, 0, 0)) (e_T 251 (e_L 251 (0, ei_load 0 2 252, 0, 0)) (e_L 252 (0, ei_getf eft elay 12 106 255, 0, 0))))) (e_T 258 (e_T 255 (e_L 255 (0, ei_load 10 0 257, 0, 0)) (e_T 257 (e_L 257 (0, ei_ald elay false 258, 0, 0)) (e_L 258 (0, ei_load 0 2 259, 0, 0)))) (e_T 259 (e_L 259 (0, ei_getf eft elay 12 106 262, 0, 0)) (e_T 262 (e_L 262 (0, ei_load 7 0 264, 0, 0)) (e_L 264 (0, ei_ald elay false 265, 0, 0)))))))
set_option maxRecDepth 20000 in
set_option maxHeartbeats 4000000 in
theorem te_417_124_ok : ∀ pc, e_EOq eft cls elay eI n_417 pc (te_417_124 pc) :=
  (e_Tok2
  (e_Tok2
  (e_Tok2
  (e_Tok2
  (e_Lok (e_st (I := eI) (er_istore (i := 8) (x_dk dn_417_1_0_ok 24 rfl) (by decide +kernel)) nx_stor))
  (e_Lok (ld_iload_8 (x_dk dn_417_1_1_ok 0 rfl))))
  (e_Tok2
  (e_Lok (ld_iload_6 (x_dk dn_417_1_1_ok 1 rfl)))
  (e_Tok2
  (e_Lok (e_st (I := eI) (er_icmpge (off := 74) (tg := 305) (x_dk dn_417_1_1_ok 2 rfl) (by decide)) nx_if2))
  (e_Lok (ps_iconst_0 (x_dk dn_417_1_1_ok 3 rfl))))))
  (e_Tok2
  (e_Tok2
  (e_Lok (e_st (I := eI) (er_istore (i := 9) (x_dk dn_417_1_1_ok 4 rfl) (by decide +kernel)) nx_stor))
  (e_Lok (ld_aload_n_0 (x_dk dn_417_1_1_ok 5 rfl))))
  (e_Tok2
  (e_Lok (ld_iload_7 (x_dk dn_417_1_1_ok 6 rfl)))
  (e_Tok2
  (e_Lok (ps_iconst_0 (x_dk dn_417_1_1_ok 7 rfl)))
  (e_Lok (lk_12_846 ho_417 (x_dk dn_417_1_1_ok 8 rfl)))))))
  (e_Tok2
  (e_Tok2
  (e_Tok2
  (e_Lok (e_st (I := eI) (er_istore (i := 10) (x_dk dn_417_1_1_ok 9 rfl) (by decide +kernel)) nx_stor))
  (e_Lok (ld_iload_10 (x_dk dn_417_1_1_ok 10 rfl))))
  (e_Tok2
  (e_Lok (e_st (I := eI) (er_iflt (off := 22) (tg := 270) (x_dk dn_417_1_1_ok 11 rfl) (by decide)) nx_if1))
  (e_Tok2
  (e_Lok (ld_aload_n_0 (x_dk dn_417_1_1_ok 12 rfl)))
  (e_Lok (lk_12_234g ho_417 (x_dk dn_417_1_1_ok 13 rfl))))))
  (e_Tok2
  (e_Tok2
  (e_Lok (ld_iload_10 (x_dk dn_417_1_1_ok 14 rfl)))
  (e_Tok2
  (e_Lok (sm_iaload (x_dk dn_417_1_1_ok 15 rfl)))
  (e_Lok (ld_aload_n_0 (x_dk dn_417_1_1_ok 16 rfl)))))
  (e_Tok2
  (e_Lok (lk_12_234g ho_417 (x_dk dn_417_1_1_ok 17 rfl)))
  (e_Tok2
  (e_Lok (ld_iload_7 (x_dk dn_417_1_1_ok 18 rfl)))
  (e_Lok (sm_iaload (x_dk dn_417_1_1_ok 19 rfl))))))))
def te_417_145 : Nat → eE := (e_T 283 (e_T 273 (e_T 266 (e_T 265 (e_L 265 (0, ei_push (0, 1) 266, 0, 0)) (e_L 266 (0, ei_bin eF_sub 267, 0, 0))) (e_T 267 (e_L 267 (0, ei_if2 0 286 270, 0, 0)) (e_T 270 (e_L 270 (0, ei_inc 9 1 273, 0, 0)) (e_L 273 (0, ei_load 0 2 274, 0, 0))))) (e_T 276 (e_T 274 (e_L 274 (0, ei_load 7 0 276, 0, 0)) (e_L 276 (0, ei_load 9 0 278, 0, 0))) (e_T 278 (e_L 278 (2, e_nof, 416, 3)) (e_T 281 (e_L 281 (0, ei_stor 10 0 283, 0, 0)) (e_L 283 (0, ei_goto 246, 0, 0)))))) (e_T 294 (e_T 287 (e_T 286 (e_L 286 (0, ei_load 0 2 287, 0, 0)) (e_L 287 (0, ei_getf eft elay 12 113 290, 0, 0))) (e_T 290 (e_L 290 (0, ei_load 8 0 292, 0, 0)) (e_T 292 (e_L 292 (0, ei_load 9 0 294, 0, 0)) (e_L 294 (0, ei_ast elay false 295, 0, 0))))) (e_T 299 (e_T 295 (e_L 295 (0, ei_load 10 0 297, 0, 0)) (e_T 297 (e_L 297 (0, ei_stor 7 0 299, 0, 0)) (e_L 299 (0, ei_inc 8 1 302, 0, 0)))) (e_T 302 (e_L 302 (0, ei_goto 227, 0, 0)) (e_T 305 (e_L 305 (0, ei_load 6 0 307, 0, 0)) (e_L 307 (1, e_nof, 1, 0)))))))
set_option maxRecDepth 20000 in
set_option maxHeartbeats 4000000 in
theorem te_417_145_ok : ∀ pc, e_EOq eft cls elay eI n_417 pc (te_417_145 pc) :=
  (e_Tok2
  (e_Tok2
  (e_Tok2
  (e_Tok2
  (e_Lok (ps_iconst_1 (x_dk dn_417_1_1_ok 20 rfl)))
  (e_Lok (sm_isub (x_dk dn_417_1_1_ok 21 rfl))))
  (e_Tok2
  (e_Lok (e_st (I := eI) (er_icmpeq (off := 19) (tg := 286) (x_dk dn_417_1_1_ok 22 rfl) (by decide)) nx_if2))
  (e_Tok2
  (e_Lok (e_st (I := eI) (er_iinc (i := 9) (n := 1) (x_dk dn_417_1_1_ok 23 rfl) (by decide +kernel) (by decide)) nx_inc))
  (e_Lok (ld_aload_n_0 (x_dk dn_417_1_1_ok 24 rfl))))))
  (e_Tok2
  (e_Tok2
  (e_Lok (ld_iload_7 (x_dk dn_417_1_2_ok 0 rfl)))
  (e_Lok (ld_iload_9 (x_dk dn_417_1_2_ok 1 rfl))))
  (e_Tok2
  (e_Lok (lk_12_846 ho_417 (x_dk dn_417_1_2_ok 2 rfl)))
  (e_Tok2
  (e_Lok (e_st (I := eI) (er_istore (i := 10) (x_dk dn_417_1_2_ok 3 rfl) (by decide +kernel)) nx_stor))
  (e_Lok (e_st (I := eI) (er_goto (off := (-37)) (tg := 246) (x_dk dn_417_1_2_ok 4 rfl) (by decide)) nx_goto))))))
  (e_Tok2
  (e_Tok2
  (e_Tok2
  (e_Lok (ld_aload_n_0 (x_dk dn_417_1_2_ok 5 rfl)))
  (e_Lok (lk_12_246g ho_417 (x_dk dn_417_1_2_ok 6 rfl))))
  (e_Tok2
  (e_Lok (ld_iload_8 (x_dk dn_417_1_2_ok 7 rfl)))
  (e_Tok2
  (e_Lok (ld_iload_9 (x_dk dn_417_1_2_ok 8 rfl)))
  (e_Lok (sm_iastore (x_dk dn_417_1_2_ok 9 rfl))))))
  (e_Tok2
  (e_Tok2
  (e_Lok (ld_iload_10 (x_dk dn_417_1_2_ok 10 rfl)))
  (e_Tok2
  (e_Lok (e_st (I := eI) (er_istore (i := 7) (x_dk dn_417_1_2_ok 11 rfl) (by decide +kernel)) nx_stor))
  (e_Lok (e_st (I := eI) (er_iinc (i := 8) (n := 1) (x_dk dn_417_1_2_ok 12 rfl) (by decide +kernel) (by decide)) nx_inc))))
  (e_Tok2
  (e_Lok (e_st (I := eI) (er_goto (off := (-75)) (tg := 227) (x_dk dn_417_1_2_ok 13 rfl) (by decide)) nx_goto))
  (e_Tok2
  (e_Lok (ld_iload_6 (x_dk dn_417_1_2_ok 14 rfl)))
  (e_Lok (e_rt (I := eI) (k := 1) ⟨(x_dk dn_417_1_2_ok 15 rfl), rfl⟩)))))))
def te_417 : Nat → eE := (e_T 145 (e_T 74 (e_T 32 te_417_0 te_417_20) (e_T 106 te_417_41 te_417_62)) (e_T 224 (e_T 185 te_417_83 te_417_103) (e_T 264 te_417_124 te_417_145)))
theorem te_417_ok : ∀ pc, e_EOq eft cls elay eI n_417 pc (te_417 pc) := (e_Tok2 ((e_Tok2 ((e_Tok2 (te_417_0_ok) (te_417_20_ok))) ((e_Tok2 (te_417_41_ok) (te_417_62_ok))))) ((e_Tok2 ((e_Tok2 (te_417_83_ok) (te_417_103_ok))) ((e_Tok2 (te_417_124_ok) (te_417_145_ok))))))
theorem ho_418 : (xm_y n_418).cls = "RobotCellHouseModel" := rfl
def dn_418_0_0 : List (Nat × Instr × Nat) := [(0, .aload_n 0, 1), (1, .iload_n 1, 1), (2, .invokevirtual 305, 3), (5, .ifCond .eq 27, 3), (8, .iload_n 2, 1), (9, .i2l, 1), (10, .lconst 1, 1), (11, .ldc2_w 849, 3), (14, .invokestatic 301, 3), (17, .ifCond .eq 15, 3), (20, .iload_n 3, 1), (21, .i2l, 1), (22, .lconst 0, 1), (23, .ldc2_w 336, 3), (26, .invokestatic 301, 3), (29, .ifCond .ne 5, 3), (32, .iconst (-1), 1), (33, .ireturn, 1), (34, .aload_n 0, 1), (35, .getfield 265, 3), (38, .ifCond .eq 17, 3), (41, .aload_n 0, 1), (42, .getfield 8, 3), (45, .iload_n 1, 1), (46, .invokestatic 294, 3)]
set_option maxRecDepth 20000 in
theorem dn_418_0_0_ok : dn_418_0_0.all (fun q => decide (decode (xm_b n_418) q.1 = .ok (q.2.1, q.2.2))) = true := xa_g_ok (by decide +kernel)
def dn_418_0_1 : List (Nat × Instr × Nat) := [(49, .iconst 0, 1), (50, .iadd, 1), (51, .iaload, 1), (52, .ifCond .eq 6, 3), (55, .bipush (-2), 2), (57, .ireturn, 1), (58, .aload_n 0, 1), (59, .iload_n 1, 1), (60, .iload_n 2, 1), (61, .invokevirtual 851, 3), (64, .istore 4, 2), (66, .iload 4, 2), (68, .sipush 1000, 3), (71, .if_icmp .gt 19, 3), (74, .aload_n 0, 1), (75, .getfield 291, 3), (78, .bipush 60, 2), (80, .if_icmp .ne 13, 3), (83, .aload_n 0, 1), (84, .getfield 771, 3), (87, .ifCond .ne 6, 3), (90, .bipush (-3), 2), (92, .ireturn, 1), (93, .aload_n 0, 1), (94, .dup, 1)]
set_option maxRecDepth 20000 in
theorem dn_418_0_1_ok : dn_418_0_1.all (fun q => decide (decode (xm_b n_418) q.1 = .ok (q.2.1, q.2.2))) = true := xa_g_ok (by decide +kernel)
def dn_418_0_2 : List (Nat × Instr × Nat) := [(95, .getfield 291, 3), (98, .aload_n 0, 1), (99, .getfield 771, 3), (102, .ifCond .eq 7, 3), (105, .iconst 0, 1), (106, .goto 4, 3), (109, .iconst 1, 1), (110, .iadd, 1), (111, .putfield 291, 3), (114, .iconst 0, 1), (115, .istore 5, 2), (117, .iconst 0, 1), (118, .istore 6, 2), (120, .iconst 0, 1), (121, .istore 7, 2), (123, .iload 7, 2), (125, .aload_n 0, 1), (126, .getfield 43, 3), (129, .iload_n 1, 1), (130, .iaload, 1), (131, .if_icmp .ge 135, 3), (134, .aload_n 0, 1), (135, .getfield 8, 3), (138, .bipush 8, 2), (140, .iload 7, 2)]
set_option maxRecDepth 20000 in
theorem dn_418_0_2_ok : dn_418_0_2.all (fun q => decide (decode (xm_b n_418) q.1 = .ok (q.2.1, q.2.2))) = true := xa_g_ok (by decide +kernel)
def dn_418_0_3 : List (Nat × Instr × Nat) := [(142, .iadd, 1), (143, .iaload, 1), (144, .istore 8, 2), (146, .iload 8, 2), (148, .i2l, 1), (149, .aload_n 0, 1), (150, .getfield 49, 3), (153, .bipush 6, 2), (155, .iload_n 1, 1), (156, .imul, 1), (157, .iload 7, 2), (159, .iadd, 1), (160, .iaload, 1), (161, .i2l, 1), (162, .aload_n 0, 1), (163, .getfield 52, 3), (166, .bipush 6, 2), (168, .iload_n 1, 1), (169, .imul, 1), (170, .iload 7, 2), (172, .iadd, 1), (173, .iaload, 1), (174, .i2l, 1), (175, .invokestatic 301, 3), (178, .ifCond .eq 18, 3)]
set_option maxRecDepth 20000 in
theorem dn_418_0_3_ok : dn_418_0_3.all (fun q => decide (decode (xm_b n_418) q.1 = .ok (q.2.1, q.2.2))) = true := xa_g_ok (by decide +kernel)
def dn_418_1_0 : List (Nat × Instr × Nat) := [(181, .iload 8, 2), (183, .aload_n 0, 1), (184, .getfield 231, 3), (187, .iload 7, 2), (189, .iaload, 1), (190, .isub, 1), (191, .iload_n 2, 1), (192, .irem, 1), (193, .ifCond .eq 6, 3), (196, .bipush (-2), 2), (198, .ireturn, 1), (199, .iload 5, 2), (201, .aload_n 0, 1), (202, .iload 7, 2), (204, .invokevirtual 840, 3), (207, .aload_n 0, 1), (208, .getfield 8, 3), (211, .iload_n 1, 1), (212, .invokestatic 294, 3), (215, .bipush 16, 2), (217, .iadd, 1), (218, .iload 7, 2), (220, .iadd, 1), (221, .iaload, 1), (222, .aload_n 0, 1)]
set_option maxRecDepth 20000 in
theorem dn_418_1_0_ok : dn_418_1_0.all (fun q => decide (decode (xm_b n_418) q.1 = .ok (q.2.1, q.2.2))) = true := xa_g_ok (by decide +kernel)
def dn_418_1_1 : List (Nat × Instr × Nat) := [(223, .getfield 231, 3), (226, .iload 7, 2), (228, .iaload, 1), (229, .isub, 1), (230, .iload_n 2, 1), (231, .idiv, 1), (232, .imul, 1), (233, .iadd, 1), (234, .istore 5, 2), (236, .iload 6, 2), (238, .aload_n 0, 1), (239, .iload 7, 2), (241, .invokevirtual 840, 3), (244, .iload 8, 2), (246, .aload_n 0, 1), (247, .getfield 231, 3), (250, .iload 7, 2), (252, .iaload, 1), (253, .isub, 1), (254, .iload_n 2, 1), (255, .idiv, 1), (256, .imul, 1), (257, .iadd, 1), (258, .istore 6, 2), (260, .iinc 7 1, 3)]
set_option maxRecDepth 20000 in
theorem dn_418_1_1_ok : dn_418_1_1.all (fun q => decide (decode (xm_b n_418) q.1 = .ok (q.2.1, q.2.2))) = true := xa_g_ok (by decide +kernel)
def dn_418_1_2 : List (Nat × Instr × Nat) := [(263, .goto (-140), 3), (266, .aload_n 0, 1), (267, .iload_n 1, 1), (268, .putfield 819, 3), (271, .aload_n 0, 1), (272, .iload_n 2, 1), (273, .putfield 822, 3), (276, .aload_n 0, 1), (277, .iload_n 3, 1), (278, .putfield 828, 3), (281, .aload_n 0, 1), (282, .invokevirtual 401, 3), (285, .aload_n 0, 1), (286, .getfield 771, 3), (289, .ifCond .eq 26, 3), (292, .aload_n 0, 1), (293, .getfield 253, 3), (296, .aload_n 0, 1), (297, .getfield 854, 3), (300, .iaload, 1), (301, .ifCond .lt 14, 3), (304, .aload_n 0, 1), (305, .aload_n 0, 1), (306, .getfield 854, 3), (309, .invokevirtual 857, 3)]
set_option maxRecDepth 20000 in
theorem dn_418_1_2_ok : dn_418_1_2.all (fun q => decide (decode (xm_b n_418) q.1 = .ok (q.2.1, q.2.2))) = true := xa_g_ok (by decide +kernel)
def dn_418_1_3 : List (Nat × Instr × Nat) := [(312, .goto 13, 3), (315, .aload_n 0, 1), (316, .iload 5, 2), (318, .iload 6, 2), (320, .iload 4, 2), (322, .invokevirtual 860, 3), (325, .istore 7, 2), (327, .iload 7, 2), (329, .ifCond .ge 6, 3), (332, .bipush (-2), 2), (334, .ireturn, 1), (335, .aload_n 0, 1), (336, .invokevirtual 863, 3), (339, .ifCond .eq 6, 3), (342, .bipush (-3), 2), (344, .ireturn, 1), (345, .iload_n 1, 1), (346, .invokestatic 294, 3), (349, .istore 8, 2), (351, .aload_n 0, 1), (352, .getfield 8, 3), (355, .iload 8, 2), (357, .iconst 3, 1), (358, .iadd, 1), (359, .iload 7, 2)]
set_option maxRecDepth 20000 in
theorem dn_418_1_3_ok : dn_418_1_3.all (fun q => decide (decode (xm_b n_418) q.1 = .ok (q.2.1, q.2.2))) = true := xa_g_ok (by decide +kernel)
def dn_418_2_0 : List (Nat × Instr × Nat) := [(361, .iastore, 1), (362, .aload_n 0, 1), (363, .getfield 8, 3), (366, .iload 8, 2), (368, .bipush 10, 2), (370, .iadd, 1), (371, .iload_n 2, 1), (372, .iastore, 1), (373, .aload_n 0, 1), (374, .getfield 8, 3), (377, .iload 8, 2), (379, .iconst 4, 1), (380, .iadd, 1), (381, .iconst 1, 1), (382, .iastore, 1), (383, .aload_n 0, 1), (384, .getfield 8, 3), (387, .iload 8, 2), (389, .iconst 5, 1), (390, .iadd, 1), (391, .iconst 1, 1), (392, .iastore, 1), (393, .iconst 0, 1), (394, .istore 9, 2), (396, .iload 9, 2)]
set_option maxRecDepth 20000 in
theorem dn_418_2_0_ok : dn_418_2_0.all (fun q => decide (decode (xm_b n_418) q.1 = .ok (q.2.1, q.2.2))) = true := xa_g_ok (by decide +kernel)
def dn_418_2_1 : List (Nat × Instr × Nat) := [(398, .sipush 1000, 3), (401, .if_icmp .ge 44, 3), (404, .aload_n 0, 1), (405, .getfield 8, 3), (408, .sipush 21060, 3), (411, .sipush 1000, 3), (414, .iload_n 1, 1), (415, .imul, 1), (416, .iadd, 1), (417, .iload 9, 2), (419, .iadd, 1), (420, .iload 9, 2), (422, .iload 7, 2), (424, .if_icmp .ge 13, 3), (427, .aload_n 0, 1), (428, .getfield 246, 3), (431, .iload 9, 2), (433, .iaload, 1), (434, .goto 4, 3), (437, .iconst 0, 1), (438, .iastore, 1), (439, .iinc 9 1, 3), (442, .goto (-46), 3), (445, .aload_n 0, 1), (446, .bipush 10, 2)]
set_option maxRecDepth 20000 in
theorem dn_418_2_1_ok : dn_418_2_1.all (fun q => decide (decode (xm_b n_418) q.1 = .ok (q.2.1, q.2.2))) = true := xa_g_ok (by decide +kernel)
def dn_418_2_2 : List (Nat × Instr × Nat) := [(448, .iload_n 1, 1), (449, .iload_n 2, 1), (450, .iload_n 3, 1), (451, .invokevirtual 866, 3), (454, .iload 7, 2), (456, .ireturn, 1)]
set_option maxRecDepth 20000 in
theorem dn_418_2_2_ok : dn_418_2_2.all (fun q => decide (decode (xm_b n_418) q.1 = .ok (q.2.1, q.2.2))) = true := xa_g_ok (by decide +kernel)
def te_418_0 : Nat → eE := (e_T 29 (e_T 11 (e_T 5 (e_T 1 (e_T 0 (e_L 0 (0, ei_load 0 2 1, 0, 0)) (e_L 1 (0, ei_load 1 0 2, 0, 0))) (e_T 2 (e_L 2 (2, e_nof, 270, 2)) (e_L 5 (0, ei_if1 0 32 8, 0, 0)))) (e_T 9 (e_T 8 (e_L 8 (0, ei_load 2 0 9, 0, 0)) (e_L 9 (0, ei_un (fun x => (4, x)) 10, 0, 0))) (e_T 10 (e_L 10 (0, ei_push (4, 1) 11, 0, 0)) (e_L 11 (0, ei_push (4, 16) 14, 0, 0))))) (e_T 21 (e_T 17 (e_T 14 (e_L 14 (2, e_nof, 266, 3)) (e_L 17 (0, ei_if1 0 32 20, 0, 0))) (e_T 20 (e_L 20 (0, ei_load 3 0 21, 0, 0)) (e_L 21 (0, ei_un (fun x => (4, x)) 22, 0, 0)))) (e_T 23 (e_T 22 (e_L 22 (0, ei_push (4, 0) 23, 0, 0)) (e_L 23 (0, ei_push (4, 2000) 26, 0, 0))) (e_T 26 (e_L 26 (2, e_nof, 266, 3)) (e_L 29 (0, ei_if1 1 34 32, 0, 0)))))) (e_T 45 (e_T 35 (e_T 33 (e_T 32 (e_L 32 (0, ei_push (0, (-1)) 33, 0, 0)) (e_L 33 (1, e_nof, 1, 0))) (e_T 34 (e_L 34 (0, ei_load 0 2 35, 0, 0)) (e_L 35 (0, ei_getf eft elay 12 3 38, 0, 0)))) (e_T 41 (e_T 38 (e_L 38 (0, ei_if1 0 55 41, 0, 0)) (e_L 41 (0, ei_load 0 2 42, 0, 0))) (e_T 42 (e_L 42 (0, ei_getf eft elay 12 0 45, 0, 0)) (e_L 45 (0, ei_load 1 0 46, 0, 0))))) (e_T 51 (e_T 49 (e_T 46 (e_L 46 (2, e_nof, 268, 1)) (e_L 49 (0, ei_push (0, 0) 50, 0, 0))) (e_T 50 (e_L 50 (0, ei_bin eF_add 51, 0, 0)) (e_L 51 (0, ei_ald elay false 52, 0, 0)))) (e_T 55 (e_T 52 (e_L 52 (0, ei_if1 0 58 55, 0, 0)) (e_L 55 (0, ei_push (0, (-2)) 57, 0, 0))) (e_T 57 (e_L 57 (1, e_nof, 1, 0)) (e_L 58 (0, ei_load 0 2 59, 0, 0)))))))
set_option maxRecDepth 20000 in
set_option maxHeartbeats 4000000 in
theorem te_418_0_ok : ∀ pc, e_EOq eft cls elay eI n_418 pc (te_418_0 pc) :=
  (e_Tok2
  (e_Tok2
  (e_Tok2
  (e_Tok2
  (e_Tok2
  (e_Lok (ld_aload_n_0 (x_dk dn_418_0_0_ok 0 rfl)))
  (e_Lok (ld_iload_n_1 (x_dk dn_418_0_0_ok 1 rfl))))
  (e_Tok2
  (e_Lok (lk_12_305 ho_418 (x_dk dn_418_0_0_ok 2 rfl)))
  (e_Lok (e_st (I := eI) (er_ifeq (off := 27) (tg := 32) (x_dk dn_418_0_0_ok 3 rfl) (by decide)) nx_if1))))
  (e_Tok2
  (e_Tok2
  (e_Lok (ld_iload_n_2 (x_dk dn_418_0_0_ok 4 rfl)))
  (e_Lok (e_st (I := eI) (er_i2l (x_dk dn_418_0_0_ok 5 rfl)) (nx_un (fun _ => rfl)))))
  (e_Tok2
  (e_Lok (ps_lconst_1 (x_dk dn_418_0_0_ok 6 rfl)))
  (e_Lok (e_st (I := eI) (er_ldc2 (ix := 849) (z := 16) (v := 16) (x_dk dn_418_0_0_ok 7 rfl) (in_t12 (List.mem_of_getElem? (i := 117) rfl) rfl) (by decide)) (nx_push (Or.inl rfl)))))))
  (e_Tok2
  (e_Tok2
  (e_Tok2
  (e_Lok (lk_12_301 ho_418 (x_dk dn_418_0_0_ok 8 rfl)))
  (e_Lok (e_st (I := eI) (er_ifeq (off := 15) (tg := 32) (x_dk dn_418_0_0_ok 9 rfl) (by decide)) nx_if1)))
  (e_Tok2
  (e_Lok (ld_iload_n_3 (x_dk dn_418_0_0_ok 10 rfl)))
  (e_Lok (e_st (I := eI) (er_i2l (x_dk dn_418_0_0_ok 11 rfl)) (nx_un (fun _ => rfl))))))
  (e_Tok2
  (e_Tok2
  (e_Lok (ps_lconst_0 (x_dk dn_418_0_0_ok 12 rfl)))
  (e_Lok (e_st (I := eI) (er_ldc2 (ix := 336) (z := 2000) (v := 2000) (x_dk dn_418_0_0_ok 13 rfl) (in_t11 (List.mem_of_getElem? (i := 41) rfl) rfl) (by decide)) (nx_push (Or.inl rfl)))))
  (e_Tok2
  (e_Lok (lk_12_301 ho_418 (x_dk dn_418_0_0_ok 14 rfl)))
  (e_Lok (e_st (I := eI) (er_ifne (off := 5) (tg := 34) (x_dk dn_418_0_0_ok 15 rfl) (by decide)) nx_if1))))))
  (e_Tok2
  (e_Tok2
  (e_Tok2
  (e_Tok2
  (e_Lok (ps_iconst_m1 (x_dk dn_418_0_0_ok 16 rfl)))
  (e_Lok (e_rt (I := eI) (k := 1) ⟨(x_dk dn_418_0_0_ok 17 rfl), rfl⟩)))
  (e_Tok2
  (e_Lok (ld_aload_n_0 (x_dk dn_418_0_0_ok 18 rfl)))
  (e_Lok (lk_12_265g ho_418 (x_dk dn_418_0_0_ok 19 rfl)))))
  (e_Tok2
  (e_Tok2
  (e_Lok (e_st (I := eI) (er_ifeq (off := 17) (tg := 55) (x_dk dn_418_0_0_ok 20 rfl) (by decide)) nx_if1))
  (e_Lok (ld_aload_n_0 (x_dk dn_418_0_0_ok 21 rfl))))
  (e_Tok2
  (e_Lok (lk_12_8g ho_418 (x_dk dn_418_0_0_ok 22 rfl)))
  (e_Lok (ld_iload_n_1 (x_dk dn_418_0_0_ok 23 rfl))))))
  (e_Tok2
  (e_Tok2
  (e_Tok2
  (e_Lok (lk_12_294 ho_418 (x_dk dn_418_0_0_ok 24 rfl)))
  (e_Lok (ps_iconst_0 (x_dk dn_418_0_1_ok 0 rfl))))
  (e_Tok2
  (e_Lok (sm_iadd (x_dk dn_418_0_1_ok 1 rfl)))
  (e_Lok (sm_iaload (x_dk dn_418_0_1_ok 2 rfl)))))
  (e_Tok2
  (e_Tok2
  (e_Lok (e_st (I := eI) (er_ifeq (off := 6) (tg := 58) (x_dk dn_418_0_1_ok 3 rfl) (by decide)) nx_if1))
  (e_Lok (ps_bipush_m2 (x_dk dn_418_0_1_ok 4 rfl))))
  (e_Tok2
  (e_Lok (e_rt (I := eI) (k := 1) ⟨(x_dk dn_418_0_1_ok 5 rfl), rfl⟩))
  (e_Lok (ld_aload_n_0 (x_dk dn_418_0_1_ok 6 rfl))))))))
def te_418_32 : Nat → eE := (e_T 92 (e_T 74 (e_T 64 (e_T 60 (e_T 59 (e_L 59 (0, ei_load 1 0 60, 0, 0)) (e_L 60 (0, ei_load 2 0 61, 0, 0))) (e_T 61 (e_L 61 (2, e_nof, 409, 3)) (e_L 64 (0, ei_stor 4 0 66, 0, 0)))) (e_T 68 (e_T 66 (e_L 66 (0, ei_load 4 0 68, 0, 0)) (e_L 68 (0, ei_push (0, 1000) 71, 0, 0))) (e_T 71 (e_L 71 (0, ei_if2 4 90 74, 0, 0)) (e_L 74 (0, ei_load 0 2 75, 0, 0))))) (e_T 83 (e_T 78 (e_T 75 (e_L 75 (0, ei_getf eft elay 12 118 78, 0, 0)) (e_L 78 (0, ei_push (0, 60) 80, 0, 0))) (e_T 80 (e_L 80 (0, ei_if2 1 93 83, 0, 0)) (e_L 83 (0, ei_load 0 2 84, 0, 0)))) (e_T 87 (e_T 84 (e_L 84 (0, ei_getf eft elay 12 6 87, 0, 0)) (e_L 87 (0, ei_if1 1 93 90, 0, 0))) (e_T 90 (e_L 90 (0, ei_push (0, (-3)) 92, 0, 0)) (e_L 92 (1, e_nof, 1, 0)))))) (e_T 106 (e_T 98 (e_T 94 (e_T 93 (e_L 93 (0, ei_load 0 2 94, 0, 0)) (e_L 94 (0, ei_stk ef_dup 95, 0, 0))) (e_T 95 (e_L 95 (0, ei_getf eft elay 12 118 98, 0, 0)) (e_L 98 (0, ei_load 0 2 99, 0, 0)))) (e_T 102 (e_T 99 (e_L 99 (0, ei_getf eft elay 12 6 102, 0, 0)) (e_L 102 (0, ei_if1 0 109 105, 0, 0))) (e_T 105 (e_L 105 (0, ei_push (0, 0) 106, 0, 0)) (e_L 106 (0, ei_goto 110, 0, 0))))) (e_T 114 (e_T 110 (e_T 109 (e_L 109 (0, ei_push (0, 1) 110, 0, 0)) (e_L 110 (0, ei_bin eF_add 111, 0, 0))) (e_T 111 (e_L 111 (0, ei_putf eft elay 12 118 0 114, 0, 0)) (e_L 114 (0, ei_push (0, 0) 115, 0, 0)))) (e_T 117 (e_T 115 (e_L 115 (0, ei_stor 5 0 117, 0, 0)) (e_L 117 (0, ei_push (0, 0) 118, 0, 0))) (e_T 118 (e_L 118 (0, ei_stor 6 0 120, 0, 0)) (e_L 120 (0, ei_push (0, 0) 121, 0, 0)))))))
set_option maxRecDepth 20000 in
set_option maxHeartbeats 4000000 in
theorem te_418_32_ok : ∀ pc, e_EOq eft cls elay eI n_418 pc (te_418_32 pc) :=
  (e_Tok2
  (e_Tok2
  (e_Tok2
  (e_Tok2
  (e_Tok2
  (e_Lok (ld_iload_n_1 (x_dk dn_418_0_1_ok 7 rfl)))
  (e_Lok (ld_iload_n_2 (x_dk dn_418_0_1_ok 8 rfl))))
  (e_Tok2
  (e_Lok (lk_12_851 ho_418 (x_dk dn_418_0_1_ok 9 rfl)))
  (e_Lok (e_st (I := eI) (er_istore (i := 4) (x_dk dn_418_0_1_ok 10 rfl) (by decide +kernel)) nx_stor))))
  (e_Tok2
  (e_Tok2
  (e_Lok (ld_iload_4 (x_dk dn_418_0_1_ok 11 rfl)))
  (e_Lok (ps_sipush_1000 (x_dk dn_418_0_1_ok 12 rfl))))
  (e_Tok2
  (e_Lok (e_st (I := eI) (er_icmpgt (off := 19) (tg := 90) (x_dk dn_418_0_1_ok 13 rfl) (by decide)) nx_if2))
  (e_Lok (ld_aload_n_0 (x_dk dn_418_0_1_ok 14 rfl))))))
  (e_Tok2
  (e_Tok2
  (e_Tok2
  (e_Lok (lk_12_291g ho_418 (x_dk dn_418_0_1_ok 15 rfl)))
  (e_Lok (ps_bipush_60 (x_dk dn_418_0_1_ok 16 rfl))))
  (e_Tok2
  (e_Lok (e_st (I := eI) (er_icmpne (off := 13) (tg := 93) (x_dk dn_418_0_1_ok 17 rfl) (by decide)) nx_if2))
  (e_Lok (ld_aload_n_0 (x_dk dn_418_0_1_ok 18 rfl)))))
  (e_Tok2
  (e_Tok2
  (e_Lok (lk_12_771g ho_418 (x_dk dn_418_0_1_ok 19 rfl)))
  (e_Lok (e_st (I := eI) (er_ifne (off := 6) (tg := 93) (x_dk dn_418_0_1_ok 20 rfl) (by decide)) nx_if1)))
  (e_Tok2
  (e_Lok (ps_bipush_m3 (x_dk dn_418_0_1_ok 21 rfl)))
  (e_Lok (e_rt (I := eI) (k := 1) ⟨(x_dk dn_418_0_1_ok 22 rfl), rfl⟩))))))
  (e_Tok2
  (e_Tok2
  (e_Tok2
  (e_Tok2
  (e_Lok (ld_aload_n_0 (x_dk dn_418_0_1_ok 23 rfl)))
  (e_Lok (e_st (I := eI) (er_dup (x_dk dn_418_0_1_ok 24 rfl)) (nx_stk bf_dup))))
  (e_Tok2
  (e_Lok (lk_12_291g ho_418 (x_dk dn_418_0_2_ok 0 rfl)))
  (e_Lok (ld_aload_n_0 (x_dk dn_418_0_2_ok 1 rfl)))))
  (e_Tok2
  (e_Tok2
  (e_Lok (lk_12_771g ho_418 (x_dk dn_418_0_2_ok 2 rfl)))
  (e_Lok (e_st (I := eI) (er_ifeq (off := 7) (tg := 109) (x_dk dn_418_0_2_ok 3 rfl) (by decide)) nx_if1)))
  (e_Tok2
  (e_Lok (ps_iconst_0 (x_dk dn_418_0_2_ok 4 rfl)))
  (e_Lok (e_st (I := eI) (er_goto (off := 4) (tg := 110) (x_dk dn_418_0_2_ok 5 rfl) (by decide)) nx_goto)))))
  (e_Tok2
  (e_Tok2
  (e_Tok2
  (e_Lok (ps_iconst_1 (x_dk dn_418_0_2_ok 6 rfl)))
  (e_Lok (sm_iadd (x_dk dn_418_0_2_ok 7 rfl))))
  (e_Tok2
  (e_Lok (lk_12_291p ho_418 (x_dk dn_418_0_2_ok 8 rfl)))
  (e_Lok (ps_iconst_0 (x_dk dn_418_0_2_ok 9 rfl)))))
  (e_Tok2
  (e_Tok2
  (e_Lok (e_st (I := eI) (er_istore (i := 5) (x_dk dn_418_0_2_ok 10 rfl) (by decide +kernel)) nx_stor))
  (e_Lok (ps_iconst_0 (x_dk dn_418_0_2_ok 11 rfl))))
  (e_Tok2
  (e_Lok (e_st (I := eI) (er_istore (i := 6) (x_dk dn_418_0_2_ok 12 rfl) (by decide +kernel)) nx_stor))
  (e_Lok (ps_iconst_0 (x_dk dn_418_0_2_ok 13 rfl))))))))
def te_418_64 : Nat → eE := (e_T 148 (e_T 134 (e_T 126 (e_T 123 (e_T 121 (e_L 121 (0, ei_stor 7 0 123, 0, 0)) (e_L 123 (0, ei_load 7 0 125, 0, 0))) (e_T 125 (e_L 125 (0, ei_load 0 2 126, 0, 0)) (e_L 126 (0, ei_getf eft elay 12 15 129, 0, 0)))) (e_T 130 (e_T 129 (e_L 129 (0, ei_load 1 0 130, 0, 0)) (e_L 130 (0, ei_ald elay false 131, 0, 0))) (e_T 131 (e_L 131 (0, ei_if2 3 266 134, 0, 0)) (e_L 134 (0, ei_load 0 2 135, 0, 0))))) (e_T 142 (e_T 138 (e_T 135 (e_L 135 (0, ei_getf eft elay 12 0 138, 0, 0)) (e_L 138 (0, ei_push (0, 8) 140, 0, 0))) (e_T 140 (e_L 140 (0, ei_load 7 0 142, 0, 0)) (e_L 142 (0, ei_bin eF_add 143, 0, 0)))) (e_T 144 (e_T 143 (e_L 143 (0, ei_ald elay false 144, 0, 0)) (e_L 144 (0, ei_stor 8 0 146, 0, 0))) (e_T 146 (e_L 146 (0, ei_load 8 0 148, 0, 0)) (e_L 148 (0, ei_un (fun x => (4, x)) 149, 0, 0)))))) (e_T 160 (e_T 155 (e_T 150 (e_T 149 (e_L 149 (0, ei_load 0 2 150, 0, 0)) (e_L 150 (0, ei_getf eft elay 12 17 153, 0, 0))) (e_T 153 (e_L 153 (0, ei_push (0, 6) 155, 0, 0)) (e_L 155 (0, ei_load 1 0 156, 0, 0)))) (e_T 157 (e_T 156 (e_L 156 (0, ei_bin eF_mul 157, 0, 0)) (e_L 157 (0, ei_load 7 0 159, 0, 0))) (e_T 159 (e_L 159 (0, ei_bin eF_add 160, 0, 0)) (e_L 160 (0, ei_ald elay false 161, 0, 0))))) (e_T 166 (e_T 162 (e_T 161 (e_L 161 (0, ei_un (fun x => (4, x)) 162, 0, 0)) (e_L 162 (0, ei_load 0 2 163, 0, 0))) (e_T 163 (e_L 163 (0, ei_getf eft elay 12 18 166, 0, 0)) (e_L 166 (0, ei_push (0, 6) 168, 0, 0)))) (e_T 169 (e_T 168 (e_L 168 (0, ei_load 1 0 169, 0, 0)) (e_L 169 (0, ei_bin eF_mul 170, 0, 0))) (e_T 170 (e_L 170 (0, ei_load 7 0 172, 0, 0)) (e_L 172 (0, ei_bin eF_add 173, 0, 0)))))))
set_option maxRecDepth 20000 in
set_option maxHeartbeats 4000000 in
theorem te_418_64_ok : ∀ pc, e_EOq eft cls elay eI n_418 pc (te_418_64 pc) :=
  (e_Tok2
  (e_Tok2
  (e_Tok2
  (e_Tok2
  (e_Tok2
  (e_Lok (e_st (I := eI) (er_istore (i := 7) (x_dk dn_418_0_2_ok 14 rfl) (by decide +kernel)) nx_stor))
  (e_Lok (ld_iload_7 (x_dk dn_418_0_2_ok 15 rfl))))
  (e_Tok2
  (e_Lok (ld_aload_n_0 (x_dk dn_418_0_2_ok 16 rfl)))
  (e_Lok (lk_12_43g ho_418 (x_dk dn_418_0_2_ok 17 rfl)))))
  (e_Tok2
  (e_Tok2
  (e_Lok (ld_iload_n_1 (x_dk dn_418_0_2_ok 18 rfl)))
  (e_Lok (sm_iaload (x_dk dn_418_0_2_ok 19 rfl))))
  (e_Tok2
  (e_Lok (e_st (I := eI) (er_icmpge (off := 135) (tg := 266) (x_dk dn_418_0_2_ok 20 rfl) (by decide)) nx_if2))
  (e_Lok (ld_aload_n_0 (x_dk dn_418_0_2_ok 21 rfl))))))
  (e_Tok2
  (e_Tok2
  (e_Tok2
  (e_Lok (lk_12_8g ho_418 (x_dk dn_418_0_2_ok 22 rfl)))
  (e_Lok (ps_bipush_8 (x_dk dn_418_0_2_ok 23 rfl))))
  (e_Tok2
  (e_Lok (ld_iload_7 (x_dk dn_418_0_2_ok 24 rfl)))
  (e_Lok (sm_iadd (x_dk dn_418_0_3_ok 0 rfl)))))
  (e_Tok2
  (e_Tok2
  (e_Lok (sm_iaload (x_dk dn_418_0_3_ok 1 rfl)))
  (e_Lok (e_st (I := eI) (er_istore (i := 8) (x_dk dn_418_0_3_ok 2 rfl) (by decide +kernel)) nx_stor)))
  (e_Tok2
  (e_Lok (ld_iload_8 (x_dk dn_418_0_3_ok 3 rfl)))
  (e_Lok (e_st (I := eI) (er_i2l (x_dk dn_418_0_3_ok 4 rfl)) (nx_un (fun _ => rfl))))))))
  (e_Tok2
  (e_Tok2
  (e_Tok2
  (e_Tok2
  (e_Lok (ld_aload_n_0 (x_dk dn_418_0_3_ok 5 rfl)))
  (e_Lok (lk_12_49g ho_418 (x_dk dn_418_0_3_ok 6 rfl))))
  (e_Tok2
  (e_Lok (ps_bipush_6 (x_dk dn_418_0_3_ok 7 rfl)))
  (e_Lok (ld_iload_n_1 (x_dk dn_418_0_3_ok 8 rfl)))))
  (e_Tok2
  (e_Tok2
  (e_Lok (sm_imul (x_dk dn_418_0_3_ok 9 rfl)))
  (e_Lok (ld_iload_7 (x_dk dn_418_0_3_ok 10 rfl))))
  (e_Tok2
  (e_Lok (sm_iadd (x_dk dn_418_0_3_ok 11 rfl)))
  (e_Lok (sm_iaload (x_dk dn_418_0_3_ok 12 rfl))))))
  (e_Tok2
  (e_Tok2
  (e_Tok2
  (e_Lok (e_st (I := eI) (er_i2l (x_dk dn_418_0_3_ok 13 rfl)) (nx_un (fun _ => rfl))))
  (e_Lok (ld_aload_n_0 (x_dk dn_418_0_3_ok 14 rfl))))
  (e_Tok2
  (e_Lok (lk_12_52g ho_418 (x_dk dn_418_0_3_ok 15 rfl)))
  (e_Lok (ps_bipush_6 (x_dk dn_418_0_3_ok 16 rfl)))))
  (e_Tok2
  (e_Tok2
  (e_Lok (ld_iload_n_1 (x_dk dn_418_0_3_ok 17 rfl)))
  (e_Lok (sm_imul (x_dk dn_418_0_3_ok 18 rfl))))
  (e_Tok2
  (e_Lok (ld_iload_7 (x_dk dn_418_0_3_ok 19 rfl)))
  (e_Lok (sm_iadd (x_dk dn_418_0_3_ok 20 rfl))))))))
def te_418_96 : Nat → eE := (e_T 199 (e_T 187 (e_T 178 (e_T 174 (e_T 173 (e_L 173 (0, ei_ald elay false 174, 0, 0)) (e_L 174 (0, ei_un (fun x => (4, x)) 175, 0, 0))) (e_T 175 (e_L 175 (2, e_nof, 266, 3)) (e_L 178 (0, ei_if1 0 196 181, 0, 0)))) (e_T 183 (e_T 181 (e_L 181 (0, ei_load 8 0 183, 0, 0)) (e_L 183 (0, ei_load 0 2 184, 0, 0))) (e_T 184 (e_L 184 (0, ei_getf eft elay 12 105 187, 0, 0)) (e_L 187 (0, ei_load 7 0 189, 0, 0))))) (e_T 192 (e_T 190 (e_T 189 (e_L 189 (0, ei_ald elay false 190, 0, 0)) (e_L 190 (0, ei_bin eF_sub 191, 0, 0))) (e_T 191 (e_L 191 (0, ei_load 2 0 192, 0, 0)) (e_L 192 (0, ei_bin eF_rem 193, 0, 0)))) (e_T 196 (e_T 193 (e_L 193 (0, ei_if1 0 199 196, 0, 0)) (e_L 196 (0, ei_push (0, (-2)) 198, 0, 0))) (e_T 198 (e_L 198 (1, e_nof, 1, 0)) (e_L 199 (0, ei_load 5 0 201, 0, 0)))))) (e_T 215 (e_T 207 (e_T 202 (e_T 201 (e_L 201 (0, ei_load 0 2 202, 0, 0)) (e_L 202 (0, ei_load 7 0 204, 0, 0))) (e_T 204 (e_L 204 (2, e_nof, 411, 2)) (e_L 207 (0, ei_load 0 2 208, 0, 0)))) (e_T 211 (e_T 208 (e_L 208 (0, ei_getf eft elay 12 0 211, 0, 0)) (e_L 211 (0, ei_load 1 0 212, 0, 0))) (e_T 212 (e_L 212 (2, e_nof, 268, 1)) (e_L 215 (0, ei_push (0, 16) 217, 0, 0))))) (e_T 221 (e_T 218 (e_T 217 (e_L 217 (0, ei_bin eF_add 218, 0, 0)) (e_L 218 (0, ei_load 7 0 220, 0, 0))) (e_T 220 (e_L 220 (0, ei_bin eF_add 221, 0, 0)) (e_L 221 (0, ei_ald elay false 222, 0, 0)))) (e_T 223 (e_T 222 (e_L 222 (0, ei_load 0 2 223, 0, 0)) (e_L 223 (0, ei_getf eft elay 12 105 226, 0, 0))) (e_T 226 (e_L 226 (0, ei_load 7 0 228, 0, 0)) (e_L 228 (0, ei_ald elay false 229, 0, 0)))))))
set_option maxRecDepth 20000 in
set_option maxHeartbeats 4000000 in
theorem te_418_96_ok : ∀ pc, e_EOq eft cls elay eI n_418 pc (te_418_96 pc) :=
  (e_Tok2
  (e_Tok2
  (e_Tok2
  (e_Tok2
  (e_Tok2
  (e_Lok (sm_iaload (x_dk dn_418_0_3_ok 21 rfl)))
  (e_Lok (e_st (I := eI) (er_i2l (x_dk dn_418_0_3_ok 22 rfl)) (nx_un (fun _ => rfl)))))
  (e_Tok2
  (e_Lok (lk_12_301 ho_418 (x_dk dn_418_0_3_ok 23 rfl)))
  (e_Lok (e_st (I := eI) (er_ifeq (off := 18) (tg := 196) (x_dk dn_418_0_3_ok 24 rfl) (by decide)) nx_if1))))
  (e_Tok2
  (e_Tok2
  (e_Lok (ld_iload_8 (x_dk dn_418_1_0_ok 0 rfl)))
  (e_Lok (ld_aload_n_0 (x_dk dn_418_1_0_ok 1 rfl))))
  (e_Tok2
  (e_Lok (lk_12_231g ho_418 (x_dk dn_418_1_0_ok 2 rfl)))
  (e_Lok (ld_iload_7 (x_dk dn_418_1_0_ok 3 rfl))))))
  (e_Tok2
  (e_Tok2
  (e_Tok2
  (e_Lok (sm_iaload (x_dk dn_418_1_0_ok 4 rfl)))
  (e_Lok (sm_isub (x_dk dn_418_1_0_ok 5 rfl))))
  (e_Tok2
  (e_Lok (ld_iload_n_2 (x_dk dn_418_1_0_ok 6 rfl)))
  (e_Lok (e_st (I := eI) (er_irem (x_dk dn_418_1_0_ok 7 rfl)) nx_bin))))
  (e_Tok2
  (e_Tok2
  (e_Lok (e_st (I := eI) (er_ifeq (off := 6) (tg := 199) (x_dk dn_418_1_0_ok 8 rfl) (by decide)) nx_if1))
  (e_Lok (ps_bipush_m2 (x_dk dn_418_1_0_ok 9 rfl))))
  (e_Tok2
  (e_Lok (e_rt (I := eI) (k := 1) ⟨(x_dk dn_418_1_0_ok 10 rfl), rfl⟩))
  (e_Lok (ld_iload_5 (x_dk dn_418_1_0_ok 11 rfl)))))))
  (e_Tok2
  (e_Tok2
  (e_Tok2
  (e_Tok2
  (e_Lok (ld_aload_n_0 (x_dk dn_418_1_0_ok 12 rfl)))
  (e_Lok (ld_iload_7 (x_dk dn_418_1_0_ok 13 rfl))))
  (e_Tok2
  (e_Lok (lk_12_840 ho_418 (x_dk dn_418_1_0_ok 14 rfl)))
  (e_Lok (ld_aload_n_0 (x_dk dn_418_1_0_ok 15 rfl)))))
  (e_Tok2
  (e_Tok2
  (e_Lok (lk_12_8g ho_418 (x_dk dn_418_1_0_ok 16 rfl)))
  (e_Lok (ld_iload_n_1 (x_dk dn_418_1_0_ok 17 rfl))))
  (e_Tok2
  (e_Lok (lk_12_294 ho_418 (x_dk dn_418_1_0_ok 18 rfl)))
  (e_Lok (ps_bipush_16 (x_dk dn_418_1_0_ok 19 rfl))))))
  (e_Tok2
  (e_Tok2
  (e_Tok2
  (e_Lok (sm_iadd (x_dk dn_418_1_0_ok 20 rfl)))
  (e_Lok (ld_iload_7 (x_dk dn_418_1_0_ok 21 rfl))))
  (e_Tok2
  (e_Lok (sm_iadd (x_dk dn_418_1_0_ok 22 rfl)))
  (e_Lok (sm_iaload (x_dk dn_418_1_0_ok 23 rfl)))))
  (e_Tok2
  (e_Tok2
  (e_Lok (ld_aload_n_0 (x_dk dn_418_1_0_ok 24 rfl)))
  (e_Lok (lk_12_231g ho_418 (x_dk dn_418_1_1_ok 0 rfl))))
  (e_Tok2
  (e_Lok (ld_iload_7 (x_dk dn_418_1_1_ok 1 rfl)))
  (e_Lok (sm_iaload (x_dk dn_418_1_1_ok 2 rfl))))))))
def te_418_128 : Nat → eE := (e_T 253 (e_T 238 (e_T 232 (e_T 230 (e_T 229 (e_L 229 (0, ei_bin eF_sub 230, 0, 0)) (e_L 230 (0, ei_load 2 0 231, 0, 0))) (e_T 231 (e_L 231 (0, ei_bin eF_div 232, 0, 0)) (e_L 232 (0, ei_bin eF_mul 233, 0, 0)))) (e_T 234 (e_T 233 (e_L 233 (0, ei_bin eF_add 234, 0, 0)) (e_L 234 (0, ei_stor 5 0 236, 0, 0))) (e_T 236 (e_L 236 (0, ei_load 6 0 238, 0, 0)) (e_L 238 (0, ei_load 0 2 239, 0, 0))))) (e_T 246 (e_T 241 (e_T 239 (e_L 239 (0, ei_load 7 0 241, 0, 0)) (e_L 241 (2, e_nof, 411, 2))) (e_T 244 (e_L 244 (0, ei_load 8 0 246, 0, 0)) (e_L 246 (0, ei_load 0 2 247, 0, 0)))) (e_T 250 (e_T 247 (e_L 247 (0, ei_getf eft elay 12 105 250, 0, 0)) (e_L 250 (0, ei_load 7 0 252, 0, 0))) (e_T 252 (e_L 252 (0, ei_ald elay false 253, 0, 0)) (e_L 253 (0, ei_bin eF_sub 254, 0, 0)))))) (e_T 266 (e_T 257 (e_T 255 (e_T 254 (e_L 254 (0, ei_load 2 0 255, 0, 0)) (e_L 255 (0, ei_bin eF_div 256, 0, 0))) (e_T 256 (e_L 256 (0, ei_bin eF_mul 257, 0, 0)) (e_L 257 (0, ei_bin eF_add 258, 0, 0)))) (e_T 260 (e_T 258 (e_L 258 (0, ei_stor 6 0 260, 0, 0)) (e_L 260 (0, ei_inc 7 1 263, 0, 0))) (e_T 263 (e_L 263 (0, ei_goto 123, 0, 0)) (e_L 266 (0, ei_load 0 2 267, 0, 0))))) (e_T 272 (e_T 268 (e_T 267 (e_L 267 (0, ei_load 1 0 268, 0, 0)) (e_L 268 (0, ei_putf eft elay 12 110 0 271, 0, 0))) (e_T 271 (e_L 271 (0, ei_load 0 2 272, 0, 0)) (e_L 272 (0, ei_load 2 0 273, 0, 0)))) (e_T 276 (e_T 273 (e_L 273 (0, ei_putf eft elay 12 111 0 276, 0, 0)) (e_L 276 (0, ei_load 0 2 277, 0, 0))) (e_T 277 (e_L 277 (0, ei_load 3 0 278, 0, 0)) (e_L 278 (0, ei_putf eft elay 12 112 0 281, 0, 0)))))))
set_option maxRecDepth 20000 in
set_option maxHeartbeats 4000000 in
theorem te_418_128_ok : ∀ pc, e_EOq eft cls elay eI n_418 pc (te_418_128 pc) :=
  (e_Tok2
  (e_Tok2
  (e_Tok2
  (e_Tok2
  (e_Tok2
  (e_Lok (sm_isub (x_dk dn_418_1_1_ok 3 rfl)))
  (e_Lok (ld_iload_n_2 (x_dk dn_418_1_1_ok 4 rfl))))
  (e_Tok2
  (e_Lok (e_st (I := eI) (er_idiv (x_dk dn_418_1_1_ok 5 rfl)) nx_bin))
  (e_Lok (sm_imul (x_dk dn_418_1_1_ok 6 rfl)))))
  (e_Tok2
  (e_Tok2
  (e_Lok (sm_iadd (x_dk dn_418_1_1_ok 7 rfl)))
  (e_Lok (e_st (I := eI) (er_istore (i := 5) (x_dk dn_418_1_1_ok 8 rfl) (by decide +kernel)) nx_stor)))
  (e_Tok2
  (e_Lok (ld_iload_6 (x_dk dn_418_1_1_ok 9 rfl)))
  (e_Lok (ld_aload_n_0 (x_dk dn_418_1_1_ok 10 rfl))))))
  (e_Tok2
  (e_Tok2
  (e_Tok2
  (e_Lok (ld_iload_7 (x_dk dn_418_1_1_ok 11 rfl)))
  (e_Lok (lk_12_840 ho_418 (x_dk dn_418_1_1_ok 12 rfl))))
  (e_Tok2
  (e_Lok (ld_iload_8 (x_dk dn_418_1_1_ok 13 rfl)))
  (e_Lok (ld_aload_n_0 (x_dk dn_418_1_1_ok 14 rfl)))))
  (e_Tok2
  (e_Tok2
  (e_Lok (lk_12_231g ho_418 (x_dk dn_418_1_1_ok 15 rfl)))
  (e_Lok (ld_iload_7 (x_dk dn_418_1_1_ok 16 rfl))))
  (e_Tok2
  (e_Lok (sm_iaload (x_dk dn_418_1_1_ok 17 rfl)))
  (e_Lok (sm_isub (x_dk dn_418_1_1_ok 18 rfl)))))))
  (e_Tok2
  (e_Tok2
  (e_Tok2
  (e_Tok2
  (e_Lok (ld_iload_n_2 (x_dk dn_418_1_1_ok 19 rfl)))
  (e_Lok (e_st (I := eI) (er_idiv (x_dk dn_418_1_1_ok 20 rfl)) nx_bin)))
  (e_Tok2
  (e_Lok (sm_imul (x_dk dn_418_1_1_ok 21 rfl)))
  (e_Lok (sm_iadd (x_dk dn_418_1_1_ok 22 rfl)))))
  (e_Tok2
  (e_Tok2
  (e_Lok (e_st (I := eI) (er_istore (i := 6) (x_dk dn_418_1_1_ok 23 rfl) (by decide +kernel)) nx_stor))
  (e_Lok (e_st (I := eI) (er_iinc (i := 7) (n := 1) (x_dk dn_418_1_1_ok 24 rfl) (by decide +kernel) (by decide)) nx_inc)))
  (e_Tok2
  (e_Lok (e_st (I := eI) (er_goto (off := (-140)) (tg := 123) (x_dk dn_418_1_2_ok 0 rfl) (by decide)) nx_goto))
  (e_Lok (ld_aload_n_0 (x_dk dn_418_1_2_ok 1 rfl))))))
  (e_Tok2
  (e_Tok2
  (e_Tok2
  (e_Lok (ld_iload_n_1 (x_dk dn_418_1_2_ok 2 rfl)))
  (e_Lok (lk_12_819p ho_418 (x_dk dn_418_1_2_ok 3 rfl))))
  (e_Tok2
  (e_Lok (ld_aload_n_0 (x_dk dn_418_1_2_ok 4 rfl)))
  (e_Lok (ld_iload_n_2 (x_dk dn_418_1_2_ok 5 rfl)))))
  (e_Tok2
  (e_Tok2
  (e_Lok (lk_12_822p ho_418 (x_dk dn_418_1_2_ok 6 rfl)))
  (e_Lok (ld_aload_n_0 (x_dk dn_418_1_2_ok 7 rfl))))
  (e_Tok2
  (e_Lok (ld_iload_n_3 (x_dk dn_418_1_2_ok 8 rfl)))
  (e_Lok (lk_12_828p ho_418 (x_dk dn_418_1_2_ok 9 rfl))))))))
def te_418_160 : Nat → eE := (e_T 312 (e_T 296 (e_T 286 (e_T 282 (e_T 281 (e_L 281 (0, ei_load 0 2 282, 0, 0)) (e_L 282 (2, e_nof, 302, 1))) (e_T 285 (e_L 285 (0, ei_load 0 2 286, 0, 0)) (e_L 286 (0, ei_getf eft elay 12 6 289, 0, 0)))) (e_T 292 (e_T 289 (e_L 289 (0, ei_if1 0 315 292, 0, 0)) (e_L 292 (0, ei_load 0 2 293, 0, 0))) (e_T 293 (e_L 293 (0, ei_getf eft elay 12 115 296, 0, 0)) (e_L 296 (0, ei_load 0 2 297, 0, 0))))) (e_T 304 (e_T 300 (e_T 297 (e_L 297 (0, ei_getf eft elay 12 117 300, 0, 0)) (e_L 300 (0, ei_ald elay false 301, 0, 0))) (e_T 301 (e_L 301 (0, ei_if1 2 315 304, 0, 0)) (e_L 304 (0, ei_load 0 2 305, 0, 0)))) (e_T 306 (e_T 305 (e_L 305 (0, ei_load 0 2 306, 0, 0)) (e_L 306 (0, ei_getf eft elay 12 117 309, 0, 0))) (e_T 309 (e_L 309 (2, e_nof, 421, 2)) (e_L 312 (0, ei_goto 325, 0, 0)))))) (e_T 329 (e_T 320 (e_T 316 (e_T 315 (e_L 315 (0, ei_load 0 2 316, 0, 0)) (e_L 316 (0, ei_load 5 0 318, 0, 0))) (e_T 318 (e_L 318 (0, ei_load 6 0 320, 0, 0)) (e_L 320 (0, ei_load 4 0 322, 0, 0)))) (e_T 325 (e_T 322 (e_L 322 (2, e_nof, 417, 4)) (e_L 325 (0, ei_stor 7 0 327, 0, 0))) (e_T 327 (e_L 327 (0, ei_load 7 0 329, 0, 0)) (e_L 329 (0, ei_if1 3 335 332, 0, 0))))) (e_T 336 (e_T 334 (e_T 332 (e_L 332 (0, ei_push (0, (-2)) 334, 0, 0)) (e_L 334 (1, e_nof, 1, 0))) (e_T 335 (e_L 335 (0, ei_load 0 2 336, 0, 0)) (e_L 336 (2, e_nof, 422, 1)))) (e_T 342 (e_T 339 (e_L 339 (0, ei_if1 0 345 342, 0, 0)) (e_L 342 (0, ei_push (0, (-3)) 344, 0, 0))) (e_T 344 (e_L 344 (1, e_nof, 1, 0)) (e_L 345 (0, ei_load 1 0 346, 0, 0)))))))
set_option maxRecDepth 20000 in
set_option maxHeartbeats 4000000 in
theorem te_418_160_ok : ∀ pc, e_EOq eft cls elay eI n_418 pc (te_418_160 pc) :=
  (e_Tok2
  (e_Tok2
  (e_Tok2
  (e_Tok2
  (e_Tok2
  (e_Lok (ld_aload_n_0 (x_dk dn_418_1_2_ok 10 rfl)))
  (e_Lok (lk_12_401 ho_418 (x_dk dn_418_1_2_ok 11 rfl))))
  (e_Tok2
  (e_Lok (ld_aload_n_0 (x_dk dn_418_1_2_ok 12 rfl)))
  (e_Lok (lk_12_771g ho_418 (x_dk dn_418_1_2_ok 13 rfl)))))
  (e_Tok2
  (e_Tok2
  (e_Lok (e_st (I := eI) (er_ifeq (off := 26) (tg := 315) (x_dk dn_418_1_2_ok 14 rfl) (by decide)) nx_if1))
  (e_Lok (ld_aload_n_0 (x_dk dn_418_1_2_ok 15 rfl))))
  (e_Tok2
  (e_Lok (lk_12_253g ho_418 (x_dk dn_418_1_2_ok 16 rfl)))
  (e_Lok (ld_aload_n_0 (x_dk dn_418_1_2_ok 17 rfl))))))
  (e_Tok2
  (e_Tok2
  (e_Tok2
  (e_Lok (lk_12_854g ho_418 (x_dk dn_418_1_2_ok 18 rfl)))
  (e_Lok (sm_iaload (x_dk dn_418_1_2_ok 19 rfl))))
  (e_Tok2
  (e_Lok (e_st (I := eI) (er_iflt (off := 14) (tg := 315) (x_dk dn_418_1_2_ok 20 rfl) (by decide)) nx_if1))
  (e_Lok (ld_aload_n_0 (x_dk dn_418_1_2_ok 21 rfl)))))
  (e_Tok2
  (e_Tok2
  (e_Lok (ld_aload_n_0 (x_dk dn_418_1_2_ok 22 rfl)))
  (e_Lok (lk_12_854g ho_418 (x_dk dn_418_1_2_ok 23 rfl))))
  (e_Tok2
  (e_Lok (lk_12_857 ho_418 (x_dk dn_418_1_2_ok 24 rfl)))
  (e_Lok (e_st (I := eI) (er_goto (off := 13) (tg := 325) (x_dk dn_418_1_3_ok 0 rfl) (by decide)) nx_goto))))))
  (e_Tok2
  (e_Tok2
  (e_Tok2
  (e_Tok2
  (e_Lok (ld_aload_n_0 (x_dk dn_418_1_3_ok 1 rfl)))
  (e_Lok (ld_iload_5 (x_dk dn_418_1_3_ok 2 rfl))))
  (e_Tok2
  (e_Lok (ld_iload_6 (x_dk dn_418_1_3_ok 3 rfl)))
  (e_Lok (ld_iload_4 (x_dk dn_418_1_3_ok 4 rfl)))))
  (e_Tok2
  (e_Tok2
  (e_Lok (lk_12_860 ho_418 (x_dk dn_418_1_3_ok 5 rfl)))
  (e_Lok (e_st (I := eI) (er_istore (i := 7) (x_dk dn_418_1_3_ok 6 rfl) (by decide +kernel)) nx_stor)))
  (e_Tok2
  (e_Lok (ld_iload_7 (x_dk dn_418_1_3_ok 7 rfl)))
  (e_Lok (e_st (I := eI) (er_ifge (off := 6) (tg := 335) (x_dk dn_418_1_3_ok 8 rfl) (by decide)) nx_if1)))))
  (e_Tok2
  (e_Tok2
  (e_Tok2
  (e_Lok (ps_bipush_m2 (x_dk dn_418_1_3_ok 9 rfl)))
  (e_Lok (e_rt (I := eI) (k := 1) ⟨(x_dk dn_418_1_3_ok 10 rfl), rfl⟩)))
  (e_Tok2
  (e_Lok (ld_aload_n_0 (x_dk dn_418_1_3_ok 11 rfl)))
  (e_Lok (lk_12_863 ho_418 (x_dk dn_418_1_3_ok 12 rfl)))))
  (e_Tok2
  (e_Tok2
  (e_Lok (e_st (I := eI) (er_ifeq (off := 6) (tg := 345) (x_dk dn_418_1_3_ok 13 rfl) (by decide)) nx_if1))
  (e_Lok (ps_bipush_m3 (x_dk dn_418_1_3_ok 14 rfl))))
  (e_Tok2
  (e_Lok (e_rt (I := eI) (k := 1) ⟨(x_dk dn_418_1_3_ok 15 rfl), rfl⟩))
  (e_Lok (ld_iload_n_1 (x_dk dn_418_1_3_ok 16 rfl))))))))
def te_418_192 : Nat → eE := (e_T 372 (e_T 359 (e_T 352 (e_T 349 (e_T 346 (e_L 346 (2, e_nof, 268, 1)) (e_L 349 (0, ei_stor 8 0 351, 0, 0))) (e_T 351 (e_L 351 (0, ei_load 0 2 352, 0, 0)) (e_L 352 (0, ei_getf eft elay 12 0 355, 0, 0)))) (e_T 357 (e_T 355 (e_L 355 (0, ei_load 8 0 357, 0, 0)) (e_L 357 (0, ei_push (0, 3) 358, 0, 0))) (e_T 358 (e_L 358 (0, ei_bin eF_add 359, 0, 0)) (e_L 359 (0, ei_load 7 0 361, 0, 0))))) (e_T 366 (e_T 362 (e_T 361 (e_L 361 (0, ei_ast elay false 362, 0, 0)) (e_L 362 (0, ei_load 0 2 363, 0, 0))) (e_T 363 (e_L 363 (0, ei_getf eft elay 12 0 366, 0, 0)) (e_L 366 (0, ei_load 8 0 368, 0, 0)))) (e_T 370 (e_T 368 (e_L 368 (0, ei_push (0, 10) 370, 0, 0)) (e_L 370 (0, ei_bin eF_add 371, 0, 0))) (e_T 371 (e_L 371 (0, ei_load 2 0 372, 0, 0)) (e_L 372 (0, ei_ast elay false 373, 0, 0)))))) (e_T 383 (e_T 379 (e_T 374 (e_T 373 (e_L 373 (0, ei_load 0 2 374, 0, 0)) (e_L 374 (0, ei_getf eft elay 12 0 377, 0, 0))) (e_T 377 (e_L 377 (0, ei_load 8 0 379, 0, 0)) (e_L 379 (0, ei_push (0, 4) 380, 0, 0)))) (e_T 381 (e_T 380 (e_L 380 (0, ei_bin eF_add 381, 0, 0)) (e_L 381 (0, ei_push (0, 1) 382, 0, 0))) (e_T 382 (e_L 382 (0, ei_ast elay false 383, 0, 0)) (e_L 383 (0, ei_load 0 2 384, 0, 0))))) (e_T 390 (e_T 387 (e_T 384 (e_L 384 (0, ei_getf eft elay 12 0 387, 0, 0)) (e_L 387 (0, ei_load 8 0 389, 0, 0))) (e_T 389 (e_L 389 (0, ei_push (0, 5) 390, 0, 0)) (e_L 390 (0, ei_bin eF_add 391, 0, 0)))) (e_T 392 (e_T 391 (e_L 391 (0, ei_push (0, 1) 392, 0, 0)) (e_L 392 (0, ei_ast elay false 393, 0, 0))) (e_T 393 (e_L 393 (0, ei_push (0, 0) 394, 0, 0)) (e_L 394 (0, ei_stor 9 0 396, 0, 0)))))))
set_option maxRecDepth 20000 in
set_option maxHeartbeats 4000000 in
theorem te_418_192_ok : ∀ pc, e_EOq eft cls elay eI n_418 pc (te_418_192 pc) :=
  (e_Tok2
  (e_Tok2
  (e_Tok2
  (e_Tok2
  (e_Tok2
  (e_Lok (lk_12_294 ho_418 (x_dk dn_418_1_3_ok 17 rfl)))
  (e_Lok (e_st (I := eI) (er_istore (i := 8) (x_dk dn_418_1_3_ok 18 rfl) (by decide +kernel)) nx_stor)))
  (e_Tok2
  (e_Lok (ld_aload_n_0 (x_dk dn_418_1_3_ok 19 rfl)))
  (e_Lok (lk_12_8g ho_418 (x_dk dn_418_1_3_ok 20 rfl)))))
  (e_Tok2
  (e_Tok2
  (e_Lok (ld_iload_8 (x_dk dn_418_1_3_ok 21 rfl)))
  (e_Lok (ps_iconst_3 (x_dk dn_418_1_3_ok 22 rfl))))
  (e_Tok2
  (e_Lok (sm_iadd (x_dk dn_418_1_3_ok 23 rfl)))
  (e_Lok (ld_iload_7 (x_dk dn_418_1_3_ok 24 rfl))))))
  (e_Tok2
  (e_Tok2
  (e_Tok2
  (e_Lok (sm_iastore (x_dk dn_418_2_0_ok 0 rfl)))
  (e_Lok (ld_aload_n_0 (x_dk dn_418_2_0_ok 1 rfl))))
  (e_Tok2
  (e_Lok (lk_12_8g ho_418 (x_dk dn_418_2_0_ok 2 rfl)))
  (e_Lok (ld_iload_8 (x_dk dn_418_2_0_ok 3 rfl)))))
  (e_Tok2
  (e_Tok2
  (e_Lok (ps_bipush_10 (x_dk dn_418_2_0_ok 4 rfl)))
  (e_Lok (sm_iadd (x_dk dn_418_2_0_ok 5 rfl))))
  (e_Tok2
  (e_Lok (ld_iload_n_2 (x_dk dn_418_2_0_ok 6 rfl)))
  (e_Lok (sm_iastore (x_dk dn_418_2_0_ok 7 rfl)))))))
  (e_Tok2
  (e_Tok2
  (e_Tok2
  (e_Tok2
  (e_Lok (ld_aload_n_0 (x_dk dn_418_2_0_ok 8 rfl)))
  (e_Lok (lk_12_8g ho_418 (x_dk dn_418_2_0_ok 9 rfl))))
  (e_Tok2
  (e_Lok (ld_iload_8 (x_dk dn_418_2_0_ok 10 rfl)))
  (e_Lok (ps_iconst_4 (x_dk dn_418_2_0_ok 11 rfl)))))
  (e_Tok2
  (e_Tok2
  (e_Lok (sm_iadd (x_dk dn_418_2_0_ok 12 rfl)))
  (e_Lok (ps_iconst_1 (x_dk dn_418_2_0_ok 13 rfl))))
  (e_Tok2
  (e_Lok (sm_iastore (x_dk dn_418_2_0_ok 14 rfl)))
  (e_Lok (ld_aload_n_0 (x_dk dn_418_2_0_ok 15 rfl))))))
  (e_Tok2
  (e_Tok2
  (e_Tok2
  (e_Lok (lk_12_8g ho_418 (x_dk dn_418_2_0_ok 16 rfl)))
  (e_Lok (ld_iload_8 (x_dk dn_418_2_0_ok 17 rfl))))
  (e_Tok2
  (e_Lok (ps_iconst_5 (x_dk dn_418_2_0_ok 18 rfl)))
  (e_Lok (sm_iadd (x_dk dn_418_2_0_ok 19 rfl)))))
  (e_Tok2
  (e_Tok2
  (e_Lok (ps_iconst_1 (x_dk dn_418_2_0_ok 20 rfl)))
  (e_Lok (sm_iastore (x_dk dn_418_2_0_ok 21 rfl))))
  (e_Tok2
  (e_Lok (ps_iconst_0 (x_dk dn_418_2_0_ok 22 rfl)))
  (e_Lok (e_st (I := eI) (er_istore (i := 9) (x_dk dn_418_2_0_ok 23 rfl) (by decide +kernel)) nx_stor)))))))
def te_418_224 : Nat → eE := (e_T 427 (e_T 414 (e_T 404 (e_T 398 (e_T 396 (e_L 396 (0, ei_load 9 0 398, 0, 0)) (e_L 398 (0, ei_push (0, 1000) 401, 0, 0))) (e_T 401 (e_L 401 (0, ei_if2 3 445 404, 0, 0)) (e_L 404 (0, ei_load 0 2 405, 0, 0)))) (e_T 408 (e_T 405 (e_L 405 (0, ei_getf eft elay 12 0 408, 0, 0)) (e_L 408 (0, ei_push (0, 21060) 411, 0, 0))) (e_T 411 (e_L 411 (0, ei_push (0, 1000) 414, 0, 0)) (e_L 414 (0, ei_load 1 0 415, 0, 0))))) (e_T 419 (e_T 416 (e_T 415 (e_L 415 (0, ei_bin eF_mul 416, 0, 0)) (e_L 416 (0, ei_bin eF_add 417, 0, 0))) (e_T 417 (e_L 417 (0, ei_load 9 0 419, 0, 0)) (e_L 419 (0, ei_bin eF_add 420, 0, 0)))) (e_T 422 (e_T 420 (e_L 420 (0, ei_load 9 0 422, 0, 0)) (e_L 422 (0, ei_load 7 0 424, 0, 0))) (e_T 424 (e_L 424 (0, ei_if2 3 437 427, 0, 0)) (e_L 427 (0, ei_load 0 2 428, 0, 0)))))) (e_T 442 (e_T 434 (e_T 431 (e_T 428 (e_L 428 (0, ei_getf eft elay 12 113 431, 0, 0)) (e_L 431 (0, ei_load 9 0 433, 0, 0))) (e_T 433 (e_L 433 (0, ei_ald elay false 434, 0, 0)) (e_L 434 (0, ei_goto 438, 0, 0)))) (e_T 438 (e_T 437 (e_L 437 (0, ei_push (0, 0) 438, 0, 0)) (e_L 438 (0, ei_ast elay false 439, 0, 0))) (e_T 439 (e_L 439 (0, ei_inc 9 1 442, 0, 0)) (e_L 442 (0, ei_goto 396, 0, 0))))) (e_T 449 (e_T 446 (e_T 445 (e_L 445 (0, ei_load 0 2 446, 0, 0)) (e_L 446 (0, ei_push (0, 10) 448, 0, 0))) (e_T 448 (e_L 448 (0, ei_load 1 0 449, 0, 0)) (e_L 449 (0, ei_load 2 0 450, 0, 0)))) (e_T 451 (e_T 450 (e_L 450 (0, ei_load 3 0 451, 0, 0)) (e_L 451 (2, e_nof, 423, 5))) (e_T 454 (e_L 454 (0, ei_load 7 0 456, 0, 0)) (e_L 456 (1, e_nof, 1, 0)))))))
set_option maxRecDepth 20000 in
set_option maxHeartbeats 4000000 in
theorem te_418_224_ok : ∀ pc, e_EOq eft cls elay eI n_418 pc (te_418_224 pc) :=
  (e_Tok2
  (e_Tok2
  (e_Tok2
  (e_Tok2
  (e_Tok2
  (e_Lok (ld_iload_9 (x_dk dn_418_2_0_ok 24 rfl)))
  (e_Lok (ps_sipush_1000 (x_dk dn_418_2_1_ok 0 rfl))))
  (e_Tok2
  (e_Lok (e_st (I := eI) (er_icmpge (off := 44) (tg := 445) (x_dk dn_418_2_1_ok 1 rfl) (by decide)) nx_if2))
  (e_Lok (ld_aload_n_0 (x_dk dn_418_2_1_ok 2 rfl)))))
  (e_Tok2
  (e_Tok2
  (e_Lok (lk_12_8g ho_418 (x_dk dn_418_2_1_ok 3 rfl)))
  (e_Lok (ps_sipush_21060 (x_dk dn_418_2_1_ok 4 rfl))))
  (e_Tok2
  (e_Lok (ps_sipush_1000 (x_dk dn_418_2_1_ok 5 rfl)))
  (e_Lok (ld_iload_n_1 (x_dk dn_418_2_1_ok 6 rfl))))))
  (e_Tok2
  (e_Tok2
  (e_Tok2
  (e_Lok (sm_imul (x_dk dn_418_2_1_ok 7 rfl)))
  (e_Lok (sm_iadd (x_dk dn_418_2_1_ok 8 rfl))))
  (e_Tok2
  (e_Lok (ld_iload_9 (x_dk dn_418_2_1_ok 9 rfl)))
  (e_Lok (sm_iadd (x_dk dn_418_2_1_ok 10 rfl)))))
  (e_Tok2
  (e_Tok2
  (e_Lok (ld_iload_9 (x_dk dn_418_2_1_ok 11 rfl)))
  (e_Lok (ld_iload_7 (x_dk dn_418_2_1_ok 12 rfl))))
  (e_Tok2
  (e_Lok (e_st (I := eI) (er_icmpge (off := 13) (tg := 437) (x_dk dn_418_2_1_ok 13 rfl) (by decide)) nx_if2))
  (e_Lok (ld_aload_n_0 (x_dk dn_418_2_1_ok 14 rfl)))))))
  (e_Tok2
  (e_Tok2
  (e_Tok2
  (e_Tok2
  (e_Lok (lk_12_246g ho_418 (x_dk dn_418_2_1_ok 15 rfl)))
  (e_Lok (ld_iload_9 (x_dk dn_418_2_1_ok 16 rfl))))
  (e_Tok2
  (e_Lok (sm_iaload (x_dk dn_418_2_1_ok 17 rfl)))
  (e_Lok (e_st (I := eI) (er_goto (off := 4) (tg := 438) (x_dk dn_418_2_1_ok 18 rfl) (by decide)) nx_goto))))
  (e_Tok2
  (e_Tok2
  (e_Lok (ps_iconst_0 (x_dk dn_418_2_1_ok 19 rfl)))
  (e_Lok (sm_iastore (x_dk dn_418_2_1_ok 20 rfl))))
  (e_Tok2
  (e_Lok (e_st (I := eI) (er_iinc (i := 9) (n := 1) (x_dk dn_418_2_1_ok 21 rfl) (by decide +kernel) (by decide)) nx_inc))
  (e_Lok (e_st (I := eI) (er_goto (off := (-46)) (tg := 396) (x_dk dn_418_2_1_ok 22 rfl) (by decide)) nx_goto)))))
  (e_Tok2
  (e_Tok2
  (e_Tok2
  (e_Lok (ld_aload_n_0 (x_dk dn_418_2_1_ok 23 rfl)))
  (e_Lok (ps_bipush_10 (x_dk dn_418_2_1_ok 24 rfl))))
  (e_Tok2
  (e_Lok (ld_iload_n_1 (x_dk dn_418_2_2_ok 0 rfl)))
  (e_Lok (ld_iload_n_2 (x_dk dn_418_2_2_ok 1 rfl)))))
  (e_Tok2
  (e_Tok2
  (e_Lok (ld_iload_n_3 (x_dk dn_418_2_2_ok 2 rfl)))
  (e_Lok (lk_12_866 ho_418 (x_dk dn_418_2_2_ok 3 rfl))))
  (e_Tok2
  (e_Lok (ld_iload_7 (x_dk dn_418_2_2_ok 4 rfl)))
  (e_Lok (e_rt (I := eI) (k := 1) ⟨(x_dk dn_418_2_2_ok 5 rfl), rfl⟩)))))))
def te_418 : Nat → eE := (e_T 228 (e_T 120 (e_T 58 te_418_0 te_418_32) (e_T 172 te_418_64 te_418_96)) (e_T 345 (e_T 278 te_418_128 te_418_160) (e_T 394 te_418_192 te_418_224)))
theorem te_418_ok : ∀ pc, e_EOq eft cls elay eI n_418 pc (te_418 pc) := (e_Tok2 ((e_Tok2 ((e_Tok2 (te_418_0_ok) (te_418_32_ok))) ((e_Tok2 (te_418_64_ok) (te_418_96_ok))))) ((e_Tok2 ((e_Tok2 (te_418_128_ok) (te_418_160_ok))) ((e_Tok2 (te_418_192_ok) (te_418_224_ok))))))
end
