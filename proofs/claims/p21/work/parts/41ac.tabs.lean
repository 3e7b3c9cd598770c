noncomputable section
theorem ho_40 : (xm_y n_40).cls = "RobotCellHouse$Doer" := rfl
def dn_40_0_0 : List (Nat × Instr × Nat) := [(0, .aload_n 0, 1), (1, .getfield 11, 3), (4, .iload_n 1, 1), (5, .aaload, 1), (6, .getfield 104, 3), (9, .iconst 1, 1), (10, .if_icmp .eq 4, 3), (13, .return_, 1), (14, .aload_n 0, 1), (15, .iload_n 1, 1), (16, .invokevirtual 105, 3), (19, .aload_n 0, 1), (20, .getfield 11, 3), (23, .iload_n 1, 1), (24, .aaload, 1), (25, .iconst 2, 1), (26, .putfield 104, 3), (29, .return_, 1)]
set_option maxRecDepth 20000 in
theorem dn_40_0_0_ok : dn_40_0_0.all (fun q => decide (decode (xm_b n_40) q.1 = .ok (q.2.1, q.2.2))) = true := xa_g_ok (by decide +kernel)
def te_40_0 : Nat → eE := (e_T 14 (e_T 5 (e_T 1 (e_T 0 (e_L 0 (0, ei_load 0 2 1, 0, 0)) (e_L 1 (0, ei_getf eft elay 3 0 4, 0, 0))) (e_T 4 (e_L 4 (0, ei_load 1 0 5, 0, 0)) (e_L 5 (0, ei_aald elay 6, 0, 0)))) (e_T 9 (e_T 6 (e_L 6 (0, ei_getf eft elay 0 11 9, 0, 0)) (e_L 9 (0, ei_push (0, 1) 10, 0, 0))) (e_T 10 (e_L 10 (0, ei_if2 0 14 13, 0, 0)) (e_T 13 (e_L 13 (1, e_nof, 0, 0)) (e_L 14 (0, ei_load 0 2 15, 0, 0)))))) (e_T 20 (e_T 16 (e_T 15 (e_L 15 (0, ei_load 1 0 16, 0, 0)) (e_L 16 (2, e_nof, 41, 2))) (e_T 19 (e_L 19 (0, ei_load 0 2 20, 0, 0)) (e_L 20 (0, ei_getf eft elay 3 0 23, 0, 0)))) (e_T 24 (e_T 23 (e_L 23 (0, ei_load 1 0 24, 0, 0)) (e_L 24 (0, ei_aald elay 25, 0, 0))) (e_T 25 (e_L 25 (0, ei_push (0, 2) 26, 0, 0)) (e_T 26 (e_L 26 (0, ei_putf eft elay 0 11 0 29, 0, 0)) (e_L 29 (1, e_nof, 0, 0)))))))
set_option maxRecDepth 20000 in
set_option maxHeartbeats 4000000 in
theorem te_40_0_ok : ∀ pc, e_EOq eft cls elay eI n_40 pc (te_40_0 pc) :=
  (e_Tok2
  (e_Tok2
  (e_Tok2
  (e_Tok2
  (e_Lok (ld_aload_n_0 (x_dk dn_40_0_0_ok 0 rfl)))
  (e_Lok (lk_3_11g ho_40 (x_dk dn_40_0_0_ok 1 rfl))))
  (e_Tok2
  (e_Lok (ld_iload_n_1 (x_dk dn_40_0_0_ok 2 rfl)))
  (e_Lok (e_st (I := eI) (er_aaload (x_dk dn_40_0_0_ok 3 rfl)) nx_aald))))
  (e_Tok2
  (e_Tok2
  (e_Lok (lk_3_104g ho_40 (x_dk dn_40_0_0_ok 4 rfl)))
  (e_Lok (ps_iconst_1 (x_dk dn_40_0_0_ok 5 rfl))))
  (e_Tok2
  (e_Lok (e_st (I := eI) (er_icmpeq (off := 4) (tg := 14) (x_dk dn_40_0_0_ok 6 rfl) (by decide)) nx_if2))
  (e_Tok2
  (e_Lok (e_rt (I := eI) (k := 0) ⟨(x_dk dn_40_0_0_ok 7 rfl), rfl⟩))
  (e_Lok (ld_aload_n_0 (x_dk dn_40_0_0_ok 8 rfl)))))))
  (e_Tok2
  (e_Tok2
  (e_Tok2
  (e_Lok (ld_iload_n_1 (x_dk dn_40_0_0_ok 9 rfl)))
  (e_Lok (lk_3_105 ho_40 (x_dk dn_40_0_0_ok 10 rfl))))
  (e_Tok2
  (e_Lok (ld_aload_n_0 (x_dk dn_40_0_0_ok 11 rfl)))
  (e_Lok (lk_3_11g ho_40 (x_dk dn_40_0_0_ok 12 rfl)))))
  (e_Tok2
  (e_Tok2
  (e_Lok (ld_iload_n_1 (x_dk dn_40_0_0_ok 13 rfl)))
  (e_Lok (e_st (I := eI) (er_aaload (x_dk dn_40_0_0_ok 14 rfl)) nx_aald)))
  (e_Tok2
  (e_Lok (ps_iconst_2 (x_dk dn_40_0_0_ok 15 rfl)))
  (e_Tok2
  (e_Lok (lk_3_104p ho_40 (x_dk dn_40_0_0_ok 16 rfl)))
  (e_Lok (e_rt (I := eI) (k := 0) ⟨(x_dk dn_40_0_0_ok 17 rfl), rfl⟩)))))))
def te_40 : Nat → eE := te_40_0
theorem te_40_ok : ∀ pc, e_EOq eft cls elay eI n_40 pc (te_40 pc) := te_40_0_ok
theorem ho_41 : (xm_y n_41).cls = "RobotCellHouse$Doer" := rfl
def dn_41_0_0 : List (Nat × Instr × Nat) := [(0, .aload_n 0, 1), (1, .getfield 34, 3), (4, .bipush 9, 2), (6, .iload_n 1, 1), (7, .iconst 0, 1), (8, .invokevirtual 108, 3), (11, .aload_n 0, 1), (12, .getfield 11, 3), (15, .iload_n 1, 1), (16, .aaload, 1), (17, .getfield 111, 3), (20, .ifCond .lt 21, 3), (23, .aload_n 0, 1), (24, .getfield 40, 3), (27, .aload_n 0, 1), (28, .getfield 11, 3), (31, .iload_n 1, 1), (32, .aaload, 1), (33, .getfield 111, 3), (36, .aaload, 1), (37, .iconst 1, 1), (38, .putfield 114, 3), (41, .aload_n 0, 1), (42, .getfield 11, 3), (45, .iload_n 1, 1)]
set_option maxRecDepth 20000 in
theorem dn_41_0_0_ok : dn_41_0_0.all (fun q => decide (decode (xm_b n_41) q.1 = .ok (q.2.1, q.2.2))) = true := xa_g_ok (by decide +kernel)
def dn_41_0_1 : List (Nat × Instr × Nat) := [(46, .aaload, 1), (47, .iconst (-1), 1), (48, .putfield 111, 3), (51, .aload_n 0, 1), (52, .getfield 11, 3), (55, .iload_n 1, 1), (56, .aaload, 1), (57, .iconst (-1), 1), (58, .putfield 117, 3), (61, .return_, 1)]
set_option maxRecDepth 20000 in
theorem dn_41_0_1_ok : dn_41_0_1.all (fun q => decide (decode (xm_b n_41) q.1 = .ok (q.2.1, q.2.2))) = true := xa_g_ok (by decide +kernel)
def te_41_0 : Nat → eE := (e_T 31 (e_T 12 (e_T 6 (e_T 1 (e_T 0 (e_L 0 (0, ei_load 0 2 1, 0, 0)) (e_L 1 (0, ei_getf eft elay 3 3 4, 0, 0))) (e_T 4 (e_L 4 (0, ei_push (0, 9) 6, 0, 0)) (e_L 6 (0, ei_load 1 0 7, 0, 0)))) (e_T 8 (e_T 7 (e_L 7 (0, ei_push (0, 0) 8, 0, 0)) (e_L 8 (2, e_nof, 27, 4))) (e_T 11 (e_L 11 (0, ei_load 0 2 12, 0, 0)) (e_L 12 (0, ei_getf eft elay 3 0 15, 0, 0))))) (e_T 20 (e_T 16 (e_T 15 (e_L 15 (0, ei_load 1 0 16, 0, 0)) (e_L 16 (0, ei_aald elay 17, 0, 0))) (e_T 17 (e_L 17 (0, ei_getf eft elay 0 13 20, 0, 0)) (e_L 20 (0, ei_if1 2 41 23, 0, 0)))) (e_T 24 (e_T 23 (e_L 23 (0, ei_load 0 2 24, 0, 0)) (e_L 24 (0, ei_getf eft elay 3 4 27, 0, 0))) (e_T 27 (e_L 27 (0, ei_load 0 2 28, 0, 0)) (e_T 28 (e_L 28 (0, ei_getf eft elay 3 0 31, 0, 0)) (e_L 31 (0, ei_load 1 0 32, 0, 0))))))) (e_T 46 (e_T 37 (e_T 33 (e_T 32 (e_L 32 (0, ei_aald elay 33, 0, 0)) (e_L 33 (0, ei_getf eft elay 0 13 36, 0, 0))) (e_T 36 (e_L 36 (0, ei_aald elay 37, 0, 0)) (e_L 37 (0, ei_push (0, 1) 38, 0, 0)))) (e_T 41 (e_T 38 (e_L 38 (0, ei_putf eft elay 10 10 1 41, 0, 0)) (e_L 41 (0, ei_load 0 2 42, 0, 0))) (e_T 42 (e_L 42 (0, ei_getf eft elay 3 0 45, 0, 0)) (e_T 45 (e_L 45 (0, ei_load 1 0 46, 0, 0)) (e_L 46 (0, ei_aald elay 47, 0, 0)))))) (e_T 52 (e_T 48 (e_T 47 (e_L 47 (0, ei_push (0, (-1)) 48, 0, 0)) (e_L 48 (0, ei_putf eft elay 0 13 0 51, 0, 0))) (e_T 51 (e_L 51 (0, ei_load 0 2 52, 0, 0)) (e_L 52 (0, ei_getf eft elay 3 0 55, 0, 0)))) (e_T 56 (e_T 55 (e_L 55 (0, ei_load 1 0 56, 0, 0)) (e_L 56 (0, ei_aald elay 57, 0, 0))) (e_T 57 (e_L 57 (0, ei_push (0, (-1)) 58, 0, 0)) (e_T 58 (e_L 58 (0, ei_putf eft elay 0 18 0 61, 0, 0)) (e_L 61 (1, e_nof, 0, 0))))))))
set_option maxRecDepth 20000 in
set_option maxHeartbeats 4000000 in
theorem te_41_0_ok : ∀ pc, e_EOq eft cls elay eI n_41 pc (te_41_0 pc) :=
  (e_Tok2
  (e_Tok2
  (e_Tok2
  (e_Tok2
  (e_Tok2
  (e_Lok (ld_aload_n_0 (x_dk dn_41_0_0_ok 0 rfl)))
  (e_Lok (lk_3_34g ho_41 (x_dk dn_41_0_0_ok 1 rfl))))
  (e_Tok2
  (e_Lok (ps_bipush_9 (x_dk dn_41_0_0_ok 2 rfl)))
  (e_Lok (ld_iload_n_1 (x_dk dn_41_0_0_ok 3 rfl)))))
  (e_Tok2
  (e_Tok2
  (e_Lok (ps_iconst_0 (x_dk dn_41_0_0_ok 4 rfl)))
  (e_Lok (lk_3_108 ho_41 (x_dk dn_41_0_0_ok 5 rfl))))
  (e_Tok2
  (e_Lok (ld_aload_n_0 (x_dk dn_41_0_0_ok 6 rfl)))
  (e_Lok (lk_3_11g ho_41 (x_dk dn_41_0_0_ok 7 rfl))))))
  (e_Tok2
  (e_Tok2
  (e_Tok2
  (e_Lok (ld_iload_n_1 (x_dk dn_41_0_0_ok 8 rfl)))
  (e_Lok (e_st (I := eI) (er_aaload (x_dk dn_41_0_0_ok 9 rfl)) nx_aald)))
  (e_Tok2
  (e_Lok (lk_3_111g ho_41 (x_dk dn_41_0_0_ok 10 rfl)))
  (e_Lok (e_st (I := eI) (er_iflt (off := 21) (tg := 41) (x_dk dn_41_0_0_ok 11 rfl) (by decide)) nx_if1))))
  (e_Tok2
  (e_Tok2
  (e_Lok (ld_aload_n_0 (x_dk dn_41_0_0_ok 12 rfl)))
  (e_Lok (lk_3_40g ho_41 (x_dk dn_41_0_0_ok 13 rfl))))
  (e_Tok2
  (e_Lok (ld_aload_n_0 (x_dk dn_41_0_0_ok 14 rfl)))
  (e_Tok2
  (e_Lok (lk_3_11g ho_41 (x_dk dn_41_0_0_ok 15 rfl)))
  (e_Lok (ld_iload_n_1 (x_dk dn_41_0_0_ok 16 rfl))))))))
  (e_Tok2
  (e_Tok2
  (e_Tok2
  (e_Tok2
  (e_Lok (e_st (I := eI) (er_aaload (x_dk dn_41_0_0_ok 17 rfl)) nx_aald))
  (e_Lok (lk_3_111g ho_41 (x_dk dn_41_0_0_ok 18 rfl))))
  (e_Tok2
  (e_Lok (e_st (I := eI) (er_aaload (x_dk dn_41_0_0_ok 19 rfl)) nx_aald))
  (e_Lok (ps_iconst_1 (x_dk dn_41_0_0_ok 20 rfl)))))
  (e_Tok2
  (e_Tok2
  (e_Lok (lk_3_114p ho_41 (x_dk dn_41_0_0_ok 21 rfl)))
  (e_Lok (ld_aload_n_0 (x_dk dn_41_0_0_ok 22 rfl))))
  (e_Tok2
  (e_Lok (lk_3_11g ho_41 (x_dk dn_41_0_0_ok 23 rfl)))
  (e_Tok2
  (e_Lok (ld_iload_n_1 (x_dk dn_41_0_0_ok 24 rfl)))
  (e_Lok (e_st (I := eI) (er_aaload (x_dk dn_41_0_1_ok 0 rfl)) nx_aald))))))
  (e_Tok2
  (e_Tok2
  (e_Tok2
  (e_Lok (ps_iconst_m1 (x_dk dn_41_0_1_ok 1 rfl)))
  (e_Lok (lk_3_111p ho_41 (x_dk dn_41_0_1_ok 2 rfl))))
  (e_Tok2
  (e_Lok (ld_aload_n_0 (x_dk dn_41_0_1_ok 3 rfl)))
  (e_Lok (lk_3_11g ho_41 (x_dk dn_41_0_1_ok 4 rfl)))))
  (e_Tok2
  (e_Tok2
  (e_Lok (ld_iload_n_1 (x_dk dn_41_0_1_ok 5 rfl)))
  (e_Lok (e_st (I := eI) (er_aaload (x_dk dn_41_0_1_ok 6 rfl)) nx_aald)))
  (e_Tok2
  (e_Lok (ps_iconst_m1 (x_dk dn_41_0_1_ok 7 rfl)))
  (e_Tok2
  (e_Lok (lk_3_117p ho_41 (x_dk dn_41_0_1_ok 8 rfl)))
  (e_Lok (e_rt (I := eI) (k := 0) ⟨(x_dk dn_41_0_1_ok 9 rfl), rfl⟩))))))))
def te_41 : Nat → eE := te_41_0
theorem te_41_ok : ∀ pc, e_EOq eft cls elay eI n_41 pc (te_41 pc) := te_41_0_ok
theorem ho_42 : (xm_y n_42).cls = "RobotCellHouse$Doer" := rfl
def dn_42_0_0 : List (Nat × Instr × Nat) := [(0, .aload_n 0, 1), (1, .getfield 40, 3), (4, .iload_n 1, 1), (5, .aaload, 1), (6, .getfield 71, 3), (9, .iconst 1, 1), (10, .iconst 5, 1), (11, .invokestatic 120, 3), (14, .ifCond .ne 5, 3), (17, .iconst 0, 1), (18, .ireturn, 1), (19, .aload_n 0, 1), (20, .getfield 40, 3), (23, .iload_n 1, 1), (24, .aaload, 1), (25, .getfield 124, 3), (28, .aload_n 0, 1), (29, .getfield 34, 3), (32, .getfield 87, 3), (35, .if_icmp .eq 27, 3), (38, .aload_n 0, 1), (39, .getfield 11, 3), (42, .aload_n 0, 1), (43, .getfield 40, 3), (46, .iload_n 1, 1)]
set_option maxRecDepth 20000 in
theorem dn_42_0_0_ok : dn_42_0_0.all (fun q => decide (decode (xm_b n_42) q.1 = .ok (q.2.1, q.2.2))) = true := xa_g_ok (by decide +kernel)
def dn_42_0_1 : List (Nat × Instr × Nat) := [(47, .aaload, 1), (48, .getfield 127, 3), (51, .aaload, 1), (52, .getfield 94, 3), (55, .ifCond .ge 7, 3), (58, .iconst 1, 1), (59, .goto 4, 3), (62, .iconst 0, 1), (63, .ireturn, 1)]
set_option maxRecDepth 20000 in
theorem dn_42_0_1_ok : dn_42_0_1.all (fun q => decide (decode (xm_b n_42) q.1 = .ok (q.2.1, q.2.2))) = true := xa_g_ok (by decide +kernel)
def te_42_0 : Nat → eE := (e_T 28 (e_T 11 (e_T 5 (e_T 1 (e_T 0 (e_L 0 (0, ei_load 0 2 1, 0, 0)) (e_L 1 (0, ei_getf eft elay 3 4 4, 0, 0))) (e_T 4 (e_L 4 (0, ei_load 1 0 5, 0, 0)) (e_L 5 (0, ei_aald elay 6, 0, 0)))) (e_T 9 (e_T 6 (e_L 6 (0, ei_getf eft elay 10 1 9, 0, 0)) (e_L 9 (0, ei_push (0, 1) 10, 0, 0))) (e_T 10 (e_L 10 (0, ei_push (0, 5) 11, 0, 0)) (e_L 11 (2, e_nof, 242, 3))))) (e_T 19 (e_T 17 (e_T 14 (e_L 14 (0, ei_if1 1 19 17, 0, 0)) (e_L 17 (0, ei_push (0, 0) 18, 0, 0))) (e_T 18 (e_L 18 (1, e_nof, 4, 0)) (e_L 19 (0, ei_load 0 2 20, 0, 0)))) (e_T 23 (e_T 20 (e_L 20 (0, ei_getf eft elay 3 4 23, 0, 0)) (e_L 23 (0, ei_load 1 0 24, 0, 0))) (e_T 24 (e_L 24 (0, ei_aald elay 25, 0, 0)) (e_T 25 (e_L 25 (0, ei_getf eft elay 10 7 28, 0, 0)) (e_L 28 (0, ei_load 0 2 29, 0, 0))))))) (e_T 46 (e_T 38 (e_T 32 (e_T 29 (e_L 29 (0, ei_getf eft elay 3 3 32, 0, 0)) (e_L 32 (0, ei_getf eft elay 2 0 35, 0, 0))) (e_T 35 (e_L 35 (0, ei_if2 0 62 38, 0, 0)) (e_L 38 (0, ei_load 0 2 39, 0, 0)))) (e_T 42 (e_T 39 (e_L 39 (0, ei_getf eft elay 3 0 42, 0, 0)) (e_L 42 (0, ei_load 0 2 43, 0, 0))) (e_T 43 (e_L 43 (0, ei_getf eft elay 3 4 46, 0, 0)) (e_L 46 (0, ei_load 1 0 47, 0, 0))))) (e_T 52 (e_T 48 (e_T 47 (e_L 47 (0, ei_aald elay 48, 0, 0)) (e_L 48 (0, ei_getf eft elay 10 2 51, 0, 0))) (e_T 51 (e_L 51 (0, ei_aald elay 52, 0, 0)) (e_L 52 (0, ei_getf eft elay 0 16 55, 0, 0)))) (e_T 58 (e_T 55 (e_L 55 (0, ei_if1 3 62 58, 0, 0)) (e_L 58 (0, ei_push (0, 1) 59, 0, 0))) (e_T 59 (e_L 59 (0, ei_goto 63, 0, 0)) (e_T 62 (e_L 62 (0, ei_push (0, 0) 63, 0, 0)) (e_L 63 (1, e_nof, 4, 0))))))))
set_option maxRecDepth 20000 in
set_option maxHeartbeats 4000000 in
theorem te_42_0_ok : ∀ pc, e_EOq eft cls elay eI n_42 pc (te_42_0 pc) :=
  (e_Tok2
  (e_Tok2
  (e_Tok2
  (e_Tok2
  (e_Tok2
  (e_Lok (ld_aload_n_0 (x_dk dn_42_0_0_ok 0 rfl)))
  (e_Lok (lk_3_40g ho_42 (x_dk dn_42_0_0_ok 1 rfl))))
  (e_Tok2
  (e_Lok (ld_iload_n_1 (x_dk dn_42_0_0_ok 2 rfl)))
  (e_Lok (e_st (I := eI) (er_aaload (x_dk dn_42_0_0_ok 3 rfl)) nx_aald))))
  (e_Tok2
  (e_Tok2
  (e_Lok (lk_3_71g ho_42 (x_dk dn_42_0_0_ok 4 rfl)))
  (e_Lok (ps_iconst_1 (x_dk dn_42_0_0_ok 5 rfl))))
  (e_Tok2
  (e_Lok (ps_iconst_5 (x_dk dn_42_0_0_ok 6 rfl)))
  (e_Lok (lk_3_120 ho_42 (x_dk dn_42_0_0_ok 7 rfl))))))
  (e_Tok2
  (e_Tok2
  (e_Tok2
  (e_Lok (e_st (I := eI) (er_ifne (off := 5) (tg := 19) (x_dk dn_42_0_0_ok 8 rfl) (by decide)) nx_if1))
  (e_Lok (ps_iconst_0 (x_dk dn_42_0_0_ok 9 rfl))))
  (e_Tok2
  (e_Lok (e_rt (I := eI) (k := 4) ⟨(x_dk dn_42_0_0_ok 10 rfl), rfl⟩))
  (e_Lok (ld_aload_n_0 (x_dk dn_42_0_0_ok 11 rfl)))))
  (e_Tok2
  (e_Tok2
  (e_Lok (lk_3_40g ho_42 (x_dk dn_42_0_0_ok 12 rfl)))
  (e_Lok (ld_iload_n_1 (x_dk dn_42_0_0_ok 13 rfl))))
  (e_Tok2
  (e_Lok (e_st (I := eI) (er_aaload (x_dk dn_42_0_0_ok 14 rfl)) nx_aald))
  (e_Tok2
  (e_Lok (lk_3_124g ho_42 (x_dk dn_42_0_0_ok 15 rfl)))
  (e_Lok (ld_aload_n_0 (x_dk dn_42_0_0_ok 16 rfl))))))))
  (e_Tok2
  (e_Tok2
  (e_Tok2
  (e_Tok2
  (e_Lok (lk_3_34g ho_42 (x_dk dn_42_0_0_ok 17 rfl)))
  (e_Lok (lk_3_87g ho_42 (x_dk dn_42_0_0_ok 18 rfl))))
  (e_Tok2
  (e_Lok (e_st (I := eI) (er_icmpeq (off := 27) (tg := 62) (x_dk dn_42_0_0_ok 19 rfl) (by decide)) nx_if2))
  (e_Lok (ld_aload_n_0 (x_dk dn_42_0_0_ok 20 rfl)))))
  (e_Tok2
  (e_Tok2
  (e_Lok (lk_3_11g ho_42 (x_dk dn_42_0_0_ok 21 rfl)))
  (e_Lok (ld_aload_n_0 (x_dk dn_42_0_0_ok 22 rfl))))
  (e_Tok2
  (e_Lok (lk_3_40g ho_42 (x_dk dn_42_0_0_ok 23 rfl)))
  (e_Lok (ld_iload_n_1 (x_dk dn_42_0_0_ok 24 rfl))))))
  (e_Tok2
  (e_Tok2
  (e_Tok2
  (e_Lok (e_st (I := eI) (er_aaload (x_dk dn_42_0_1_ok 0 rfl)) nx_aald))
  (e_Lok (lk_3_127g ho_42 (x_dk dn_42_0_1_ok 1 rfl))))
  (e_Tok2
  (e_Lok (e_st (I := eI) (er_aaload (x_dk dn_42_0_1_ok 2 rfl)) nx_aald))
  (e_Lok (lk_3_94g ho_42 (x_dk dn_42_0_1_ok 3 rfl)))))
  (e_Tok2
  (e_Tok2
  (e_Lok (e_st (I := eI) (er_ifge (off := 7) (tg := 62) (x_dk dn_42_0_1_ok 4 rfl) (by decide)) nx_if1))
  (e_Lok (ps_iconst_1 (x_dk dn_42_0_1_ok 5 rfl))))
  (e_Tok2
  (e_Lok (e_st (I := eI) (er_goto (off := 4) (tg := 63) (x_dk dn_42_0_1_ok 6 rfl) (by decide)) nx_goto))
  (e_Tok2
  (e_Lok (ps_iconst_0 (x_dk dn_42_0_1_ok 7 rfl)))
  (e_Lok (e_rt (I := eI) (k := 4) ⟨(x_dk dn_42_0_1_ok 8 rfl), rfl⟩))))))))
def te_42 : Nat → eE := te_42_0
theorem te_42_ok : ∀ pc, e_EOq eft cls elay eI n_42 pc (te_42 pc) := te_42_0_ok
theorem ho_43 : (xm_y n_43).cls = "RobotCellHouse$Doer" := rfl
def dn_43_0_0 : List (Nat × Instr × Nat) := [(0, .aload_n 0, 1), (1, .getfield 11, 3), (4, .aload_n 1, 1), (5, .getfield 127, 3), (8, .aaload, 1), (9, .getfield 78, 3), (12, .astore_n 2, 1), (13, .aload_n 0, 1), (14, .iconst 0, 1), (15, .putfield 130, 3), (18, .aload_n 0, 1), (19, .iconst 0, 1), (20, .putfield 133, 3), (23, .aload_n 0, 1), (24, .aload_n 1, 1), (25, .invokevirtual 136, 3), (28, .iconst 0, 1), (29, .istore_n 3, 1), (30, .iconst 0, 1), (31, .istore 4, 2), (33, .iload 4, 2), (35, .ldc 140, 2), (37, .if_icmp .ge 197, 3), (40, .aload_n 1, 1), (41, .getfield 71, 3)]
set_option maxRecDepth 20000 in
theorem dn_43_0_0_ok : dn_43_0_0.all (fun q => decide (decode (xm_b n_43) q.1 = .ok (q.2.1, q.2.2))) = true := xa_g_ok (by decide +kernel)
def dn_43_0_1 : List (Nat × Instr × Nat) := [(44, .iconst 1, 1), (45, .if_icmp .ne 189, 3), (48, .aload_n 2, 1), (49, .aload_n 1, 1), (50, .getfield 141, 3), (53, .invokevirtual 144, 3), (56, .istore 5, 2), (58, .aload_n 2, 1), (59, .aload_n 1, 1), (60, .getfield 141, 3), (63, .invokevirtual 148, 3), (66, .istore 6, 2), (68, .aload_n 0, 1), (69, .getfield 130, 3), (72, .ifCond .eq 12, 3), (75, .aload_n 0, 1), (76, .aload_n 1, 1), (77, .aload_n 2, 1), (78, .invokevirtual 151, 3), (81, .goto 147, 3), (84, .iload 5, 2), (86, .bipush 50, 2), (88, .if_icmp .ne 38, 3), (91, .iload_n 3, 1), (92, .bipush 20, 2)]
set_option maxRecDepth 20000 in
theorem dn_43_0_1_ok : dn_43_0_1.all (fun q => decide (decode (xm_b n_43) q.1 = .ok (q.2.1, q.2.2))) = true := xa_g_ok (by decide +kernel)
def dn_43_0_2 : List (Nat × Instr × Nat) := [(94, .if_icmp .ne 4, 3), (97, .return_, 1), (98, .aload_n 0, 1), (99, .aload_n 1, 1), (100, .aload_n 2, 1), (101, .invokevirtual 155, 3), (104, .ifCond .eq 6, 3), (107, .goto 121, 3), (110, .iinc 3 1, 3), (113, .aload_n 1, 1), (114, .dup, 1), (115, .getfield 141, 3), (118, .iconst 1, 1), (119, .iadd, 1), (120, .putfield 141, 3), (123, .goto 105, 3), (126, .aload_n 1, 1), (127, .dup, 1), (128, .getfield 141, 3), (131, .iconst 1, 1), (132, .iadd, 1), (133, .putfield 141, 3), (136, .iload 5, 2), (138, .bipush 8, 2), (140, .if_icmp .gt 15, 3)]
set_option maxRecDepth 20000 in
theorem dn_43_0_2_ok : dn_43_0_2.all (fun q => decide (decode (xm_b n_43) q.1 = .ok (q.2.1, q.2.2))) = true := xa_g_ok (by decide +kernel)
def dn_43_0_3 : List (Nat × Instr × Nat) := [(143, .aload_n 0, 1), (144, .aload_n 1, 1), (145, .iload 5, 2), (147, .iload 6, 2), (149, .invokevirtual 159, 3), (152, .goto 76, 3), (155, .iload 5, 2), (157, .bipush 13, 2), (159, .if_icmp .gt 15, 3), (162, .aload_n 0, 1), (163, .aload_n 1, 1), (164, .iload 5, 2), (166, .iload 6, 2), (168, .invokevirtual 163, 3), (171, .goto 57, 3), (174, .iload 5, 2), (176, .bipush 24, 2), (178, .if_icmp .gt 20, 3), (181, .aload_n 0, 1), (182, .iload 5, 2), (184, .aload_n 0, 1), (185, .invokevirtual 166, 3), (188, .aload_n 0, 1), (189, .invokevirtual 166, 3), (192, .invokevirtual 169, 3)]
set_option maxRecDepth 20000 in
theorem dn_43_0_3_ok : dn_43_0_3.all (fun q => decide (decode (xm_b n_43) q.1 = .ok (q.2.1, q.2.2))) = true := xa_g_ok (by decide +kernel)
def dn_43_1_0 : List (Nat × Instr × Nat) := [(195, .goto 33, 3), (198, .iload 5, 2), (200, .bipush 39, 2), (202, .if_icmp .gt 16, 3), (205, .aload_n 0, 1), (206, .aload_n 1, 1), (207, .aload_n 2, 1), (208, .iload 5, 2), (210, .iload 6, 2), (212, .invokevirtual 172, 3), (215, .goto 13, 3), (218, .aload_n 0, 1), (219, .aload_n 1, 1), (220, .aload_n 2, 1), (221, .iload 5, 2), (223, .iload 6, 2), (225, .invokevirtual 176, 3), (228, .iinc 4 1, 3), (231, .goto (-198), 3), (234, .return_, 1)]
set_option maxRecDepth 20000 in
theorem dn_43_1_0_ok : dn_43_1_0.all (fun q => decide (decode (xm_b n_43) q.1 = .ok (q.2.1, q.2.2))) = true := xa_g_ok (by decide +kernel)
def te_43_0 : Nat → eE := (e_T 24 (e_T 12 (e_T 4 (e_T 0 (e_L 0 (0, ei_load 0 2 1, 0, 0)) (e_T 1 (e_L 1 (0, ei_getf eft elay 3 0 4, 0, 0)) (e_L 4 (0, ei_load 1 2 5, 0, 0)))) (e_T 8 (e_T 5 (e_L 5 (0, ei_getf eft elay 10 2 8, 0, 0)) (e_L 8 (0, ei_aald elay 9, 0, 0))) (e_T 9 (e_L 9 (0, ei_getf eft elay 0 7 12, 0, 0)) (e_L 12 (0, ei_stor 2 2 13, 0, 0))))) (e_T 18 (e_T 14 (e_T 13 (e_L 13 (0, ei_load 0 2 14, 0, 0)) (e_L 14 (0, ei_push (0, 0) 15, 0, 0))) (e_T 15 (e_L 15 (0, ei_putf eft elay 3 11 1 18, 0, 0)) (e_L 18 (0, ei_load 0 2 19, 0, 0)))) (e_T 20 (e_T 19 (e_L 19 (0, ei_push (0, 0) 20, 0, 0)) (e_L 20 (0, ei_putf eft elay 3 8 0 23, 0, 0))) (e_T 23 (e_L 23 (0, ei_load 0 2 24, 0, 0)) (e_L 24 (0, ei_load 1 2 25, 0, 0)))))) (e_T 35 (e_T 29 (e_T 25 (e_L 25 (2, e_nof, 45, 2)) (e_T 28 (e_L 28 (0, ei_push (0, 0) 29, 0, 0)) (e_L 29 (0, ei_stor 3 0 30, 0, 0)))) (e_T 31 (e_T 30 (e_L 30 (0, ei_push (0, 0) 31, 0, 0)) (e_L 31 (0, ei_stor 4 0 33, 0, 0))) (e_T 33 (e_L 33 (0, ei_load 4 0 35, 0, 0)) (e_L 35 (0, ei_push (0, 1000000) 37, 0, 0))))) (e_T 44 (e_T 40 (e_T 37 (e_L 37 (0, ei_if2 3 234 40, 0, 0)) (e_L 40 (0, ei_load 1 2 41, 0, 0))) (e_T 41 (e_L 41 (0, ei_getf eft elay 10 1 44, 0, 0)) (e_L 44 (0, ei_push (0, 1) 45, 0, 0)))) (e_T 48 (e_T 45 (e_L 45 (0, ei_if2 1 234 48, 0, 0)) (e_L 48 (0, ei_load 2 2 49, 0, 0))) (e_T 49 (e_L 49 (0, ei_load 1 2 50, 0, 0)) (e_L 50 (0, ei_getf eft elay 10 3 53, 0, 0)))))))
set_option maxRecDepth 20000 in
set_option maxHeartbeats 4000000 in
theorem te_43_0_ok : ∀ pc, e_EOq eft cls elay eI n_43 pc (te_43_0 pc) :=
  (e_Tok2
  (e_Tok2
  (e_Tok2
  (e_Tok2
  (e_Lok (ld_aload_n_0 (x_dk dn_43_0_0_ok 0 rfl)))
  (e_Tok2
  (e_Lok (lk_3_11g ho_43 (x_dk dn_43_0_0_ok 1 rfl)))
  (e_Lok (ld_aload_n_1 (x_dk dn_43_0_0_ok 2 rfl)))))
  (e_Tok2
  (e_Tok2
  (e_Lok (lk_3_127g ho_43 (x_dk dn_43_0_0_ok 3 rfl)))
  (e_Lok (e_st (I := eI) (er_aaload (x_dk dn_43_0_0_ok 4 rfl)) nx_aald)))
  (e_Tok2
  (e_Lok (lk_3_78g ho_43 (x_dk dn_43_0_0_ok 5 rfl)))
  (e_Lok (e_st (I := eI) (er_astore_n (i := 2) (x_dk dn_43_0_0_ok 6 rfl) (by decide +kernel)) nx_stor)))))
  (e_Tok2
  (e_Tok2
  (e_Tok2
  (e_Lok (ld_aload_n_0 (x_dk dn_43_0_0_ok 7 rfl)))
  (e_Lok (ps_iconst_0 (x_dk dn_43_0_0_ok 8 rfl))))
  (e_Tok2
  (e_Lok (lk_3_130p ho_43 (x_dk dn_43_0_0_ok 9 rfl)))
  (e_Lok (ld_aload_n_0 (x_dk dn_43_0_0_ok 10 rfl)))))
  (e_Tok2
  (e_Tok2
  (e_Lok (ps_iconst_0 (x_dk dn_43_0_0_ok 11 rfl)))
  (e_Lok (lk_3_133p ho_43 (x_dk dn_43_0_0_ok 12 rfl))))
  (e_Tok2
  (e_Lok (ld_aload_n_0 (x_dk dn_43_0_0_ok 13 rfl)))
  (e_Lok (ld_aload_n_1 (x_dk dn_43_0_0_ok 14 rfl)))))))
  (e_Tok2
  (e_Tok2
  (e_Tok2
  (e_Lok (lk_3_136 ho_43 (x_dk dn_43_0_0_ok 15 rfl)))
  (e_Tok2
  (e_Lok (ps_iconst_0 (x_dk dn_43_0_0_ok 16 rfl)))
  (e_Lok (e_st (I := eI) (er_istore_n (i := 3) (x_dk dn_43_0_0_ok 17 rfl) (by decide +kernel)) nx_stor))))
  (e_Tok2
  (e_Tok2
  (e_Lok (ps_iconst_0 (x_dk dn_43_0_0_ok 18 rfl)))
  (e_Lok (e_st (I := eI) (er_istore (i := 4) (x_dk dn_43_0_0_ok 19 rfl) (by decide +kernel)) nx_stor)))
  (e_Tok2
  (e_Lok (ld_iload_4 (x_dk dn_43_0_0_ok 20 rfl)))
  (e_Lok (e_st (I := eI) (er_ldc (ix := 140) (z := 1000000) (v := 1000000) (x_dk dn_43_0_0_ok 21 rfl) (in_t7 (List.mem_of_getElem? (i := 76) rfl) rfl) (by decide)) (nx_push (Or.inl rfl)))))))
  (e_Tok2
  (e_Tok2
  (e_Tok2
  (e_Lok (e_st (I := eI) (er_icmpge (off := 197) (tg := 234) (x_dk dn_43_0_0_ok 22 rfl) (by decide)) nx_if2))
  (e_Lok (ld_aload_n_1 (x_dk dn_43_0_0_ok 23 rfl))))
  (e_Tok2
  (e_Lok (lk_3_71g ho_43 (x_dk dn_43_0_0_ok 24 rfl)))
  (e_Lok (ps_iconst_1 (x_dk dn_43_0_1_ok 0 rfl)))))
  (e_Tok2
  (e_Tok2
  (e_Lok (e_st (I := eI) (er_icmpne (off := 189) (tg := 234) (x_dk dn_43_0_1_ok 1 rfl) (by decide)) nx_if2))
  (e_Lok (ld_aload_n_2 (x_dk dn_43_0_1_ok 2 rfl))))
  (e_Tok2
  (e_Lok (ld_aload_n_1 (x_dk dn_43_0_1_ok 3 rfl)))
  (e_Lok (lk_3_141g ho_43 (x_dk dn_43_0_1_ok 4 rfl))))))))
def te_43_30 : Nat → eE := (e_T 81 (e_T 66 (e_T 58 (e_T 53 (e_L 53 (2, e_nof, 23, 2)) (e_T 56 (e_L 56 (0, ei_stor 5 0 58, 0, 0)) (e_L 58 (0, ei_load 2 2 59, 0, 0)))) (e_T 60 (e_T 59 (e_L 59 (0, ei_load 1 2 60, 0, 0)) (e_L 60 (0, ei_getf eft elay 10 3 63, 0, 0))) (e_T 63 (e_L 63 (2, e_nof, 24, 2)) (e_L 66 (0, ei_stor 6 0 68, 0, 0))))) (e_T 75 (e_T 69 (e_T 68 (e_L 68 (0, ei_load 0 2 69, 0, 0)) (e_L 69 (0, ei_getf eft elay 3 11 72, 0, 0))) (e_T 72 (e_L 72 (0, ei_if1 0 84 75, 0, 0)) (e_L 75 (0, ei_load 0 2 76, 0, 0)))) (e_T 77 (e_T 76 (e_L 76 (0, ei_load 1 2 77, 0, 0)) (e_L 77 (0, ei_load 2 2 78, 0, 0))) (e_T 78 (e_L 78 (2, e_nof, 44, 3)) (e_L 81 (0, ei_goto 228, 0, 0)))))) (e_T 97 (e_T 88 (e_T 84 (e_L 84 (0, ei_load 5 0 86, 0, 0)) (e_T 86 (e_L 86 (0, ei_push (0, 50) 88, 0, 0)) (e_L 88 (0, ei_if2 1 126 91, 0, 0)))) (e_T 92 (e_T 91 (e_L 91 (0, ei_load 3 0 92, 0, 0)) (e_L 92 (0, ei_push (0, 20) 94, 0, 0))) (e_T 94 (e_L 94 (0, ei_if2 1 98 97, 0, 0)) (e_L 97 (1, e_nof, 0, 0))))) (e_T 101 (e_T 99 (e_T 98 (e_L 98 (0, ei_load 0 2 99, 0, 0)) (e_L 99 (0, ei_load 1 2 100, 0, 0))) (e_T 100 (e_L 100 (0, ei_load 2 2 101, 0, 0)) (e_L 101 (2, e_nof, 47, 3)))) (e_T 107 (e_T 104 (e_L 104 (0, ei_if1 0 110 107, 0, 0)) (e_L 107 (0, ei_goto 228, 0, 0))) (e_T 110 (e_L 110 (0, ei_inc 3 1 113, 0, 0)) (e_L 113 (0, ei_load 1 2 114, 0, 0)))))))
set_option maxRecDepth 20000 in
set_option maxHeartbeats 4000000 in
theorem te_43_30_ok : ∀ pc, e_EOq eft cls elay eI n_43 pc (te_43_30 pc) :=
  (e_Tok2
  (e_Tok2
  (e_Tok2
  (e_Tok2
  (e_Lok (lk_3_144 ho_43 (x_dk dn_43_0_1_ok 5 rfl)))
  (e_Tok2
  (e_Lok (e_st (I := eI) (er_istore (i := 5) (x_dk dn_43_0_1_ok 6 rfl) (by decide +kernel)) nx_stor))
  (e_Lok (ld_aload_n_2 (x_dk dn_43_0_1_ok 7 rfl)))))
  (e_Tok2
  (e_Tok2
  (e_Lok (ld_aload_n_1 (x_dk dn_43_0_1_ok 8 rfl)))
  (e_Lok (lk_3_141g ho_43 (x_dk dn_43_0_1_ok 9 rfl))))
  (e_Tok2
  (e_Lok (lk_3_148 ho_43 (x_dk dn_43_0_1_ok 10 rfl)))
  (e_Lok (e_st (I := eI) (er_istore (i := 6) (x_dk dn_43_0_1_ok 11 rfl) (by decide +kernel)) nx_stor)))))
  (e_Tok2
  (e_Tok2
  (e_Tok2
  (e_Lok (ld_aload_n_0 (x_dk dn_43_0_1_ok 12 rfl)))
  (e_Lok (lk_3_130g ho_43 (x_dk dn_43_0_1_ok 13 rfl))))
  (e_Tok2
  (e_Lok (e_st (I := eI) (er_ifeq (off := 12) (tg := 84) (x_dk dn_43_0_1_ok 14 rfl) (by decide)) nx_if1))
  (e_Lok (ld_aload_n_0 (x_dk dn_43_0_1_ok 15 rfl)))))
  (e_Tok2
  (e_Tok2
  (e_Lok (ld_aload_n_1 (x_dk dn_43_0_1_ok 16 rfl)))
  (e_Lok (ld_aload_n_2 (x_dk dn_43_0_1_ok 17 rfl))))
  (e_Tok2
  (e_Lok (lk_3_151 ho_43 (x_dk dn_43_0_1_ok 18 rfl)))
  (e_Lok (e_st (I := eI) (er_goto (off := 147) (tg := 228) (x_dk dn_43_0_1_ok 19 rfl) (by decide)) nx_goto))))))
  (e_Tok2
  (e_Tok2
  (e_Tok2
  (e_Lok (ld_iload_5 (x_dk dn_43_0_1_ok 20 rfl)))
  (e_Tok2
  (e_Lok (ps_bipush_50 (x_dk dn_43_0_1_ok 21 rfl)))
  (e_Lok (e_st (I := eI) (er_icmpne (off := 38) (tg := 126) (x_dk dn_43_0_1_ok 22 rfl) (by decide)) nx_if2))))
  (e_Tok2
  (e_Tok2
  (e_Lok (ld_iload_n_3 (x_dk dn_43_0_1_ok 23 rfl)))
  (e_Lok (ps_bipush_20 (x_dk dn_43_0_1_ok 24 rfl))))
  (e_Tok2
  (e_Lok (e_st (I := eI) (er_icmpne (off := 4) (tg := 98) (x_dk dn_43_0_2_ok 0 rfl) (by decide)) nx_if2))
  (e_Lok (e_rt (I := eI) (k := 0) ⟨(x_dk dn_43_0_2_ok 1 rfl), rfl⟩)))))
  (e_Tok2
  (e_Tok2
  (e_Tok2
  (e_Lok (ld_aload_n_0 (x_dk dn_43_0_2_ok 2 rfl)))
  (e_Lok (ld_aload_n_1 (x_dk dn_43_0_2_ok 3 rfl))))
  (e_Tok2
  (e_Lok (ld_aload_n_2 (x_dk dn_43_0_2_ok 4 rfl)))
  (e_Lok (lk_3_155 ho_43 (x_dk dn_43_0_2_ok 5 rfl)))))
  (e_Tok2
  (e_Tok2
  (e_Lok (e_st (I := eI) (er_ifeq (off := 6) (tg := 110) (x_dk dn_43_0_2_ok 6 rfl) (by decide)) nx_if1))
  (e_Lok (e_st (I := eI) (er_goto (off := 121) (tg := 228) (x_dk dn_43_0_2_ok 7 rfl) (by decide)) nx_goto)))
  (e_Tok2
  (e_Lok (e_st (I := eI) (er_iinc (i := 3) (n := 1) (x_dk dn_43_0_2_ok 8 rfl) (by decide +kernel) (by decide)) nx_inc))
  (e_Lok (ld_aload_n_1 (x_dk dn_43_0_2_ok 9 rfl))))))))
def te_43_60 : Nat → eE := (e_T 140 (e_T 126 (e_T 118 (e_T 114 (e_L 114 (0, ei_stk ef_dup 115, 0, 0)) (e_T 115 (e_L 115 (0, ei_getf eft elay 10 3 118, 0, 0)) (e_L 118 (0, ei_push (0, 1) 119, 0, 0)))) (e_T 120 (e_T 119 (e_L 119 (0, ei_bin eF_add 120, 0, 0)) (e_L 120 (0, ei_putf eft elay 10 3 0 123, 0, 0))) (e_T 123 (e_L 123 (0, ei_goto 228, 0, 0)) (e_L 126 (0, ei_load 1 2 127, 0, 0))))) (e_T 132 (e_T 128 (e_T 127 (e_L 127 (0, ei_stk ef_dup 128, 0, 0)) (e_L 128 (0, ei_getf eft elay 10 3 131, 0, 0))) (e_T 131 (e_L 131 (0, ei_push (0, 1) 132, 0, 0)) (e_L 132 (0, ei_bin eF_add 133, 0, 0)))) (e_T 136 (e_T 133 (e_L 133 (0, ei_putf eft elay 10 3 0 136, 0, 0)) (e_L 136 (0, ei_load 5 0 138, 0, 0))) (e_T 138 (e_L 138 (0, ei_push (0, 8) 140, 0, 0)) (e_L 140 (0, ei_if2 4 155 143, 0, 0)))))) (e_T 155 (e_T 145 (e_T 143 (e_L 143 (0, ei_load 0 2 144, 0, 0)) (e_T 144 (e_L 144 (0, ei_load 1 2 145, 0, 0)) (e_L 145 (0, ei_load 5 0 147, 0, 0)))) (e_T 149 (e_T 147 (e_L 147 (0, ei_load 6 0 149, 0, 0)) (e_L 149 (2, e_nof, 54, 4))) (e_T 152 (e_L 152 (0, ei_goto 228, 0, 0)) (e_L 155 (0, ei_load 5 0 157, 0, 0))))) (e_T 163 (e_T 159 (e_T 157 (e_L 157 (0, ei_push (0, 13) 159, 0, 0)) (e_L 159 (0, ei_if2 4 174 162, 0, 0))) (e_T 162 (e_L 162 (0, ei_load 0 2 163, 0, 0)) (e_L 163 (0, ei_load 1 2 164, 0, 0)))) (e_T 166 (e_T 164 (e_L 164 (0, ei_load 5 0 166, 0, 0)) (e_L 166 (0, ei_load 6 0 168, 0, 0))) (e_T 168 (e_L 168 (2, e_nof, 57, 4)) (e_L 171 (0, ei_goto 228, 0, 0)))))))
set_option maxRecDepth 20000 in
set_option maxHeartbeats 4000000 in
theorem te_43_60_ok : ∀ pc, e_EOq eft cls elay eI n_43 pc (te_43_60 pc) :=
  (e_Tok2
  (e_Tok2
  (e_Tok2
  (e_Tok2
  (e_Lok (e_st (I := eI) (er_dup (x_dk dn_43_0_2_ok 10 rfl)) (nx_stk bf_dup)))
  (e_Tok2
  (e_Lok (lk_3_141g ho_43 (x_dk dn_43_0_2_ok 11 rfl)))
  (e_Lok (ps_iconst_1 (x_dk dn_43_0_2_ok 12 rfl)))))
  (e_Tok2
  (e_Tok2
  (e_Lok (sm_iadd (x_dk dn_43_0_2_ok 13 rfl)))
  (e_Lok (lk_3_141p ho_43 (x_dk dn_43_0_2_ok 14 rfl))))
  (e_Tok2
  (e_Lok (e_st (I := eI) (er_goto (off := 105) (tg := 228) (x_dk dn_43_0_2_ok 15 rfl) (by decide)) nx_goto))
  (e_Lok (ld_aload_n_1 (x_dk dn_43_0_2_ok 16 rfl))))))
  (e_Tok2
  (e_Tok2
  (e_Tok2
  (e_Lok (e_st (I := eI) (er_dup (x_dk dn_43_0_2_ok 17 rfl)) (nx_stk bf_dup)))
  (e_Lok (lk_3_141g ho_43 (x_dk dn_43_0_2_ok 18 rfl))))
  (e_Tok2
  (e_Lok (ps_iconst_1 (x_dk dn_43_0_2_ok 19 rfl)))
  (e_Lok (sm_iadd (x_dk dn_43_0_2_ok 20 rfl)))))
  (e_Tok2
  (e_Tok2
  (e_Lok (lk_3_141p ho_43 (x_dk dn_43_0_2_ok 21 rfl)))
  (e_Lok (ld_iload_5 (x_dk dn_43_0_2_ok 22 rfl))))
  (e_Tok2
  (e_Lok (ps_bipush_8 (x_dk dn_43_0_2_ok 23 rfl)))
  (e_Lok (e_st (I := eI) (er_icmpgt (off := 15) (tg := 155) (x_dk dn_43_0_2_ok 24 rfl) (by decide)) nx_if2))))))
  (e_Tok2
  (e_Tok2
  (e_Tok2
  (e_Lok (ld_aload_n_0 (x_dk dn_43_0_3_ok 0 rfl)))
  (e_Tok2
  (e_Lok (ld_aload_n_1 (x_dk dn_43_0_3_ok 1 rfl)))
  (e_Lok (ld_iload_5 (x_dk dn_43_0_3_ok 2 rfl)))))
  (e_Tok2
  (e_Tok2
  (e_Lok (ld_iload_6 (x_dk dn_43_0_3_ok 3 rfl)))
  (e_Lok (lk_3_159 ho_43 (x_dk dn_43_0_3_ok 4 rfl))))
  (e_Tok2
  (e_Lok (e_st (I := eI) (er_goto (off := 76) (tg := 228) (x_dk dn_43_0_3_ok 5 rfl) (by decide)) nx_goto))
  (e_Lok (ld_iload_5 (x_dk dn_43_0_3_ok 6 rfl))))))
  (e_Tok2
  (e_Tok2
  (e_Tok2
  (e_Lok (ps_bipush_13 (x_dk dn_43_0_3_ok 7 rfl)))
  (e_Lok (e_st (I := eI) (er_icmpgt (off := 15) (tg := 174) (x_dk dn_43_0_3_ok 8 rfl) (by decide)) nx_if2)))
  (e_Tok2
  (e_Lok (ld_aload_n_0 (x_dk dn_43_0_3_ok 9 rfl)))
  (e_Lok (ld_aload_n_1 (x_dk dn_43_0_3_ok 10 rfl)))))
  (e_Tok2
  (e_Tok2
  (e_Lok (ld_iload_5 (x_dk dn_43_0_3_ok 11 rfl)))
  (e_Lok (ld_iload_6 (x_dk dn_43_0_3_ok 12 rfl))))
  (e_Tok2
  (e_Lok (lk_3_163 ho_43 (x_dk dn_43_0_3_ok 13 rfl)))
  (e_Lok (e_st (I := eI) (er_goto (off := 57) (tg := 228) (x_dk dn_43_0_3_ok 14 rfl) (by decide)) nx_goto)))))))
def te_43_90 : Nat → eE := (e_T 205 (e_T 185 (e_T 178 (e_T 174 (e_L 174 (0, ei_load 5 0 176, 0, 0)) (e_T 176 (e_L 176 (0, ei_push (0, 24) 178, 0, 0)) (e_L 178 (0, ei_if2 4 198 181, 0, 0)))) (e_T 182 (e_T 181 (e_L 181 (0, ei_load 0 2 182, 0, 0)) (e_L 182 (0, ei_load 5 0 184, 0, 0))) (e_T 184 (e_L 184 (0, ei_load 0 2 185, 0, 0)) (e_L 185 (2, e_nof, 53, 1))))) (e_T 195 (e_T 189 (e_T 188 (e_L 188 (0, ei_load 0 2 189, 0, 0)) (e_L 189 (2, e_nof, 53, 1))) (e_T 192 (e_L 192 (2, e_nof, 58, 4)) (e_L 195 (0, ei_goto 228, 0, 0)))) (e_T 200 (e_T 198 (e_L 198 (0, ei_load 5 0 200, 0, 0)) (e_L 200 (0, ei_push (0, 39) 202, 0, 0))) (e_T 202 (e_L 202 (0, ei_if2 4 218 205, 0, 0)) (e_L 205 (0, ei_load 0 2 206, 0, 0)))))) (e_T 218 (e_T 208 (e_T 206 (e_L 206 (0, ei_load 1 2 207, 0, 0)) (e_T 207 (e_L 207 (0, ei_load 2 2 208, 0, 0)) (e_L 208 (0, ei_load 5 0 210, 0, 0)))) (e_T 212 (e_T 210 (e_L 210 (0, ei_load 6 0 212, 0, 0)) (e_L 212 (2, e_nof, 59, 5))) (e_T 215 (e_L 215 (0, ei_goto 228, 0, 0)) (e_L 218 (0, ei_load 0 2 219, 0, 0))))) (e_T 223 (e_T 220 (e_T 219 (e_L 219 (0, ei_load 1 2 220, 0, 0)) (e_L 220 (0, ei_load 2 2 221, 0, 0))) (e_T 221 (e_L 221 (0, ei_load 5 0 223, 0, 0)) (e_L 223 (0, ei_load 6 0 225, 0, 0)))) (e_T 228 (e_T 225 (e_L 225 (2, e_nof, 71, 5)) (e_L 228 (0, ei_inc 4 1 231, 0, 0))) (e_T 231 (e_L 231 (0, ei_goto 33, 0, 0)) (e_L 234 (1, e_nof, 0, 0)))))))
set_option maxRecDepth 20000 in
set_option maxHeartbeats 4000000 in
theorem te_43_90_ok : ∀ pc, e_EOq eft cls elay eI n_43 pc (te_43_90 pc) :=
  (e_Tok2
  (e_Tok2
  (e_Tok2
  (e_Tok2
  (e_Lok (ld_iload_5 (x_dk dn_43_0_3_ok 15 rfl)))
  (e_Tok2
  (e_Lok (ps_bipush_24 (x_dk dn_43_0_3_ok 16 rfl)))
  (e_Lok (e_st (I := eI) (er_icmpgt (off := 20) (tg := 198) (x_dk dn_43_0_3_ok 17 rfl) (by decide)) nx_if2))))
  (e_Tok2
  (e_Tok2
  (e_Lok (ld_aload_n_0 (x_dk dn_43_0_3_ok 18 rfl)))
  (e_Lok (ld_iload_5 (x_dk dn_43_0_3_ok 19 rfl))))
  (e_Tok2
  (e_Lok (ld_aload_n_0 (x_dk dn_43_0_3_ok 20 rfl)))
  (e_Lok (lk_3_166 ho_43 (x_dk dn_43_0_3_ok 21 rfl))))))
  (e_Tok2
  (e_Tok2
  (e_Tok2
  (e_Lok (ld_aload_n_0 (x_dk dn_43_0_3_ok 22 rfl)))
  (e_Lok (lk_3_166 ho_43 (x_dk dn_43_0_3_ok 23 rfl))))
  (e_Tok2
  (e_Lok (lk_3_169 ho_43 (x_dk dn_43_0_3_ok 24 rfl)))
  (e_Lok (e_st (I := eI) (er_goto (off := 33) (tg := 228) (x_dk dn_43_1_0_ok 0 rfl) (by decide)) nx_goto))))
  (e_Tok2
  (e_Tok2
  (e_Lok (ld_iload_5 (x_dk dn_43_1_0_ok 1 rfl)))
  (e_Lok (ps_bipush_39 (x_dk dn_43_1_0_ok 2 rfl))))
  (e_Tok2
  (e_Lok (e_st (I := eI) (er_icmpgt (off := 16) (tg := 218) (x_dk dn_43_1_0_ok 3 rfl) (by decide)) nx_if2))
  (e_Lok (ld_aload_n_0 (x_dk dn_43_1_0_ok 4 rfl)))))))
  (e_Tok2
  (e_Tok2
  (e_Tok2
  (e_Lok (ld_aload_n_1 (x_dk dn_43_1_0_ok 5 rfl)))
  (e_Tok2
  (e_Lok (ld_aload_n_2 (x_dk dn_43_1_0_ok 6 rfl)))
  (e_Lok (ld_iload_5 (x_dk dn_43_1_0_ok 7 rfl)))))
  (e_Tok2
  (e_Tok2
  (e_Lok (ld_iload_6 (x_dk dn_43_1_0_ok 8 rfl)))
  (e_Lok (lk_3_172 ho_43 (x_dk dn_43_1_0_ok 9 rfl))))
  (e_Tok2
  (e_Lok (e_st (I := eI) (er_goto (off := 13) (tg := 228) (x_dk dn_43_1_0_ok 10 rfl) (by decide)) nx_goto))
  (e_Lok (ld_aload_n_0 (x_dk dn_43_1_0_ok 11 rfl))))))
  (e_Tok2
  (e_Tok2
  (e_Tok2
  (e_Lok (ld_aload_n_1 (x_dk dn_43_1_0_ok 12 rfl)))
  (e_Lok (ld_aload_n_2 (x_dk dn_43_1_0_ok 13 rfl))))
  (e_Tok2
  (e_Lok (ld_iload_5 (x_dk dn_43_1_0_ok 14 rfl)))
  (e_Lok (ld_iload_6 (x_dk dn_43_1_0_ok 15 rfl)))))
  (e_Tok2
  (e_Tok2
  (e_Lok (lk_3_176 ho_43 (x_dk dn_43_1_0_ok 16 rfl)))
  (e_Lok (e_st (I := eI) (er_iinc (i := 4) (n := 1) (x_dk dn_43_1_0_ok 17 rfl) (by decide +kernel) (by decide)) nx_inc)))
  (e_Tok2
  (e_Lok (e_st (I := eI) (er_goto (off := (-198)) (tg := 33) (x_dk dn_43_1_0_ok 18 rfl) (by decide)) nx_goto))
  (e_Lok (e_rt (I := eI) (k := 0) ⟨(x_dk dn_43_1_0_ok 19 rfl), rfl⟩)))))))
def te_43 : Nat → eE := (e_T 113 (e_T 50 te_43_0 te_43_30) (e_T 171 te_43_60 te_43_90))
theorem te_43_ok : ∀ pc, e_EOq eft cls elay eI n_43 pc (te_43 pc) := (e_Tok2 ((e_Tok2 (te_43_0_ok) (te_43_30_ok))) ((e_Tok2 (te_43_60_ok) (te_43_90_ok))))
theorem ho_44 : (xm_y n_44).cls = "RobotCellHouse$Doer" := rfl
def dn_44_0_0 : List (Nat × Instr × Nat) := [(0, .aload_n 0, 1), (1, .iconst 0, 1), (2, .putfield 130, 3), (5, .aload_n 0, 1), (6, .iconst 0, 1), (7, .putfield 133, 3), (10, .aload_n 1, 1), (11, .aload_n 2, 1), (12, .iconst 1, 1), (13, .aload_n 0, 1), (14, .getfield 179, 3), (17, .invokevirtual 182, 3), (20, .ifCond .ne 12, 3), (23, .aload_n 0, 1), (24, .aload_n 1, 1), (25, .aload_n 0, 1), (26, .getfield 179, 3), (29, .invokevirtual 186, 3), (32, .return_, 1)]
set_option maxRecDepth 20000 in
theorem dn_44_0_0_ok : dn_44_0_0.all (fun q => decide (decode (xm_b n_44) q.1 = .ok (q.2.1, q.2.2))) = true := xa_g_ok (by decide +kernel)
def te_44_0 : Nat → eE := (e_T 12 (e_T 5 (e_T 1 (e_T 0 (e_L 0 (0, ei_load 0 2 1, 0, 0)) (e_L 1 (0, ei_push (0, 0) 2, 0, 0))) (e_T 2 (e_L 2 (0, ei_putf eft elay 3 11 1 5, 0, 0)) (e_L 5 (0, ei_load 0 2 6, 0, 0)))) (e_T 7 (e_T 6 (e_L 6 (0, ei_push (0, 0) 7, 0, 0)) (e_L 7 (0, ei_putf eft elay 3 8 0 10, 0, 0))) (e_T 10 (e_L 10 (0, ei_load 1 2 11, 0, 0)) (e_T 11 (e_L 11 (0, ei_load 2 2 12, 0, 0)) (e_L 12 (0, ei_push (0, 1) 13, 0, 0)))))) (e_T 23 (e_T 14 (e_T 13 (e_L 13 (0, ei_load 0 2 14, 0, 0)) (e_L 14 (0, ei_getf eft elay 3 10 17, 0, 0))) (e_T 17 (e_L 17 (2, e_nof, 188, 4)) (e_T 20 (e_L 20 (0, ei_if1 1 32 23, 0, 0)) (e_L 23 (0, ei_load 0 2 24, 0, 0))))) (e_T 25 (e_T 24 (e_L 24 (0, ei_load 1 2 25, 0, 0)) (e_L 25 (0, ei_load 0 2 26, 0, 0))) (e_T 26 (e_L 26 (0, ei_getf eft elay 3 10 29, 0, 0)) (e_T 29 (e_L 29 (2, e_nof, 48, 3)) (e_L 32 (1, e_nof, 0, 0)))))))
set_option maxRecDepth 20000 in
set_option maxHeartbeats 4000000 in
theorem te_44_0_ok : ∀ pc, e_EOq eft cls elay eI n_44 pc (te_44_0 pc) :=
  (e_Tok2
  (e_Tok2
  (e_Tok2
  (e_Tok2
  (e_Lok (ld_aload_n_0 (x_dk dn_44_0_0_ok 0 rfl)))
  (e_Lok (ps_iconst_0 (x_dk dn_44_0_0_ok 1 rfl))))
  (e_Tok2
  (e_Lok (lk_3_130p ho_44 (x_dk dn_44_0_0_ok 2 rfl)))
  (e_Lok (ld_aload_n_0 (x_dk dn_44_0_0_ok 3 rfl)))))
  (e_Tok2
  (e_Tok2
  (e_Lok (ps_iconst_0 (x_dk dn_44_0_0_ok 4 rfl)))
  (e_Lok (lk_3_133p ho_44 (x_dk dn_44_0_0_ok 5 rfl))))
  (e_Tok2
  (e_Lok (ld_aload_n_1 (x_dk dn_44_0_0_ok 6 rfl)))
  (e_Tok2
  (e_Lok (ld_aload_n_2 (x_dk dn_44_0_0_ok 7 rfl)))
  (e_Lok (ps_iconst_1 (x_dk dn_44_0_0_ok 8 rfl)))))))
  (e_Tok2
  (e_Tok2
  (e_Tok2
  (e_Lok (ld_aload_n_0 (x_dk dn_44_0_0_ok 9 rfl)))
  (e_Lok (lk_3_179g ho_44 (x_dk dn_44_0_0_ok 10 rfl))))
  (e_Tok2
  (e_Lok (lk_3_182 ho_44 (x_dk dn_44_0_0_ok 11 rfl)))
  (e_Tok2
  (e_Lok (e_st (I := eI) (er_ifne (off := 12) (tg := 32) (x_dk dn_44_0_0_ok 12 rfl) (by decide)) nx_if1))
  (e_Lok (ld_aload_n_0 (x_dk dn_44_0_0_ok 13 rfl))))))
  (e_Tok2
  (e_Tok2
  (e_Lok (ld_aload_n_1 (x_dk dn_44_0_0_ok 14 rfl)))
  (e_Lok (ld_aload_n_0 (x_dk dn_44_0_0_ok 15 rfl))))
  (e_Tok2
  (e_Lok (lk_3_179g ho_44 (x_dk dn_44_0_0_ok 16 rfl)))
  (e_Tok2
  (e_Lok (lk_3_186 ho_44 (x_dk dn_44_0_0_ok 17 rfl)))
  (e_Lok (e_rt (I := eI) (k := 0) ⟨(x_dk dn_44_0_0_ok 18 rfl), rfl⟩)))))))
def te_44 : Nat → eE := te_44_0
theorem te_44_ok : ∀ pc, e_EOq eft cls elay eI n_44 pc (te_44 pc) := te_44_0_ok
theorem ho_45 : (xm_y n_45).cls = "RobotCellHouse$Doer" := rfl
def dn_45_0_0 : List (Nat × Instr × Nat) := [(0, .iconst 1, 1), (1, .istore_n 2, 1), (2, .aload_n 1, 1), (3, .getfield 71, 3), (6, .tableswitch 107 2 5 #[30, 54, 107, 82], 30), (36, .aload_n 0, 1), (37, .getfield 11, 3), (40, .aload_n 1, 1), (41, .getfield 127, 3), (44, .aaload, 1), (45, .getfield 104, 3), (48, .ifCond .ne 7, 3), (51, .iconst 1, 1), (52, .goto 4, 3), (55, .iconst 0, 1), (56, .istore_n 2, 1), (57, .goto 56, 3), (60, .aload_n 0, 1), (61, .getfield 34, 3), (64, .getfield 87, 3), (67, .aload_n 1, 1), (68, .getfield 190, 3), (71, .isub, 1), (72, .aload_n 1, 1), (73, .getfield 193, 3)]
set_option maxRecDepth 20000 in
theorem dn_45_0_0_ok : dn_45_0_0.all (fun q => decide (decode (xm_b n_45) q.1 = .ok (q.2.1, q.2.2))) = true := xa_g_ok (by decide +kernel)
def dn_45_0_1 : List (Nat × Instr × Nat) := [(76, .if_icmp .lt 7, 3), (79, .iconst 1, 1), (80, .goto 4, 3), (83, .iconst 0, 1), (84, .istore_n 2, 1), (85, .goto 28, 3), (88, .aload_n 0, 1), (89, .getfield 44, 3), (92, .aload_n 1, 1), (93, .getfield 193, 3), (96, .iaload, 1), (97, .aload_n 1, 1), (98, .getfield 196, 3), (101, .if_icmp .ne 7, 3), (104, .iconst 1, 1), (105, .goto 4, 3), (108, .iconst 0, 1), (109, .istore_n 2, 1), (110, .goto 3, 3), (113, .iload_n 2, 1), (114, .ifCond .ne 4, 3), (117, .return_, 1), (118, .aload_n 1, 1), (119, .iconst 1, 1), (120, .putfield 71, 3)]
set_option maxRecDepth 20000 in
theorem dn_45_0_1_ok : dn_45_0_1.all (fun q => decide (decode (xm_b n_45) q.1 = .ok (q.2.1, q.2.2))) = true := xa_g_ok (by decide +kernel)
def dn_45_0_2 : List (Nat × Instr × Nat) := [(123, .aload_n 1, 1), (124, .getfield 114, 3), (127, .ifCond .eq 9, 3), (130, .aload_n 0, 1), (131, .bipush 6, 2), (133, .invokevirtual 199, 3), (136, .aload_n 1, 1), (137, .iconst 0, 1), (138, .putfield 114, 3), (141, .return_, 1)]
set_option maxRecDepth 20000 in
theorem dn_45_0_2_ok : dn_45_0_2.all (fun q => decide (decode (xm_b n_45) q.1 = .ok (q.2.1, q.2.2))) = true := xa_g_ok (by decide +kernel)
def te_45_0 : Nat → eE := (e_T 55 (e_T 37 (e_T 2 (e_T 0 (e_L 0 (0, ei_push (0, 1) 1, 0, 0)) (e_T 1 (e_L 1 (0, ei_stor 2 0 2, 0, 0)) (e_L 2 (0, ei_load 1 2 3, 0, 0)))) (e_T 6 (e_T 3 (e_L 3 (0, ei_getf eft elay 10 1 6, 0, 0)) (e_L 6 (0, ei_sw [((-2147483648), 1, 113), (2, 2, 36), (3, 3, 60), (4, 4, 113), (5, 5, 88), (6, 2147483647, 113)], 0, 0))) (e_T 36 (e_L 36 (0, ei_load 0 2 37, 0, 0)) (e_L 37 (0, ei_getf eft elay 3 0 40, 0, 0))))) (e_T 45 (e_T 41 (e_T 40 (e_L 40 (0, ei_load 1 2 41, 0, 0)) (e_L 41 (0, ei_getf eft elay 10 2 44, 0, 0))) (e_T 44 (e_L 44 (0, ei_aald elay 45, 0, 0)) (e_L 45 (0, ei_getf eft elay 0 11 48, 0, 0)))) (e_T 51 (e_T 48 (e_L 48 (0, ei_if1 1 55 51, 0, 0)) (e_L 51 (0, ei_push (0, 1) 52, 0, 0))) (e_T 52 (e_L 52 (0, ei_goto 56, 0, 0)) (e_L 55 (0, ei_push (0, 0) 56, 0, 0)))))) (e_T 68 (e_T 60 (e_T 56 (e_L 56 (0, ei_stor 2 0 57, 0, 0)) (e_T 57 (e_L 57 (0, ei_goto 113, 0, 0)) (e_L 60 (0, ei_load 0 2 61, 0, 0)))) (e_T 64 (e_T 61 (e_L 61 (0, ei_getf eft elay 3 3 64, 0, 0)) (e_L 64 (0, ei_getf eft elay 2 0 67, 0, 0))) (e_T 67 (e_L 67 (0, ei_load 1 2 68, 0, 0)) (e_L 68 (0, ei_getf eft elay 10 9 71, 0, 0))))) (e_T 76 (e_T 72 (e_T 71 (e_L 71 (0, ei_bin eF_sub 72, 0, 0)) (e_L 72 (0, ei_load 1 2 73, 0, 0))) (e_T 73 (e_L 73 (0, ei_getf eft elay 10 8 76, 0, 0)) (e_L 76 (0, ei_if2 2 83 79, 0, 0)))) (e_T 80 (e_T 79 (e_L 79 (0, ei_push (0, 1) 80, 0, 0)) (e_L 80 (0, ei_goto 84, 0, 0))) (e_T 83 (e_L 83 (0, ei_push (0, 0) 84, 0, 0)) (e_L 84 (0, ei_stor 2 0 85, 0, 0)))))))
set_option maxRecDepth 20000 in
set_option maxHeartbeats 4000000 in
theorem te_45_0_ok : ∀ pc, e_EOq eft cls elay eI n_45 pc (te_45_0 pc) :=
  (e_Tok2
  (e_Tok2
  (e_Tok2
  (e_Tok2
  (e_Lok (ps_iconst_1 (x_dk dn_45_0_0_ok 0 rfl)))
  (e_Tok2
  (e_Lok (e_st (I := eI) (er_istore_n (i := 2) (x_dk dn_45_0_0_ok 1 rfl) (by decide +kernel)) nx_stor))
  (e_Lok (ld_aload_n_1 (x_dk dn_45_0_0_ok 2 rfl)))))
  (e_Tok2
  (e_Tok2
  (e_Lok (lk_3_71g ho_45 (x_dk dn_45_0_0_ok 3 rfl)))
  (e_Lok (e_st (I := eI) (er_tsw (dflt := 107) (lo := 2) (hi := 5) (offs := #[30, 54, 107, 82]) (len := 30) (n := 4) (x_dk dn_45_0_0_ok 4 rfl) (by decide) (by decide +kernel)) nx_sw)))
  (e_Tok2
  (e_Lok (ld_aload_n_0 (x_dk dn_45_0_0_ok 5 rfl)))
  (e_Lok (lk_3_11g ho_45 (x_dk dn_45_0_0_ok 6 rfl))))))
  (e_Tok2
  (e_Tok2
  (e_Tok2
  (e_Lok (ld_aload_n_1 (x_dk dn_45_0_0_ok 7 rfl)))
  (e_Lok (lk_3_127g ho_45 (x_dk dn_45_0_0_ok 8 rfl))))
  (e_Tok2
  (e_Lok (e_st (I := eI) (er_aaload (x_dk dn_45_0_0_ok 9 rfl)) nx_aald))
  (e_Lok (lk_3_104g ho_45 (x_dk dn_45_0_0_ok 10 rfl)))))
  (e_Tok2
  (e_Tok2
  (e_Lok (e_st (I := eI) (er_ifne (off := 7) (tg := 55) (x_dk dn_45_0_0_ok 11 rfl) (by decide)) nx_if1))
  (e_Lok (ps_iconst_1 (x_dk dn_45_0_0_ok 12 rfl))))
  (e_Tok2
  (e_Lok (e_st (I := eI) (er_goto (off := 4) (tg := 56) (x_dk dn_45_0_0_ok 13 rfl) (by decide)) nx_goto))
  (e_Lok (ps_iconst_0 (x_dk dn_45_0_0_ok 14 rfl)))))))
  (e_Tok2
  (e_Tok2
  (e_Tok2
  (e_Lok (e_st (I := eI) (er_istore_n (i := 2) (x_dk dn_45_0_0_ok 15 rfl) (by decide +kernel)) nx_stor))
  (e_Tok2
  (e_Lok (e_st (I := eI) (er_goto (off := 56) (tg := 113) (x_dk dn_45_0_0_ok 16 rfl) (by decide)) nx_goto))
  (e_Lok (ld_aload_n_0 (x_dk dn_45_0_0_ok 17 rfl)))))
  (e_Tok2
  (e_Tok2
  (e_Lok (lk_3_34g ho_45 (x_dk dn_45_0_0_ok 18 rfl)))
  (e_Lok (lk_3_87g ho_45 (x_dk dn_45_0_0_ok 19 rfl))))
  (e_Tok2
  (e_Lok (ld_aload_n_1 (x_dk dn_45_0_0_ok 20 rfl)))
  (e_Lok (lk_3_190g ho_45 (x_dk dn_45_0_0_ok 21 rfl))))))
  (e_Tok2
  (e_Tok2
  (e_Tok2
  (e_Lok (sm_isub (x_dk dn_45_0_0_ok 22 rfl)))
  (e_Lok (ld_aload_n_1 (x_dk dn_45_0_0_ok 23 rfl))))
  (e_Tok2
  (e_Lok (lk_3_193g ho_45 (x_dk dn_45_0_0_ok 24 rfl)))
  (e_Lok (e_st (I := eI) (er_icmplt (off := 7) (tg := 83) (x_dk dn_45_0_1_ok 0 rfl) (by decide)) nx_if2))))
  (e_Tok2
  (e_Tok2
  (e_Lok (ps_iconst_1 (x_dk dn_45_0_1_ok 1 rfl)))
  (e_Lok (e_st (I := eI) (er_goto (off := 4) (tg := 84) (x_dk dn_45_0_1_ok 2 rfl) (by decide)) nx_goto)))
  (e_Tok2
  (e_Lok (ps_iconst_0 (x_dk dn_45_0_1_ok 3 rfl)))
  (e_Lok (e_st (I := eI) (er_istore_n (i := 2) (x_dk dn_45_0_1_ok 4 rfl) (by decide +kernel)) nx_stor)))))))
def te_45_30 : Nat → eE := (e_T 113 (e_T 97 (e_T 89 (e_T 85 (e_L 85 (0, ei_goto 113, 0, 0)) (e_T 88 (e_L 88 (0, ei_load 0 2 89, 0, 0)) (e_L 89 (0, ei_getf eft elay 3 5 92, 0, 0)))) (e_T 93 (e_T 92 (e_L 92 (0, ei_load 1 2 93, 0, 0)) (e_L 93 (0, ei_getf eft elay 10 8 96, 0, 0))) (e_T 96 (e_L 96 (0, ei_ald elay false 97, 0, 0)) (e_L 97 (0, ei_load 1 2 98, 0, 0))))) (e_T 105 (e_T 101 (e_T 98 (e_L 98 (0, ei_getf eft elay 10 0 101, 0, 0)) (e_L 101 (0, ei_if2 1 108 104, 0, 0))) (e_T 104 (e_L 104 (0, ei_push (0, 1) 105, 0, 0)) (e_L 105 (0, ei_goto 109, 0, 0)))) (e_T 109 (e_T 108 (e_L 108 (0, ei_push (0, 0) 109, 0, 0)) (e_L 109 (0, ei_stor 2 0 110, 0, 0))) (e_T 110 (e_L 110 (0, ei_goto 113, 0, 0)) (e_L 113 (0, ei_load 2 0 114, 0, 0)))))) (e_T 124 (e_T 118 (e_T 114 (e_L 114 (0, ei_if1 1 118 117, 0, 0)) (e_T 117 (e_L 117 (1, e_nof, 0, 0)) (e_L 118 (0, ei_load 1 2 119, 0, 0)))) (e_T 120 (e_T 119 (e_L 119 (0, ei_push (0, 1) 120, 0, 0)) (e_L 120 (0, ei_putf eft elay 10 1 0 123, 0, 0))) (e_T 123 (e_L 123 (0, ei_load 1 2 124, 0, 0)) (e_L 124 (0, ei_getf eft elay 10 10 127, 0, 0))))) (e_T 133 (e_T 130 (e_T 127 (e_L 127 (0, ei_if1 0 136 130, 0, 0)) (e_L 130 (0, ei_load 0 2 131, 0, 0))) (e_T 131 (e_L 131 (0, ei_push (0, 6) 133, 0, 0)) (e_L 133 (2, e_nof, 46, 2)))) (e_T 137 (e_T 136 (e_L 136 (0, ei_load 1 2 137, 0, 0)) (e_L 137 (0, ei_push (0, 0) 138, 0, 0))) (e_T 138 (e_L 138 (0, ei_putf eft elay 10 10 1 141, 0, 0)) (e_L 141 (1, e_nof, 0, 0)))))))
set_option maxRecDepth 20000 in
set_option maxHeartbeats 4000000 in
theorem te_45_30_ok : ∀ pc, e_EOq eft cls elay eI n_45 pc (te_45_30 pc) :=
  (e_Tok2
  (e_Tok2
  (e_Tok2
  (e_Tok2
  (e_Lok (e_st (I := eI) (er_goto (off := 28) (tg := 113) (x_dk dn_45_0_1_ok 5 rfl) (by decide)) nx_goto))
  (e_Tok2
  (e_Lok (ld_aload_n_0 (x_dk dn_45_0_1_ok 6 rfl)))
  (e_Lok (lk_3_44g ho_45 (x_dk dn_45_0_1_ok 7 rfl)))))
  (e_Tok2
  (e_Tok2
  (e_Lok (ld_aload_n_1 (x_dk dn_45_0_1_ok 8 rfl)))
  (e_Lok (lk_3_193g ho_45 (x_dk dn_45_0_1_ok 9 rfl))))
  (e_Tok2
  (e_Lok (sm_iaload (x_dk dn_45_0_1_ok 10 rfl)))
  (e_Lok (ld_aload_n_1 (x_dk dn_45_0_1_ok 11 rfl))))))
  (e_Tok2
  (e_Tok2
  (e_Tok2
  (e_Lok (lk_3_196g ho_45 (x_dk dn_45_0_1_ok 12 rfl)))
  (e_Lok (e_st (I := eI) (er_icmpne (off := 7) (tg := 108) (x_dk dn_45_0_1_ok 13 rfl) (by decide)) nx_if2)))
  (e_Tok2
  (e_Lok (ps_iconst_1 (x_dk dn_45_0_1_ok 14 rfl)))
  (e_Lok (e_st (I := eI) (er_goto (off := 4) (tg := 109) (x_dk dn_45_0_1_ok 15 rfl) (by decide)) nx_goto))))
  (e_Tok2
  (e_Tok2
  (e_Lok (ps_iconst_0 (x_dk dn_45_0_1_ok 16 rfl)))
  (e_Lok (e_st (I := eI) (er_istore_n (i := 2) (x_dk dn_45_0_1_ok 17 rfl) (by decide +kernel)) nx_stor)))
  (e_Tok2
  (e_Lok (e_st (I := eI) (er_goto (off := 3) (tg := 113) (x_dk dn_45_0_1_ok 18 rfl) (by decide)) nx_goto))
  (e_Lok (ld_iload_n_2 (x_dk dn_45_0_1_ok 19 rfl)))))))
  (e_Tok2
  (e_Tok2
  (e_Tok2
  (e_Lok (e_st (I := eI) (er_ifne (off := 4) (tg := 118) (x_dk dn_45_0_1_ok 20 rfl) (by decide)) nx_if1))
  (e_Tok2
  (e_Lok (e_rt (I := eI) (k := 0) ⟨(x_dk dn_45_0_1_ok 21 rfl), rfl⟩))
  (e_Lok (ld_aload_n_1 (x_dk dn_45_0_1_ok 22 rfl)))))
  (e_Tok2
  (e_Tok2
  (e_Lok (ps_iconst_1 (x_dk dn_45_0_1_ok 23 rfl)))
  (e_Lok (lk_3_71p ho_45 (x_dk dn_45_0_1_ok 24 rfl))))
  (e_Tok2
  (e_Lok (ld_aload_n_1 (x_dk dn_45_0_2_ok 0 rfl)))
  (e_Lok (lk_3_114g ho_45 (x_dk dn_45_0_2_ok 1 rfl))))))
  (e_Tok2
  (e_Tok2
  (e_Tok2
  (e_Lok (e_st (I := eI) (er_ifeq (off := 9) (tg := 136) (x_dk dn_45_0_2_ok 2 rfl) (by decide)) nx_if1))
  (e_Lok (ld_aload_n_0 (x_dk dn_45_0_2_ok 3 rfl))))
  (e_Tok2
  (e_Lok (ps_bipush_6 (x_dk dn_45_0_2_ok 4 rfl)))
  (e_Lok (lk_3_199 ho_45 (x_dk dn_45_0_2_ok 5 rfl)))))
  (e_Tok2
  (e_Tok2
  (e_Lok (ld_aload_n_1 (x_dk dn_45_0_2_ok 6 rfl)))
  (e_Lok (ps_iconst_0 (x_dk dn_45_0_2_ok 7 rfl))))
  (e_Tok2
  (e_Lok (lk_3_114p ho_45 (x_dk dn_45_0_2_ok 8 rfl)))
  (e_Lok (e_rt (I := eI) (k := 0) ⟨(x_dk dn_45_0_2_ok 9 rfl), rfl⟩)))))))
def te_45 : Nat → eE := (e_T 84 te_45_0 te_45_30)
theorem te_45_ok : ∀ pc, e_EOq eft cls elay eI n_45 pc (te_45 pc) := (e_Tok2 (te_45_0_ok) (te_45_30_ok))
theorem ho_46 : (xm_y n_46).cls = "RobotCellHouse$Doer" := rfl
def dn_46_0_0 : List (Nat × Instr × Nat) := [(0, .aload_n 0, 1), (1, .iconst 1, 1), (2, .putfield 130, 3), (5, .aload_n 0, 1), (6, .iload_n 1, 1), (7, .putfield 179, 3), (10, .return_, 1)]
set_option maxRecDepth 20000 in
theorem dn_46_0_0_ok : dn_46_0_0.all (fun q => decide (decode (xm_b n_46) q.1 = .ok (q.2.1, q.2.2))) = true := xa_g_ok (by decide +kernel)
def te_46_0 : Nat → eE := (e_T 2 (e_T 0 (e_L 0 (0, ei_load 0 2 1, 0, 0)) (e_T 1 (e_L 1 (0, ei_push (0, 1) 2, 0, 0)) (e_L 2 (0, ei_putf eft elay 3 11 1 5, 0, 0)))) (e_T 6 (e_T 5 (e_L 5 (0, ei_load 0 2 6, 0, 0)) (e_L 6 (0, ei_load 1 0 7, 0, 0))) (e_T 7 (e_L 7 (0, ei_putf eft elay 3 10 0 10, 0, 0)) (e_L 10 (1, e_nof, 0, 0)))))
set_option maxRecDepth 20000 in
set_option maxHeartbeats 4000000 in
theorem te_46_0_ok : ∀ pc, e_EOq eft cls elay eI n_46 pc (te_46_0 pc) :=
  (e_Tok2
  (e_Tok2
  (e_Lok (ld_aload_n_0 (x_dk dn_46_0_0_ok 0 rfl)))
  (e_Tok2
  (e_Lok (ps_iconst_1 (x_dk dn_46_0_0_ok 1 rfl)))
  (e_Lok (lk_3_130p ho_46 (x_dk dn_46_0_0_ok 2 rfl)))))
  (e_Tok2
  (e_Tok2
  (e_Lok (ld_aload_n_0 (x_dk dn_46_0_0_ok 3 rfl)))
  (e_Lok (ld_iload_n_1 (x_dk dn_46_0_0_ok 4 rfl))))
  (e_Tok2
  (e_Lok (lk_3_179p ho_46 (x_dk dn_46_0_0_ok 5 rfl)))
  (e_Lok (e_rt (I := eI) (k := 0) ⟨(x_dk dn_46_0_0_ok 6 rfl), rfl⟩)))))
def te_46 : Nat → eE := te_46_0
theorem te_46_ok : ∀ pc, e_EOq eft cls elay eI n_46 pc (te_46 pc) := te_46_0_ok
theorem ho_47 : (xm_y n_47).cls = "RobotCellHouse$Doer" := rfl
def dn_47_0_0 : List (Nat × Instr × Nat) := [(0, .aload_n 1, 1), (1, .getfield 202, 3), (4, .aload_n 1, 1), (5, .getfield 205, 3), (8, .if_icmp .le 8, 3), (11, .aload_n 1, 1), (12, .iconst 0, 1), (13, .putfield 202, 3), (16, .aload_n 1, 1), (17, .getfield 208, 3), (20, .ifCond .lt 10, 3), (23, .aload_n 1, 1), (24, .getfield 202, 3), (27, .ifCond .le 5, 3), (30, .iconst 0, 1), (31, .ireturn, 1), (32, .aload_n 0, 1), (33, .getfield 20, 3), (36, .getfield 211, 3), (39, .aload_n 1, 1), (40, .getfield 208, 3), (43, .iaload, 1), (44, .aload_n 1, 1), (45, .getfield 214, 3), (48, .if_icmp .ne 5, 3)]
set_option maxRecDepth 20000 in
theorem dn_47_0_0_ok : dn_47_0_0.all (fun q => decide (decode (xm_b n_47) q.1 = .ok (q.2.1, q.2.2))) = true := xa_g_ok (by decide +kernel)
def dn_47_0_1 : List (Nat × Instr × Nat) := [(51, .iconst 0, 1), (52, .ireturn, 1), (53, .aload_n 1, 1), (54, .aload_n 0, 1), (55, .getfield 20, 3), (58, .getfield 211, 3), (61, .aload_n 1, 1), (62, .getfield 208, 3), (65, .iaload, 1), (66, .putfield 214, 3), (69, .aload_n 1, 1), (70, .aload_n 2, 1), (71, .getfield 82, 3), (74, .aload_n 1, 1), (75, .getfield 217, 3), (78, .iaload, 1), (79, .invokevirtual 220, 3), (82, .ifCond .eq 14, 3), (85, .aload_n 1, 1), (86, .aload_n 1, 1), (87, .getfield 205, 3), (90, .putfield 202, 3), (93, .goto 9, 3), (96, .aload_n 0, 1), (97, .bipush 8, 2)]
set_option maxRecDepth 20000 in
theorem dn_47_0_1_ok : dn_47_0_1.all (fun q => decide (decode (xm_b n_47) q.1 = .ok (q.2.1, q.2.2))) = true := xa_g_ok (by decide +kernel)
def dn_47_0_2 : List (Nat × Instr × Nat) := [(99, .invokevirtual 199, 3), (102, .iconst 1, 1), (103, .ireturn, 1)]
set_option maxRecDepth 20000 in
theorem dn_47_0_2_ok : dn_47_0_2.all (fun q => decide (decode (xm_b n_47) q.1 = .ok (q.2.1, q.2.2))) = true := xa_g_ok (by decide +kernel)
def te_47_0 : Nat → eE := (e_T 24 (e_T 11 (e_T 4 (e_T 0 (e_L 0 (0, ei_load 1 2 1, 0, 0)) (e_T 1 (e_L 1 (0, ei_getf eft elay 10 14 4, 0, 0)) (e_L 4 (0, ei_load 1 2 5, 0, 0)))) (e_T 5 (e_L 5 (0, ei_getf eft elay 10 4 8, 0, 0)) (e_T 8 (e_L 8 (0, ei_if2 5 16 11, 0, 0)) (e_L 11 (0, ei_load 1 2 12, 0, 0))))) (e_T 16 (e_T 12 (e_L 12 (0, ei_push (0, 0) 13, 0, 0)) (e_T 13 (e_L 13 (0, ei_putf eft elay 10 14 0 16, 0, 0)) (e_L 16 (0, ei_load 1 2 17, 0, 0)))) (e_T 20 (e_T 17 (e_L 17 (0, ei_getf eft elay 10 11 20, 0, 0)) (e_L 20 (0, ei_if1 2 30 23, 0, 0))) (e_T 23 (e_L 23 (0, ei_load 1 2 24, 0, 0)) (e_L 24 (0, ei_getf eft elay 10 14 27, 0, 0)))))) (e_T 36 (e_T 31 (e_T 27 (e_L 27 (0, ei_if1 5 32 30, 0, 0)) (e_T 30 (e_L 30 (0, ei_push (0, 0) 31, 0, 0)) (e_L 31 (1, e_nof, 4, 0)))) (e_T 32 (e_L 32 (0, ei_load 0 2 33, 0, 0)) (e_T 33 (e_L 33 (0, ei_getf eft elay 3 1 36, 0, 0)) (e_L 36 (0, ei_getf eft elay 7 2 39, 0, 0))))) (e_T 43 (e_T 39 (e_L 39 (0, ei_load 1 2 40, 0, 0)) (e_T 40 (e_L 40 (0, ei_getf eft elay 10 11 43, 0, 0)) (e_L 43 (0, ei_ald elay false 44, 0, 0)))) (e_T 45 (e_T 44 (e_L 44 (0, ei_load 1 2 45, 0, 0)) (e_L 45 (0, ei_getf eft elay 10 13 48, 0, 0))) (e_T 48 (e_L 48 (0, ei_if2 1 53 51, 0, 0)) (e_L 51 (0, ei_push (0, 0) 52, 0, 0)))))))
set_option maxRecDepth 20000 in
set_option maxHeartbeats 4000000 in
theorem te_47_0_ok : ∀ pc, e_EOq eft cls elay eI n_47 pc (te_47_0 pc) :=
  (e_Tok2
  (e_Tok2
  (e_Tok2
  (e_Tok2
  (e_Lok (ld_aload_n_1 (x_dk dn_47_0_0_ok 0 rfl)))
  (e_Tok2
  (e_Lok (lk_3_202g ho_47 (x_dk dn_47_0_0_ok 1 rfl)))
  (e_Lok (ld_aload_n_1 (x_dk dn_47_0_0_ok 2 rfl)))))
  (e_Tok2
  (e_Lok (lk_3_205g ho_47 (x_dk dn_47_0_0_ok 3 rfl)))
  (e_Tok2
  (e_Lok (e_st (I := eI) (er_icmple (off := 8) (tg := 16) (x_dk dn_47_0_0_ok 4 rfl) (by decide)) nx_if2))
  (e_Lok (ld_aload_n_1 (x_dk dn_47_0_0_ok 5 rfl))))))
  (e_Tok2
  (e_Tok2
  (e_Lok (ps_iconst_0 (x_dk dn_47_0_0_ok 6 rfl)))
  (e_Tok2
  (e_Lok (lk_3_202p ho_47 (x_dk dn_47_0_0_ok 7 rfl)))
  (e_Lok (ld_aload_n_1 (x_dk dn_47_0_0_ok 8 rfl)))))
  (e_Tok2
  (e_Tok2
  (e_Lok (lk_3_208g ho_47 (x_dk dn_47_0_0_ok 9 rfl)))
  (e_Lok (e_st (I := eI) (er_iflt (off := 10) (tg := 30) (x_dk dn_47_0_0_ok 10 rfl) (by decide)) nx_if1)))
  (e_Tok2
  (e_Lok (ld_aload_n_1 (x_dk dn_47_0_0_ok 11 rfl)))
  (e_Lok (lk_3_202g ho_47 (x_dk dn_47_0_0_ok 12 rfl)))))))
  (e_Tok2
  (e_Tok2
  (e_Tok2
  (e_Lok (e_st (I := eI) (er_ifle (off := 5) (tg := 32) (x_dk dn_47_0_0_ok 13 rfl) (by decide)) nx_if1))
  (e_Tok2
  (e_Lok (ps_iconst_0 (x_dk dn_47_0_0_ok 14 rfl)))
  (e_Lok (e_rt (I := eI) (k := 4) ⟨(x_dk dn_47_0_0_ok 15 rfl), rfl⟩))))
  (e_Tok2
  (e_Lok (ld_aload_n_0 (x_dk dn_47_0_0_ok 16 rfl)))
  (e_Tok2
  (e_Lok (lk_3_20g ho_47 (x_dk dn_47_0_0_ok 17 rfl)))
  (e_Lok (lk_3_211g ho_47 (x_dk dn_47_0_0_ok 18 rfl))))))
  (e_Tok2
  (e_Tok2
  (e_Lok (ld_aload_n_1 (x_dk dn_47_0_0_ok 19 rfl)))
  (e_Tok2
  (e_Lok (lk_3_208g ho_47 (x_dk dn_47_0_0_ok 20 rfl)))
  (e_Lok (sm_iaload (x_dk dn_47_0_0_ok 21 rfl)))))
  (e_Tok2
  (e_Tok2
  (e_Lok (ld_aload_n_1 (x_dk dn_47_0_0_ok 22 rfl)))
  (e_Lok (lk_3_214g ho_47 (x_dk dn_47_0_0_ok 23 rfl))))
  (e_Tok2
  (e_Lok (e_st (I := eI) (er_icmpne (off := 5) (tg := 53) (x_dk dn_47_0_0_ok 24 rfl) (by decide)) nx_if2))
  (e_Lok (ps_iconst_0 (x_dk dn_47_0_1_ok 0 rfl))))))))
def te_47_26 : Nat → eE := (e_T 74 (e_T 61 (e_T 54 (e_T 52 (e_L 52 (1, e_nof, 4, 0)) (e_T 53 (e_L 53 (0, ei_load 1 2 54, 0, 0)) (e_L 54 (0, ei_load 0 2 55, 0, 0)))) (e_T 55 (e_L 55 (0, ei_getf eft elay 3 1 58, 0, 0)) (e_T 58 (e_L 58 (0, ei_getf eft elay 7 2 61, 0, 0)) (e_L 61 (0, ei_load 1 2 62, 0, 0))))) (e_T 66 (e_T 62 (e_L 62 (0, ei_getf eft elay 10 11 65, 0, 0)) (e_T 65 (e_L 65 (0, ei_ald elay false 66, 0, 0)) (e_L 66 (0, ei_putf eft elay 10 13 0 69, 0, 0)))) (e_T 70 (e_T 69 (e_L 69 (0, ei_load 1 2 70, 0, 0)) (e_L 70 (0, ei_load 2 2 71, 0, 0))) (e_T 71 (e_L 71 (0, ei_getf eft elay 1 3 74, 0, 0)) (e_L 74 (0, ei_load 1 2 75, 0, 0)))))) (e_T 87 (e_T 79 (e_T 75 (e_L 75 (0, ei_getf eft elay 10 12 78, 0, 0)) (e_T 78 (e_L 78 (0, ei_ald elay false 79, 0, 0)) (e_L 79 (2, e_nof, 182, 2)))) (e_T 85 (e_T 82 (e_L 82 (0, ei_if1 0 96 85, 0, 0)) (e_L 85 (0, ei_load 1 2 86, 0, 0))) (e_T 86 (e_L 86 (0, ei_load 1 2 87, 0, 0)) (e_L 87 (0, ei_getf eft elay 10 4 90, 0, 0))))) (e_T 96 (e_T 90 (e_L 90 (0, ei_putf eft elay 10 14 0 93, 0, 0)) (e_T 93 (e_L 93 (0, ei_goto 102, 0, 0)) (e_L 96 (0, ei_load 0 2 97, 0, 0)))) (e_T 99 (e_T 97 (e_L 97 (0, ei_push (0, 8) 99, 0, 0)) (e_L 99 (2, e_nof, 46, 2))) (e_T 102 (e_L 102 (0, ei_push (0, 1) 103, 0, 0)) (e_L 103 (1, e_nof, 4, 0)))))))
set_option maxRecDepth 20000 in
set_option maxHeartbeats 4000000 in
theorem te_47_26_ok : ∀ pc, e_EOq eft cls elay eI n_47 pc (te_47_26 pc) :=
  (e_Tok2
  (e_Tok2
  (e_Tok2
  (e_Tok2
  (e_Lok (e_rt (I := eI) (k := 4) ⟨(x_dk dn_47_0_1_ok 1 rfl), rfl⟩))
  (e_Tok2
  (e_Lok (ld_aload_n_1 (x_dk dn_47_0_1_ok 2 rfl)))
  (e_Lok (ld_aload_n_0 (x_dk dn_47_0_1_ok 3 rfl)))))
  (e_Tok2
  (e_Lok (lk_3_20g ho_47 (x_dk dn_47_0_1_ok 4 rfl)))
  (e_Tok2
  (e_Lok (lk_3_211g ho_47 (x_dk dn_47_0_1_ok 5 rfl)))
  (e_Lok (ld_aload_n_1 (x_dk dn_47_0_1_ok 6 rfl))))))
  (e_Tok2
  (e_Tok2
  (e_Lok (lk_3_208g ho_47 (x_dk dn_47_0_1_ok 7 rfl)))
  (e_Tok2
  (e_Lok (sm_iaload (x_dk dn_47_0_1_ok 8 rfl)))
  (e_Lok (lk_3_214p ho_47 (x_dk dn_47_0_1_ok 9 rfl)))))
  (e_Tok2
  (e_Tok2
  (e_Lok (ld_aload_n_1 (x_dk dn_47_0_1_ok 10 rfl)))
  (e_Lok (ld_aload_n_2 (x_dk dn_47_0_1_ok 11 rfl))))
  (e_Tok2
  (e_Lok (lk_3_82g ho_47 (x_dk dn_47_0_1_ok 12 rfl)))
  (e_Lok (ld_aload_n_1 (x_dk dn_47_0_1_ok 13 rfl)))))))
  (e_Tok2
  (e_Tok2
  (e_Tok2
  (e_Lok (lk_3_217g ho_47 (x_dk dn_47_0_1_ok 14 rfl)))
  (e_Tok2
  (e_Lok (sm_iaload (x_dk dn_47_0_1_ok 15 rfl)))
  (e_Lok (lk_3_220 ho_47 (x_dk dn_47_0_1_ok 16 rfl)))))
  (e_Tok2
  (e_Tok2
  (e_Lok (e_st (I := eI) (er_ifeq (off := 14) (tg := 96) (x_dk dn_47_0_1_ok 17 rfl) (by decide)) nx_if1))
  (e_Lok (ld_aload_n_1 (x_dk dn_47_0_1_ok 18 rfl))))
  (e_Tok2
  (e_Lok (ld_aload_n_1 (x_dk dn_47_0_1_ok 19 rfl)))
  (e_Lok (lk_3_205g ho_47 (x_dk dn_47_0_1_ok 20 rfl))))))
  (e_Tok2
  (e_Tok2
  (e_Lok (lk_3_202p ho_47 (x_dk dn_47_0_1_ok 21 rfl)))
  (e_Tok2
  (e_Lok (e_st (I := eI) (er_goto (off := 9) (tg := 102) (x_dk dn_47_0_1_ok 22 rfl) (by decide)) nx_goto))
  (e_Lok (ld_aload_n_0 (x_dk dn_47_0_1_ok 23 rfl)))))
  (e_Tok2
  (e_Tok2
  (e_Lok (ps_bipush_8 (x_dk dn_47_0_1_ok 24 rfl)))
  (e_Lok (lk_3_199 ho_47 (x_dk dn_47_0_2_ok 0 rfl))))
  (e_Tok2
  (e_Lok (ps_iconst_1 (x_dk dn_47_0_2_ok 1 rfl)))
  (e_Lok (e_rt (I := eI) (k := 4) ⟨(x_dk dn_47_0_2_ok 2 rfl), rfl⟩)))))))
def te_47 : Nat → eE := (e_T 51 te_47_0 te_47_26)
theorem te_47_ok : ∀ pc, e_EOq eft cls elay eI n_47 pc (te_47 pc) := (e_Tok2 (te_47_0_ok) (te_47_26_ok))
theorem ho_48 : (xm_y n_48).cls = "RobotCellHouse$Doer" := rfl
def dn_48_0_0 : List (Nat × Instr × Nat) := [(0, .aload_n 1, 1), (1, .bipush 7, 2), (3, .invokevirtual 224, 3), (6, .aload_n 1, 1), (7, .iload_n 2, 1), (8, .putfield 227, 3), (11, .aload_n 0, 1), (12, .getfield 34, 3), (15, .iconst 5, 1), (16, .aload_n 1, 1), (17, .getfield 196, 3), (20, .iload_n 2, 1), (21, .invokevirtual 108, 3), (24, .aload_n 0, 1), (25, .aload_n 1, 1), (26, .invokevirtual 230, 3), (29, .aload_n 0, 1), (30, .aload_n 1, 1), (31, .getfield 127, 3), (34, .invokevirtual 233, 3), (37, .aload_n 0, 1), (38, .getfield 11, 3), (41, .aload_n 1, 1), (42, .getfield 127, 3), (45, .aaload, 1)]
set_option maxRecDepth 20000 in
theorem dn_48_0_0_ok : dn_48_0_0.all (fun q => decide (decode (xm_b n_48) q.1 = .ok (q.2.1, q.2.2))) = true := xa_g_ok (by decide +kernel)
def dn_48_0_1 : List (Nat × Instr × Nat) := [(46, .aload_n 1, 1), (47, .getfield 196, 3), (50, .putfield 94, 3), (53, .return_, 1)]
set_option maxRecDepth 20000 in
theorem dn_48_0_1_ok : dn_48_0_1.all (fun q => decide (decode (xm_b n_48) q.1 = .ok (q.2.1, q.2.2))) = true := xa_g_ok (by decide +kernel)
def te_48_0 : Nat → eE := (e_T 24 (e_T 11 (e_T 3 (e_T 0 (e_L 0 (0, ei_load 1 2 1, 0, 0)) (e_T 1 (e_L 1 (0, ei_push (0, 7) 3, 0, 0)) (e_L 3 (2, e_nof, 181, 2)))) (e_T 7 (e_T 6 (e_L 6 (0, ei_load 1 2 7, 0, 0)) (e_L 7 (0, ei_load 2 0 8, 0, 0))) (e_T 8 (e_L 8 (0, ei_putf eft elay 10 5 0 11, 0, 0)) (e_L 11 (0, ei_load 0 2 12, 0, 0))))) (e_T 16 (e_T 12 (e_L 12 (0, ei_getf eft elay 3 3 15, 0, 0)) (e_T 15 (e_L 15 (0, ei_push (0, 5) 16, 0, 0)) (e_L 16 (0, ei_load 1 2 17, 0, 0)))) (e_T 20 (e_T 17 (e_L 17 (0, ei_getf eft elay 10 0 20, 0, 0)) (e_L 20 (0, ei_load 2 0 21, 0, 0))) (e_T 21 (e_L 21 (2, e_nof, 27, 4)) (e_L 24 (0, ei_load 0 2 25, 0, 0)))))) (e_T 37 (e_T 29 (e_T 25 (e_L 25 (0, ei_load 1 2 26, 0, 0)) (e_T 26 (e_L 26 (2, e_nof, 50, 2)) (e_L 29 (0, ei_load 0 2 30, 0, 0)))) (e_T 31 (e_T 30 (e_L 30 (0, ei_load 1 2 31, 0, 0)) (e_L 31 (0, ei_getf eft elay 10 2 34, 0, 0))) (e_T 34 (e_L 34 (2, e_nof, 40, 2)) (e_L 37 (0, ei_load 0 2 38, 0, 0))))) (e_T 45 (e_T 41 (e_T 38 (e_L 38 (0, ei_getf eft elay 3 0 41, 0, 0)) (e_L 41 (0, ei_load 1 2 42, 0, 0))) (e_T 42 (e_L 42 (0, ei_getf eft elay 10 2 45, 0, 0)) (e_L 45 (0, ei_aald elay 46, 0, 0)))) (e_T 47 (e_T 46 (e_L 46 (0, ei_load 1 2 47, 0, 0)) (e_L 47 (0, ei_getf eft elay 10 0 50, 0, 0))) (e_T 50 (e_L 50 (0, ei_putf eft elay 0 16 0 53, 0, 0)) (e_L 53 (1, e_nof, 0, 0)))))))
set_option maxRecDepth 20000 in
set_option maxHeartbeats 4000000 in
theorem te_48_0_ok : ∀ pc, e_EOq eft cls elay eI n_48 pc (te_48_0 pc) :=
  (e_Tok2
  (e_Tok2
  (e_Tok2
  (e_Tok2
  (e_Lok (ld_aload_n_1 (x_dk dn_48_0_0_ok 0 rfl)))
  (e_Tok2
  (e_Lok (ps_bipush_7 (x_dk dn_48_0_0_ok 1 rfl)))
  (e_Lok (lk_3_224 ho_48 (x_dk dn_48_0_0_ok 2 rfl)))))
  (e_Tok2
  (e_Tok2
  (e_Lok (ld_aload_n_1 (x_dk dn_48_0_0_ok 3 rfl)))
  (e_Lok (ld_iload_n_2 (x_dk dn_48_0_0_ok 4 rfl))))
  (e_Tok2
  (e_Lok (lk_3_227p ho_48 (x_dk dn_48_0_0_ok 5 rfl)))
  (e_Lok (ld_aload_n_0 (x_dk dn_48_0_0_ok 6 rfl))))))
  (e_Tok2
  (e_Tok2
  (e_Lok (lk_3_34g ho_48 (x_dk dn_48_0_0_ok 7 rfl)))
  (e_Tok2
  (e_Lok (ps_iconst_5 (x_dk dn_48_0_0_ok 8 rfl)))
  (e_Lok (ld_aload_n_1 (x_dk dn_48_0_0_ok 9 rfl)))))
  (e_Tok2
  (e_Tok2
  (e_Lok (lk_3_196g ho_48 (x_dk dn_48_0_0_ok 10 rfl)))
  (e_Lok (ld_iload_n_2 (x_dk dn_48_0_0_ok 11 rfl))))
  (e_Tok2
  (e_Lok (lk_3_108 ho_48 (x_dk dn_48_0_0_ok 12 rfl)))
  (e_Lok (ld_aload_n_0 (x_dk dn_48_0_0_ok 13 rfl)))))))
  (e_Tok2
  (e_Tok2
  (e_Tok2
  (e_Lok (ld_aload_n_1 (x_dk dn_48_0_0_ok 14 rfl)))
  (e_Tok2
  (e_Lok (lk_3_230 ho_48 (x_dk dn_48_0_0_ok 15 rfl)))
  (e_Lok (ld_aload_n_0 (x_dk dn_48_0_0_ok 16 rfl)))))
  (e_Tok2
  (e_Tok2
  (e_Lok (ld_aload_n_1 (x_dk dn_48_0_0_ok 17 rfl)))
  (e_Lok (lk_3_127g ho_48 (x_dk dn_48_0_0_ok 18 rfl))))
  (e_Tok2
  (e_Lok (lk_3_233 ho_48 (x_dk dn_48_0_0_ok 19 rfl)))
  (e_Lok (ld_aload_n_0 (x_dk dn_48_0_0_ok 20 rfl))))))
  (e_Tok2
  (e_Tok2
  (e_Tok2
  (e_Lok (lk_3_11g ho_48 (x_dk dn_48_0_0_ok 21 rfl)))
  (e_Lok (ld_aload_n_1 (x_dk dn_48_0_0_ok 22 rfl))))
  (e_Tok2
  (e_Lok (lk_3_127g ho_48 (x_dk dn_48_0_0_ok 23 rfl)))
  (e_Lok (e_st (I := eI) (er_aaload (x_dk dn_48_0_0_ok 24 rfl)) nx_aald))))
  (e_Tok2
  (e_Tok2
  (e_Lok (ld_aload_n_1 (x_dk dn_48_0_1_ok 0 rfl)))
  (e_Lok (lk_3_196g ho_48 (x_dk dn_48_0_1_ok 1 rfl))))
  (e_Tok2
  (e_Lok (lk_3_94p ho_48 (x_dk dn_48_0_1_ok 2 rfl)))
  (e_Lok (e_rt (I := eI) (k := 0) ⟨(x_dk dn_48_0_1_ok 3 rfl), rfl⟩)))))))
def te_48 : Nat → eE := te_48_0
theorem te_48_ok : ∀ pc, e_EOq eft cls elay eI n_48 pc (te_48 pc) := te_48_0_ok
theorem ho_49 : (xm_y n_49).cls = "RobotCellHouse$Doer" := rfl
def dn_49_0_0 : List (Nat × Instr × Nat) := [(0, .aload_n 1, 1), (1, .getfield 205, 3), (4, .ifCond .le 4, 3), (7, .return_, 1), (8, .aload_n 1, 1), (9, .bipush 6, 2), (11, .invokevirtual 224, 3), (14, .aload_n 0, 1), (15, .getfield 34, 3), (18, .iconst 4, 1), (19, .aload_n 1, 1), (20, .getfield 196, 3), (23, .iconst 0, 1), (24, .invokevirtual 108, 3), (27, .aload_n 0, 1), (28, .aload_n 1, 1), (29, .invokevirtual 230, 3), (32, .return_, 1)]
set_option maxRecDepth 20000 in
theorem dn_49_0_0_ok : dn_49_0_0.all (fun q => decide (decode (xm_b n_49) q.1 = .ok (q.2.1, q.2.2))) = true := xa_g_ok (by decide +kernel)
def te_49_0 : Nat → eE := (e_T 15 (e_T 7 (e_T 1 (e_T 0 (e_L 0 (0, ei_load 1 2 1, 0, 0)) (e_L 1 (0, ei_getf eft elay 10 4 4, 0, 0))) (e_T 4 (e_L 4 (0, ei_if1 5 8 7, 0, 0)) (e_L 7 (1, e_nof, 0, 0)))) (e_T 9 (e_T 8 (e_L 8 (0, ei_load 1 2 9, 0, 0)) (e_L 9 (0, ei_push (0, 6) 11, 0, 0))) (e_T 11 (e_L 11 (2, e_nof, 181, 2)) (e_T 14 (e_L 14 (0, ei_load 0 2 15, 0, 0)) (e_L 15 (0, ei_getf eft elay 3 3 18, 0, 0)))))) (e_T 23 (e_T 19 (e_T 18 (e_L 18 (0, ei_push (0, 4) 19, 0, 0)) (e_L 19 (0, ei_load 1 2 20, 0, 0))) (e_T 20 (e_L 20 (0, ei_getf eft elay 10 0 23, 0, 0)) (e_L 23 (0, ei_push (0, 0) 24, 0, 0)))) (e_T 27 (e_T 24 (e_L 24 (2, e_nof, 27, 4)) (e_L 27 (0, ei_load 0 2 28, 0, 0))) (e_T 28 (e_L 28 (0, ei_load 1 2 29, 0, 0)) (e_T 29 (e_L 29 (2, e_nof, 50, 2)) (e_L 32 (1, e_nof, 0, 0)))))))
set_option maxRecDepth 20000 in
set_option maxHeartbeats 4000000 in
theorem te_49_0_ok : ∀ pc, e_EOq eft cls elay eI n_49 pc (te_49_0 pc) :=
  (e_Tok2
  (e_Tok2
  (e_Tok2
  (e_Tok2
  (e_Lok (ld_aload_n_1 (x_dk dn_49_0_0_ok 0 rfl)))
  (e_Lok (lk_3_205g ho_49 (x_dk dn_49_0_0_ok 1 rfl))))
  (e_Tok2
  (e_Lok (e_st (I := eI) (er_ifle (off := 4) (tg := 8) (x_dk dn_49_0_0_ok 2 rfl) (by decide)) nx_if1))
  (e_Lok (e_rt (I := eI) (k := 0) ⟨(x_dk dn_49_0_0_ok 3 rfl), rfl⟩))))
  (e_Tok2
  (e_Tok2
  (e_Lok (ld_aload_n_1 (x_dk dn_49_0_0_ok 4 rfl)))
  (e_Lok (ps_bipush_6 (x_dk dn_49_0_0_ok 5 rfl))))
  (e_Tok2
  (e_Lok (lk_3_224 ho_49 (x_dk dn_49_0_0_ok 6 rfl)))
  (e_Tok2
  (e_Lok (ld_aload_n_0 (x_dk dn_49_0_0_ok 7 rfl)))
  (e_Lok (lk_3_34g ho_49 (x_dk dn_49_0_0_ok 8 rfl)))))))
  (e_Tok2
  (e_Tok2
  (e_Tok2
  (e_Lok (ps_iconst_4 (x_dk dn_49_0_0_ok 9 rfl)))
  (e_Lok (ld_aload_n_1 (x_dk dn_49_0_0_ok 10 rfl))))
  (e_Tok2
  (e_Lok (lk_3_196g ho_49 (x_dk dn_49_0_0_ok 11 rfl)))
  (e_Lok (ps_iconst_0 (x_dk dn_49_0_0_ok 12 rfl)))))
  (e_Tok2
  (e_Tok2
  (e_Lok (lk_3_108 ho_49 (x_dk dn_49_0_0_ok 13 rfl)))
  (e_Lok (ld_aload_n_0 (x_dk dn_49_0_0_ok 14 rfl))))
  (e_Tok2
  (e_Lok (ld_aload_n_1 (x_dk dn_49_0_0_ok 15 rfl)))
  (e_Tok2
  (e_Lok (lk_3_230 ho_49 (x_dk dn_49_0_0_ok 16 rfl)))
  (e_Lok (e_rt (I := eI) (k := 0) ⟨(x_dk dn_49_0_0_ok 17 rfl), rfl⟩)))))))
def te_49 : Nat → eE := te_49_0
theorem te_49_ok : ∀ pc, e_EOq eft cls elay eI n_49 pc (te_49 pc) := te_49_0_ok
theorem ho_50 : (xm_y n_50).cls = "RobotCellHouse$Doer" := rfl
def dn_50_0_0 : List (Nat × Instr × Nat) := [(0, .iconst 0, 1), (1, .istore_n 2, 1), (2, .iload_n 2, 1), (3, .bipush 8, 2), (5, .if_icmp .ge 27, 3), (8, .aload_n 0, 1), (9, .getfield 44, 3), (12, .iload_n 2, 1), (13, .iaload, 1), (14, .aload_n 1, 1), (15, .getfield 196, 3), (18, .if_icmp .ne 8, 3), (21, .aload_n 0, 1), (22, .iload_n 2, 1), (23, .invokevirtual 236, 3), (26, .iinc 2 1, 3), (29, .goto (-27), 3), (32, .return_, 1)]
set_option maxRecDepth 20000 in
theorem dn_50_0_0_ok : dn_50_0_0.all (fun q => decide (decode (xm_b n_50) q.1 = .ok (q.2.1, q.2.2))) = true := xa_g_ok (by decide +kernel)
def te_50_0 : Nat → eE := (e_T 13 (e_T 3 (e_T 1 (e_T 0 (e_L 0 (0, ei_push (0, 0) 1, 0, 0)) (e_L 1 (0, ei_stor 2 0 2, 0, 0))) (e_T 2 (e_L 2 (0, ei_load 2 0 3, 0, 0)) (e_L 3 (0, ei_push (0, 8) 5, 0, 0)))) (e_T 8 (e_T 5 (e_L 5 (0, ei_if2 3 32 8, 0, 0)) (e_L 8 (0, ei_load 0 2 9, 0, 0))) (e_T 9 (e_L 9 (0, ei_getf eft elay 3 5 12, 0, 0)) (e_T 12 (e_L 12 (0, ei_load 2 0 13, 0, 0)) (e_L 13 (0, ei_ald elay false 14, 0, 0)))))) (e_T 21 (e_T 15 (e_T 14 (e_L 14 (0, ei_load 1 2 15, 0, 0)) (e_L 15 (0, ei_getf eft elay 10 0 18, 0, 0))) (e_T 18 (e_L 18 (0, ei_if2 1 26 21, 0, 0)) (e_L 21 (0, ei_load 0 2 22, 0, 0)))) (e_T 23 (e_T 22 (e_L 22 (0, ei_load 2 0 23, 0, 0)) (e_L 23 (2, e_nof, 51, 2))) (e_T 26 (e_L 26 (0, ei_inc 2 1 29, 0, 0)) (e_T 29 (e_L 29 (0, ei_goto 2, 0, 0)) (e_L 32 (1, e_nof, 0, 0)))))))
set_option maxRecDepth 20000 in
set_option maxHeartbeats 4000000 in
theorem te_50_0_ok : ∀ pc, e_EOq eft cls elay eI n_50 pc (te_50_0 pc) :=
  (e_Tok2
  (e_Tok2
  (e_Tok2
  (e_Tok2
  (e_Lok (ps_iconst_0 (x_dk dn_50_0_0_ok 0 rfl)))
  (e_Lok (e_st (I := eI) (er_istore_n (i := 2) (x_dk dn_50_0_0_ok 1 rfl) (by decide +kernel)) nx_stor)))
  (e_Tok2
  (e_Lok (ld_iload_n_2 (x_dk dn_50_0_0_ok 2 rfl)))
  (e_Lok (ps_bipush_8 (x_dk dn_50_0_0_ok 3 rfl)))))
  (e_Tok2
  (e_Tok2
  (e_Lok (e_st (I := eI) (er_icmpge (off := 27) (tg := 32) (x_dk dn_50_0_0_ok 4 rfl) (by decide)) nx_if2))
  (e_Lok (ld_aload_n_0 (x_dk dn_50_0_0_ok 5 rfl))))
  (e_Tok2
  (e_Lok (lk_3_44g ho_50 (x_dk dn_50_0_0_ok 6 rfl)))
  (e_Tok2
  (e_Lok (ld_iload_n_2 (x_dk dn_50_0_0_ok 7 rfl)))
  (e_Lok (sm_iaload (x_dk dn_50_0_0_ok 8 rfl)))))))
  (e_Tok2
  (e_Tok2
  (e_Tok2
  (e_Lok (ld_aload_n_1 (x_dk dn_50_0_0_ok 9 rfl)))
  (e_Lok (lk_3_196g ho_50 (x_dk dn_50_0_0_ok 10 rfl))))
  (e_Tok2
  (e_Lok (e_st (I := eI) (er_icmpne (off := 8) (tg := 26) (x_dk dn_50_0_0_ok 11 rfl) (by decide)) nx_if2))
  (e_Lok (ld_aload_n_0 (x_dk dn_50_0_0_ok 12 rfl)))))
  (e_Tok2
  (e_Tok2
  (e_Lok (ld_iload_n_2 (x_dk dn_50_0_0_ok 13 rfl)))
  (e_Lok (lk_3_236 ho_50 (x_dk dn_50_0_0_ok 14 rfl))))
  (e_Tok2
  (e_Lok (e_st (I := eI) (er_iinc (i := 2) (n := 1) (x_dk dn_50_0_0_ok 15 rfl) (by decide +kernel) (by decide)) nx_inc))
  (e_Tok2
  (e_Lok (e_st (I := eI) (er_goto (off := (-27)) (tg := 2) (x_dk dn_50_0_0_ok 16 rfl) (by decide)) nx_goto))
  (e_Lok (e_rt (I := eI) (k := 0) ⟨(x_dk dn_50_0_0_ok 17 rfl), rfl⟩)))))))
def te_50 : Nat → eE := te_50_0
theorem te_50_ok : ∀ pc, e_EOq eft cls elay eI n_50 pc (te_50 pc) := te_50_0_ok
theorem ho_51 : (xm_y n_51).cls = "RobotCellHouse$Doer" := rfl
def dn_51_0_0 : List (Nat × Instr × Nat) := [(0, .iconst (-1), 1), (1, .istore_n 2, 1), (2, .iconst 0, 1), (3, .istore_n 3, 1), (4, .iload_n 3, 1), (5, .bipush 16, 2), (7, .if_icmp .ge 65, 3), (10, .aload_n 0, 1), (11, .getfield 40, 3), (14, .iload_n 3, 1), (15, .aaload, 1), (16, .getfield 71, 3), (19, .iconst 5, 1), (20, .if_icmp .ne 46, 3), (23, .aload_n 0, 1), (24, .getfield 40, 3), (27, .iload_n 3, 1), (28, .aaload, 1), (29, .getfield 193, 3), (32, .iload_n 1, 1), (33, .if_icmp .eq 6, 3), (36, .goto 30, 3), (39, .iload_n 2, 1), (40, .ifCond .lt 24, 3), (43, .aload_n 0, 1)]
set_option maxRecDepth 20000 in
theorem dn_51_0_0_ok : dn_51_0_0.all (fun q => decide (decode (xm_b n_51) q.1 = .ok (q.2.1, q.2.2))) = true := xa_g_ok (by decide +kernel)
def dn_51_0_1 : List (Nat × Instr × Nat) := [(44, .getfield 40, 3), (47, .iload_n 3, 1), (48, .aaload, 1), (49, .getfield 190, 3), (52, .aload_n 0, 1), (53, .getfield 40, 3), (56, .iload_n 2, 1), (57, .aaload, 1), (58, .getfield 190, 3), (61, .if_icmp .ge 5, 3), (64, .iload_n 3, 1), (65, .istore_n 2, 1), (66, .iinc 3 1, 3), (69, .goto (-65), 3), (72, .aload_n 0, 1), (73, .getfield 44, 3), (76, .iload_n 1, 1), (77, .iload_n 2, 1), (78, .iastore, 1), (79, .return_, 1)]
set_option maxRecDepth 20000 in
theorem dn_51_0_1_ok : dn_51_0_1.all (fun q => decide (decode (xm_b n_51) q.1 = .ok (q.2.1, q.2.2))) = true := xa_g_ok (by decide +kernel)
def te_51_0 : Nat → eE := (e_T 15 (e_T 4 (e_T 1 (e_T 0 (e_L 0 (0, ei_push (0, (-1)) 1, 0, 0)) (e_L 1 (0, ei_stor 2 0 2, 0, 0))) (e_T 2 (e_L 2 (0, ei_push (0, 0) 3, 0, 0)) (e_T 3 (e_L 3 (0, ei_stor 3 0 4, 0, 0)) (e_L 4 (0, ei_load 3 0 5, 0, 0))))) (e_T 10 (e_T 5 (e_L 5 (0, ei_push (0, 16) 7, 0, 0)) (e_T 7 (e_L 7 (0, ei_if2 3 72 10, 0, 0)) (e_L 10 (0, ei_load 0 2 11, 0, 0)))) (e_T 11 (e_L 11 (0, ei_getf eft elay 3 4 14, 0, 0)) (e_T 14 (e_L 14 (0, ei_load 3 0 15, 0, 0)) (e_L 15 (0, ei_aald elay 16, 0, 0)))))) (e_T 24 (e_T 19 (e_T 16 (e_L 16 (0, ei_getf eft elay 10 1 19, 0, 0)) (e_L 19 (0, ei_push (0, 5) 20, 0, 0))) (e_T 20 (e_L 20 (0, ei_if2 1 66 23, 0, 0)) (e_T 23 (e_L 23 (0, ei_load 0 2 24, 0, 0)) (e_L 24 (0, ei_getf eft elay 3 4 27, 0, 0))))) (e_T 29 (e_T 27 (e_L 27 (0, ei_load 3 0 28, 0, 0)) (e_T 28 (e_L 28 (0, ei_aald elay 29, 0, 0)) (e_L 29 (0, ei_getf eft elay 10 8 32, 0, 0)))) (e_T 32 (e_L 32 (0, ei_load 1 0 33, 0, 0)) (e_T 33 (e_L 33 (0, ei_if2 0 39 36, 0, 0)) (e_L 36 (0, ei_goto 66, 0, 0)))))))
set_option maxRecDepth 20000 in
set_option maxHeartbeats 4000000 in
theorem te_51_0_ok : ∀ pc, e_EOq eft cls elay eI n_51 pc (te_51_0 pc) :=
  (e_Tok2
  (e_Tok2
  (e_Tok2
  (e_Tok2
  (e_Lok (ps_iconst_m1 (x_dk dn_51_0_0_ok 0 rfl)))
  (e_Lok (e_st (I := eI) (er_istore_n (i := 2) (x_dk dn_51_0_0_ok 1 rfl) (by decide +kernel)) nx_stor)))
  (e_Tok2
  (e_Lok (ps_iconst_0 (x_dk dn_51_0_0_ok 2 rfl)))
  (e_Tok2
  (e_Lok (e_st (I := eI) (er_istore_n (i := 3) (x_dk dn_51_0_0_ok 3 rfl) (by decide +kernel)) nx_stor))
  (e_Lok (ld_iload_n_3 (x_dk dn_51_0_0_ok 4 rfl))))))
  (e_Tok2
  (e_Tok2
  (e_Lok (ps_bipush_16 (x_dk dn_51_0_0_ok 5 rfl)))
  (e_Tok2
  (e_Lok (e_st (I := eI) (er_icmpge (off := 65) (tg := 72) (x_dk dn_51_0_0_ok 6 rfl) (by decide)) nx_if2))
  (e_Lok (ld_aload_n_0 (x_dk dn_51_0_0_ok 7 rfl)))))
  (e_Tok2
  (e_Lok (lk_3_40g ho_51 (x_dk dn_51_0_0_ok 8 rfl)))
  (e_Tok2
  (e_Lok (ld_iload_n_3 (x_dk dn_51_0_0_ok 9 rfl)))
  (e_Lok (e_st (I := eI) (er_aaload (x_dk dn_51_0_0_ok 10 rfl)) nx_aald))))))
  (e_Tok2
  (e_Tok2
  (e_Tok2
  (e_Lok (lk_3_71g ho_51 (x_dk dn_51_0_0_ok 11 rfl)))
  (e_Lok (ps_iconst_5 (x_dk dn_51_0_0_ok 12 rfl))))
  (e_Tok2
  (e_Lok (e_st (I := eI) (er_icmpne (off := 46) (tg := 66) (x_dk dn_51_0_0_ok 13 rfl) (by decide)) nx_if2))
  (e_Tok2
  (e_Lok (ld_aload_n_0 (x_dk dn_51_0_0_ok 14 rfl)))
  (e_Lok (lk_3_40g ho_51 (x_dk dn_51_0_0_ok 15 rfl))))))
  (e_Tok2
  (e_Tok2
  (e_Lok (ld_iload_n_3 (x_dk dn_51_0_0_ok 16 rfl)))
  (e_Tok2
  (e_Lok (e_st (I := eI) (er_aaload (x_dk dn_51_0_0_ok 17 rfl)) nx_aald))
  (e_Lok (lk_3_193g ho_51 (x_dk dn_51_0_0_ok 18 rfl)))))
  (e_Tok2
  (e_Lok (ld_iload_n_1 (x_dk dn_51_0_0_ok 19 rfl)))
  (e_Tok2
  (e_Lok (e_st (I := eI) (er_icmpeq (off := 6) (tg := 39) (x_dk dn_51_0_0_ok 20 rfl) (by decide)) nx_if2))
  (e_Lok (e_st (I := eI) (er_goto (off := 30) (tg := 66) (x_dk dn_51_0_0_ok 21 rfl) (by decide)) nx_goto)))))))
def te_51_22 : Nat → eE := (e_T 57 (e_T 47 (e_T 40 (e_T 39 (e_L 39 (0, ei_load 2 0 40, 0, 0)) (e_L 40 (0, ei_if1 2 64 43, 0, 0))) (e_T 43 (e_L 43 (0, ei_load 0 2 44, 0, 0)) (e_T 44 (e_L 44 (0, ei_getf eft elay 3 4 47, 0, 0)) (e_L 47 (0, ei_load 3 0 48, 0, 0))))) (e_T 52 (e_T 48 (e_L 48 (0, ei_aald elay 49, 0, 0)) (e_T 49 (e_L 49 (0, ei_getf eft elay 10 9 52, 0, 0)) (e_L 52 (0, ei_load 0 2 53, 0, 0)))) (e_T 53 (e_L 53 (0, ei_getf eft elay 3 4 56, 0, 0)) (e_T 56 (e_L 56 (0, ei_load 2 0 57, 0, 0)) (e_L 57 (0, ei_aald elay 58, 0, 0)))))) (e_T 69 (e_T 64 (e_T 58 (e_L 58 (0, ei_getf eft elay 10 9 61, 0, 0)) (e_T 61 (e_L 61 (0, ei_if2 3 66 64, 0, 0)) (e_L 64 (0, ei_load 3 0 65, 0, 0)))) (e_T 65 (e_L 65 (0, ei_stor 2 0 66, 0, 0)) (e_T 66 (e_L 66 (0, ei_inc 3 1 69, 0, 0)) (e_L 69 (0, ei_goto 4, 0, 0))))) (e_T 76 (e_T 72 (e_L 72 (0, ei_load 0 2 73, 0, 0)) (e_T 73 (e_L 73 (0, ei_getf eft elay 3 5 76, 0, 0)) (e_L 76 (0, ei_load 1 0 77, 0, 0)))) (e_T 77 (e_L 77 (0, ei_load 2 0 78, 0, 0)) (e_T 78 (e_L 78 (0, ei_ast elay false 79, 0, 0)) (e_L 79 (1, e_nof, 0, 0)))))))
set_option maxRecDepth 20000 in
set_option maxHeartbeats 4000000 in
theorem te_51_22_ok : ∀ pc, e_EOq eft cls elay eI n_51 pc (te_51_22 pc) :=
  (e_Tok2
  (e_Tok2
  (e_Tok2
  (e_Tok2
  (e_Lok (ld_iload_n_2 (x_dk dn_51_0_0_ok 22 rfl)))
  (e_Lok (e_st (I := eI) (er_iflt (off := 24) (tg := 64) (x_dk dn_51_0_0_ok 23 rfl) (by decide)) nx_if1)))
  (e_Tok2
  (e_Lok (ld_aload_n_0 (x_dk dn_51_0_0_ok 24 rfl)))
  (e_Tok2
  (e_Lok (lk_3_40g ho_51 (x_dk dn_51_0_1_ok 0 rfl)))
  (e_Lok (ld_iload_n_3 (x_dk dn_51_0_1_ok 1 rfl))))))
  (e_Tok2
  (e_Tok2
  (e_Lok (e_st (I := eI) (er_aaload (x_dk dn_51_0_1_ok 2 rfl)) nx_aald))
  (e_Tok2
  (e_Lok (lk_3_190g ho_51 (x_dk dn_51_0_1_ok 3 rfl)))
  (e_Lok (ld_aload_n_0 (x_dk dn_51_0_1_ok 4 rfl)))))
  (e_Tok2
  (e_Lok (lk_3_40g ho_51 (x_dk dn_51_0_1_ok 5 rfl)))
  (e_Tok2
  (e_Lok (ld_iload_n_2 (x_dk dn_51_0_1_ok 6 rfl)))
  (e_Lok (e_st (I := eI) (er_aaload (x_dk dn_51_0_1_ok 7 rfl)) nx_aald))))))
  (e_Tok2
  (e_Tok2
  (e_Tok2
  (e_Lok (lk_3_190g ho_51 (x_dk dn_51_0_1_ok 8 rfl)))
  (e_Tok2
  (e_Lok (e_st (I := eI) (er_icmpge (off := 5) (tg := 66) (x_dk dn_51_0_1_ok 9 rfl) (by decide)) nx_if2))
  (e_Lok (ld_iload_n_3 (x_dk dn_51_0_1_ok 10 rfl)))))
  (e_Tok2
  (e_Lok (e_st (I := eI) (er_istore_n (i := 2) (x_dk dn_51_0_1_ok 11 rfl) (by decide +kernel)) nx_stor))
  (e_Tok2
  (e_Lok (e_st (I := eI) (er_iinc (i := 3) (n := 1) (x_dk dn_51_0_1_ok 12 rfl) (by decide +kernel) (by decide)) nx_inc))
  (e_Lok (e_st (I := eI) (er_goto (off := (-65)) (tg := 4) (x_dk dn_51_0_1_ok 13 rfl) (by decide)) nx_goto)))))
  (e_Tok2
  (e_Tok2
  (e_Lok (ld_aload_n_0 (x_dk dn_51_0_1_ok 14 rfl)))
  (e_Tok2
  (e_Lok (lk_3_44g ho_51 (x_dk dn_51_0_1_ok 15 rfl)))
  (e_Lok (ld_iload_n_1 (x_dk dn_51_0_1_ok 16 rfl)))))
  (e_Tok2
  (e_Lok (ld_iload_n_2 (x_dk dn_51_0_1_ok 17 rfl)))
  (e_Tok2
  (e_Lok (sm_iastore (x_dk dn_51_0_1_ok 18 rfl)))
  (e_Lok (e_rt (I := eI) (k := 0) ⟨(x_dk dn_51_0_1_ok 19 rfl), rfl⟩)))))))
def te_51 : Nat → eE := (e_T 36 te_51_0 te_51_22)
theorem te_51_ok : ∀ pc, e_EOq eft cls elay eI n_51 pc (te_51 pc) := (e_Tok2 (te_51_0_ok) (te_51_22_ok))
theorem ho_52 : (xm_y n_52).cls = "RobotCellHouse$Doer" := rfl
def dn_52_0_0 : List (Nat × Instr × Nat) := [(0, .aload_n 0, 1), (1, .getfield 133, 3), (4, .aload_n 0, 1), (5, .getfield 48, 3), (8, .arraylength, 1), (9, .if_icmp .lt 4, 3), (12, .return_, 1), (13, .aload_n 0, 1), (14, .getfield 48, 3), (17, .aload_n 0, 1), (18, .getfield 133, 3), (21, .iload_n 1, 1), (22, .iastore, 1), (23, .aload_n 0, 1), (24, .dup, 1), (25, .getfield 133, 3), (28, .iconst 1, 1), (29, .iadd, 1), (30, .putfield 133, 3), (33, .return_, 1)]
set_option maxRecDepth 20000 in
theorem dn_52_0_0_ok : dn_52_0_0.all (fun q => decide (decode (xm_b n_52) q.1 = .ok (q.2.1, q.2.2))) = true := xa_g_ok (by decide +kernel)
def te_52_0 : Nat → eE := (e_T 17 (e_T 8 (e_T 1 (e_T 0 (e_L 0 (0, ei_load 0 2 1, 0, 0)) (e_L 1 (0, ei_getf eft elay 3 8 4, 0, 0))) (e_T 4 (e_L 4 (0, ei_load 0 2 5, 0, 0)) (e_T 5 (e_L 5 (0, ei_getf eft elay 3 6 8, 0, 0)) (e_L 8 (0, ei_alen elay 9, 0, 0))))) (e_T 12 (e_T 9 (e_L 9 (0, ei_if2 2 13 12, 0, 0)) (e_L 12 (1, e_nof, 0, 0))) (e_T 13 (e_L 13 (0, ei_load 0 2 14, 0, 0)) (e_T 14 (e_L 14 (0, ei_getf eft elay 3 6 17, 0, 0)) (e_L 17 (0, ei_load 0 2 18, 0, 0)))))) (e_T 24 (e_T 21 (e_T 18 (e_L 18 (0, ei_getf eft elay 3 8 21, 0, 0)) (e_L 21 (0, ei_load 1 0 22, 0, 0))) (e_T 22 (e_L 22 (0, ei_ast elay false 23, 0, 0)) (e_T 23 (e_L 23 (0, ei_load 0 2 24, 0, 0)) (e_L 24 (0, ei_stk ef_dup 25, 0, 0))))) (e_T 28 (e_T 25 (e_L 25 (0, ei_getf eft elay 3 8 28, 0, 0)) (e_L 28 (0, ei_push (0, 1) 29, 0, 0))) (e_T 29 (e_L 29 (0, ei_bin eF_add 30, 0, 0)) (e_T 30 (e_L 30 (0, ei_putf eft elay 3 8 0 33, 0, 0)) (e_L 33 (1, e_nof, 0, 0)))))))
set_option maxRecDepth 20000 in
set_option maxHeartbeats 4000000 in
theorem te_52_0_ok : ∀ pc, e_EOq eft cls elay eI n_52 pc (te_52_0 pc) :=
  (e_Tok2
  (e_Tok2
  (e_Tok2
  (e_Tok2
  (e_Lok (ld_aload_n_0 (x_dk dn_52_0_0_ok 0 rfl)))
  (e_Lok (lk_3_133g ho_52 (x_dk dn_52_0_0_ok 1 rfl))))
  (e_Tok2
  (e_Lok (ld_aload_n_0 (x_dk dn_52_0_0_ok 2 rfl)))
  (e_Tok2
  (e_Lok (lk_3_48g ho_52 (x_dk dn_52_0_0_ok 3 rfl)))
  (e_Lok (e_st (I := eI) (er_alen (x_dk dn_52_0_0_ok 4 rfl)) nx_alen)))))
  (e_Tok2
  (e_Tok2
  (e_Lok (e_st (I := eI) (er_icmplt (off := 4) (tg := 13) (x_dk dn_52_0_0_ok 5 rfl) (by decide)) nx_if2))
  (e_Lok (e_rt (I := eI) (k := 0) ⟨(x_dk dn_52_0_0_ok 6 rfl), rfl⟩)))
  (e_Tok2
  (e_Lok (ld_aload_n_0 (x_dk dn_52_0_0_ok 7 rfl)))
  (e_Tok2
  (e_Lok (lk_3_48g ho_52 (x_dk dn_52_0_0_ok 8 rfl)))
  (e_Lok (ld_aload_n_0 (x_dk dn_52_0_0_ok 9 rfl)))))))
  (e_Tok2
  (e_Tok2
  (e_Tok2
  (e_Lok (lk_3_133g ho_52 (x_dk dn_52_0_0_ok 10 rfl)))
  (e_Lok (ld_iload_n_1 (x_dk dn_52_0_0_ok 11 rfl))))
  (e_Tok2
  (e_Lok (sm_iastore (x_dk dn_52_0_0_ok 12 rfl)))
  (e_Tok2
  (e_Lok (ld_aload_n_0 (x_dk dn_52_0_0_ok 13 rfl)))
  (e_Lok (e_st (I := eI) (er_dup (x_dk dn_52_0_0_ok 14 rfl)) (nx_stk bf_dup))))))
  (e_Tok2
  (e_Tok2
  (e_Lok (lk_3_133g ho_52 (x_dk dn_52_0_0_ok 15 rfl)))
  (e_Lok (ps_iconst_1 (x_dk dn_52_0_0_ok 16 rfl))))
  (e_Tok2
  (e_Lok (sm_iadd (x_dk dn_52_0_0_ok 17 rfl)))
  (e_Tok2
  (e_Lok (lk_3_133p ho_52 (x_dk dn_52_0_0_ok 18 rfl)))
  (e_Lok (e_rt (I := eI) (k := 0) ⟨(x_dk dn_52_0_0_ok 19 rfl), rfl⟩)))))))
def te_52 : Nat → eE := te_52_0
theorem te_52_ok : ∀ pc, e_EOq eft cls elay eI n_52 pc (te_52 pc) := te_52_0_ok
theorem ho_53 : (xm_y n_53).cls = "RobotCellHouse$Doer" := rfl
def dn_53_0_0 : List (Nat × Instr × Nat) := [(0, .aload_n 0, 1), (1, .getfield 133, 3), (4, .iconst 1, 1), (5, .if_icmp .ge 5, 3), (8, .iconst 0, 1), (9, .ireturn, 1), (10, .aload_n 0, 1), (11, .dup, 1), (12, .getfield 133, 3), (15, .iconst 1, 1), (16, .isub, 1), (17, .putfield 133, 3), (20, .aload_n 0, 1), (21, .getfield 48, 3), (24, .aload_n 0, 1), (25, .getfield 133, 3), (28, .iaload, 1), (29, .ireturn, 1)]
set_option maxRecDepth 20000 in
theorem dn_53_0_0_ok : dn_53_0_0.all (fun q => decide (decode (xm_b n_53) q.1 = .ok (q.2.1, q.2.2))) = true := xa_g_ok (by decide +kernel)
def te_53_0 : Nat → eE := (e_T 12 (e_T 5 (e_T 1 (e_T 0 (e_L 0 (0, ei_load 0 2 1, 0, 0)) (e_L 1 (0, ei_getf eft elay 3 8 4, 0, 0))) (e_T 4 (e_L 4 (0, ei_push (0, 1) 5, 0, 0)) (e_L 5 (0, ei_if2 3 10 8, 0, 0)))) (e_T 9 (e_T 8 (e_L 8 (0, ei_push (0, 0) 9, 0, 0)) (e_L 9 (1, e_nof, 1, 0))) (e_T 10 (e_L 10 (0, ei_load 0 2 11, 0, 0)) (e_T 11 (e_L 11 (0, ei_stk ef_dup 12, 0, 0)) (e_L 12 (0, ei_getf eft elay 3 8 15, 0, 0)))))) (e_T 20 (e_T 16 (e_T 15 (e_L 15 (0, ei_push (0, 1) 16, 0, 0)) (e_L 16 (0, ei_bin eF_sub 17, 0, 0))) (e_T 17 (e_L 17 (0, ei_putf eft elay 3 8 0 20, 0, 0)) (e_L 20 (0, ei_load 0 2 21, 0, 0)))) (e_T 24 (e_T 21 (e_L 21 (0, ei_getf eft elay 3 6 24, 0, 0)) (e_L 24 (0, ei_load 0 2 25, 0, 0))) (e_T 25 (e_L 25 (0, ei_getf eft elay 3 8 28, 0, 0)) (e_T 28 (e_L 28 (0, ei_ald elay false 29, 0, 0)) (e_L 29 (1, e_nof, 1, 0)))))))
set_option maxRecDepth 20000 in
set_option maxHeartbeats 4000000 in
theorem te_53_0_ok : ∀ pc, e_EOq eft cls elay eI n_53 pc (te_53_0 pc) :=
  (e_Tok2
  (e_Tok2
  (e_Tok2
  (e_Tok2
  (e_Lok (ld_aload_n_0 (x_dk dn_53_0_0_ok 0 rfl)))
  (e_Lok (lk_3_133g ho_53 (x_dk dn_53_0_0_ok 1 rfl))))
  (e_Tok2
  (e_Lok (ps_iconst_1 (x_dk dn_53_0_0_ok 2 rfl)))
  (e_Lok (e_st (I := eI) (er_icmpge (off := 5) (tg := 10) (x_dk dn_53_0_0_ok 3 rfl) (by decide)) nx_if2))))
  (e_Tok2
  (e_Tok2
  (e_Lok (ps_iconst_0 (x_dk dn_53_0_0_ok 4 rfl)))
  (e_Lok (e_rt (I := eI) (k := 1) ⟨(x_dk dn_53_0_0_ok 5 rfl), rfl⟩)))
  (e_Tok2
  (e_Lok (ld_aload_n_0 (x_dk dn_53_0_0_ok 6 rfl)))
  (e_Tok2
  (e_Lok (e_st (I := eI) (er_dup (x_dk dn_53_0_0_ok 7 rfl)) (nx_stk bf_dup)))
  (e_Lok (lk_3_133g ho_53 (x_dk dn_53_0_0_ok 8 rfl)))))))
  (e_Tok2
  (e_Tok2
  (e_Tok2
  (e_Lok (ps_iconst_1 (x_dk dn_53_0_0_ok 9 rfl)))
  (e_Lok (sm_isub (x_dk dn_53_0_0_ok 10 rfl))))
  (e_Tok2
  (e_Lok (lk_3_133p ho_53 (x_dk dn_53_0_0_ok 11 rfl)))
  (e_Lok (ld_aload_n_0 (x_dk dn_53_0_0_ok 12 rfl)))))
  (e_Tok2
  (e_Tok2
  (e_Lok (lk_3_48g ho_53 (x_dk dn_53_0_0_ok 13 rfl)))
  (e_Lok (ld_aload_n_0 (x_dk dn_53_0_0_ok 14 rfl))))
  (e_Tok2
  (e_Lok (lk_3_133g ho_53 (x_dk dn_53_0_0_ok 15 rfl)))
  (e_Tok2
  (e_Lok (sm_iaload (x_dk dn_53_0_0_ok 16 rfl)))
  (e_Lok (e_rt (I := eI) (k := 1) ⟨(x_dk dn_53_0_0_ok 17 rfl), rfl⟩)))))))
def te_53 : Nat → eE := te_53_0
theorem te_53_ok : ∀ pc, e_EOq eft cls elay eI n_53 pc (te_53 pc) := te_53_0_ok
theorem ho_54 : (xm_y n_54).cls = "RobotCellHouse$Doer" := rfl
def dn_54_0_0 : List (Nat × Instr × Nat) := [(0, .aload_n 0, 1), (1, .getfield 11, 3), (4, .aload_n 1, 1), (5, .getfield 127, 3), (8, .aaload, 1), (9, .astore 4, 2), (11, .iload_n 2, 1), (12, .tableswitch 157 0 7 #[48, 56, 72, 86, 97, 110, 124, 135], 48), (60, .aload_n 0, 1), (61, .iload_n 3, 1), (62, .invokevirtual 239, 3), (65, .goto 121, 3), (68, .aload_n 0, 1), (69, .aload_n 0, 1), (70, .invokevirtual 166, 3), (73, .bipush 16, 2), (75, .ishl, 1), (76, .iload_n 3, 1), (77, .ior, 1), (78, .invokevirtual 239, 3), (81, .goto 105, 3), (84, .aload_n 0, 1), (85, .aload 4, 2), (87, .getfield 242, 3), (90, .iload_n 3, 1)]
set_option maxRecDepth 20000 in
theorem dn_54_0_0_ok : dn_54_0_0.all (fun q => decide (decode (xm_b n_54) q.1 = .ok (q.2.1, q.2.2))) = true := xa_g_ok (by decide +kernel)
def dn_54_0_1 : List (Nat × Instr × Nat) := [(91, .iaload, 1), (92, .invokevirtual 239, 3), (95, .goto 91, 3), (98, .aload_n 0, 1), (99, .aload_n 0, 1), (100, .invokevirtual 166, 3), (103, .invokevirtual 245, 3), (106, .goto 80, 3), (109, .aload_n 0, 1), (110, .aload 4, 2), (112, .aload_n 0, 1), (113, .invokevirtual 166, 3), (116, .invokevirtual 248, 3), (119, .goto 67, 3), (122, .aload_n 0, 1), (123, .aload_n 0, 1), (124, .getfield 34, 3), (127, .getfield 87, 3), (130, .invokevirtual 239, 3), (133, .goto 53, 3), (136, .aload_n 0, 1), (137, .aload_n 1, 1), (138, .getfield 252, 3), (141, .invokevirtual 239, 3), (144, .goto 42, 3)]
set_option maxRecDepth 20000 in
theorem dn_54_0_1_ok : dn_54_0_1.all (fun q => decide (decode (xm_b n_54) q.1 = .ok (q.2.1, q.2.2))) = true := xa_g_ok (by decide +kernel)
def dn_54_0_2 : List (Nat × Instr × Nat) := [(147, .aload_n 0, 1), (148, .aload_n 0, 1), (149, .getfield 34, 3), (152, .getfield 255, 3), (155, .ifCond .eq 7, 3), (158, .iconst 1, 1), (159, .goto 4, 3), (162, .iconst 0, 1), (163, .invokevirtual 239, 3), (166, .goto 20, 3), (169, .aload_n 0, 1), (170, .aload 4, 2), (172, .getfield 258, 3), (175, .ifCond .lt 7, 3), (178, .iconst 1, 1), (179, .goto 4, 3), (182, .iconst 0, 1), (183, .invokevirtual 239, 3), (186, .return_, 1)]
set_option maxRecDepth 20000 in
theorem dn_54_0_2_ok : dn_54_0_2.all (fun q => decide (decode (xm_b n_54) q.1 = .ok (q.2.1, q.2.2))) = true := xa_g_ok (by decide +kernel)
def te_54_0 : Nat → eE := (e_T 75 (e_T 12 (e_T 5 (e_T 1 (e_T 0 (e_L 0 (0, ei_load 0 2 1, 0, 0)) (e_L 1 (0, ei_getf eft elay 3 0 4, 0, 0))) (e_T 4 (e_L 4 (0, ei_load 1 2 5, 0, 0)) (e_L 5 (0, ei_getf eft elay 10 2 8, 0, 0)))) (e_T 9 (e_T 8 (e_L 8 (0, ei_aald elay 9, 0, 0)) (e_L 9 (0, ei_stor 4 2 11, 0, 0))) (e_T 11 (e_L 11 (0, ei_load 2 0 12, 0, 0)) (e_L 12 (0, ei_sw [((-2147483648), (-1), 169), (0, 0, 60), (1, 1, 68), (2, 2, 84), (3, 3, 98), (4, 4, 109), (5, 5, 122), (6, 6, 136), (7, 7, 147), (8, 2147483647, 169)], 0, 0))))) (e_T 65 (e_T 61 (e_T 60 (e_L 60 (0, ei_load 0 2 61, 0, 0)) (e_L 61 (0, ei_load 3 0 62, 0, 0))) (e_T 62 (e_L 62 (2, e_nof, 52, 2)) (e_L 65 (0, ei_goto 186, 0, 0)))) (e_T 69 (e_T 68 (e_L 68 (0, ei_load 0 2 69, 0, 0)) (e_L 69 (0, ei_load 0 2 70, 0, 0))) (e_T 70 (e_L 70 (2, e_nof, 53, 1)) (e_T 73 (e_L 73 (0, ei_push (0, 16) 75, 0, 0)) (e_L 75 (0, ei_bin (eB (fun x y => x <<< (y &&& 31))) 76, 0, 0))))))) (e_T 90 (e_T 81 (e_T 77 (e_T 76 (e_L 76 (0, ei_load 3 0 77, 0, 0)) (e_L 77 (0, ei_bin (eB (fun x y => x ||| y)) 78, 0, 0))) (e_T 78 (e_L 78 (2, e_nof, 52, 2)) (e_L 81 (0, ei_goto 186, 0, 0)))) (e_T 85 (e_T 84 (e_L 84 (0, ei_load 0 2 85, 0, 0)) (e_L 85 (0, ei_load 4 2 87, 0, 0))) (e_T 87 (e_L 87 (0, ei_getf eft elay 0 6 90, 0, 0)) (e_L 90 (0, ei_load 3 0 91, 0, 0))))) (e_T 98 (e_T 92 (e_T 91 (e_L 91 (0, ei_ald elay false 92, 0, 0)) (e_L 92 (2, e_nof, 52, 2))) (e_T 95 (e_L 95 (0, ei_goto 186, 0, 0)) (e_L 98 (0, ei_load 0 2 99, 0, 0)))) (e_T 100 (e_T 99 (e_L 99 (0, ei_load 0 2 100, 0, 0)) (e_L 100 (2, e_nof, 53, 1))) (e_T 103 (e_L 103 (2, e_nof, 55, 2)) (e_T 106 (e_L 106 (0, ei_goto 186, 0, 0)) (e_L 109 (0, ei_load 0 2 110, 0, 0))))))))
set_option maxRecDepth 20000 in
set_option maxHeartbeats 4000000 in
theorem te_54_0_ok : ∀ pc, e_EOq eft cls elay eI n_54 pc (te_54_0 pc) :=
  (e_Tok2
  (e_Tok2
  (e_Tok2
  (e_Tok2
  (e_Tok2
  (e_Lok (ld_aload_n_0 (x_dk dn_54_0_0_ok 0 rfl)))
  (e_Lok (lk_3_11g ho_54 (x_dk dn_54_0_0_ok 1 rfl))))
  (e_Tok2
  (e_Lok (ld_aload_n_1 (x_dk dn_54_0_0_ok 2 rfl)))
  (e_Lok (lk_3_127g ho_54 (x_dk dn_54_0_0_ok 3 rfl)))))
  (e_Tok2
  (e_Tok2
  (e_Lok (e_st (I := eI) (er_aaload (x_dk dn_54_0_0_ok 4 rfl)) nx_aald))
  (e_Lok (e_st (I := eI) (er_astore (i := 4) (x_dk dn_54_0_0_ok 5 rfl) (by decide +kernel)) nx_stor)))
  (e_Tok2
  (e_Lok (ld_iload_n_2 (x_dk dn_54_0_0_ok 6 rfl)))
  (e_Lok (e_st (I := eI) (er_tsw (dflt := 157) (lo := 0) (hi := 7) (offs := #[48, 56, 72, 86, 97, 110, 124, 135]) (len := 48) (n := 8) (x_dk dn_54_0_0_ok 7 rfl) (by decide) (by decide +kernel)) nx_sw)))))
  (e_Tok2
  (e_Tok2
  (e_Tok2
  (e_Lok (ld_aload_n_0 (x_dk dn_54_0_0_ok 8 rfl)))
  (e_Lok (ld_iload_n_3 (x_dk dn_54_0_0_ok 9 rfl))))
  (e_Tok2
  (e_Lok (lk_3_239 ho_54 (x_dk dn_54_0_0_ok 10 rfl)))
  (e_Lok (e_st (I := eI) (er_goto (off := 121) (tg := 186) (x_dk dn_54_0_0_ok 11 rfl) (by decide)) nx_goto))))
  (e_Tok2
  (e_Tok2
  (e_Lok (ld_aload_n_0 (x_dk dn_54_0_0_ok 12 rfl)))
  (e_Lok (ld_aload_n_0 (x_dk dn_54_0_0_ok 13 rfl))))
  (e_Tok2
  (e_Lok (lk_3_166 ho_54 (x_dk dn_54_0_0_ok 14 rfl)))
  (e_Tok2
  (e_Lok (ps_bipush_16 (x_dk dn_54_0_0_ok 15 rfl)))
  (e_Lok (e_st (I := eI) (er_ishl (x_dk dn_54_0_0_ok 16 rfl)) nx_bin)))))))
  (e_Tok2
  (e_Tok2
  (e_Tok2
  (e_Tok2
  (e_Lok (ld_iload_n_3 (x_dk dn_54_0_0_ok 17 rfl)))
  (e_Lok (e_st (I := eI) (er_ior (x_dk dn_54_0_0_ok 18 rfl)) nx_bin)))
  (e_Tok2
  (e_Lok (lk_3_239 ho_54 (x_dk dn_54_0_0_ok 19 rfl)))
  (e_Lok (e_st (I := eI) (er_goto (off := 105) (tg := 186) (x_dk dn_54_0_0_ok 20 rfl) (by decide)) nx_goto))))
  (e_Tok2
  (e_Tok2
  (e_Lok (ld_aload_n_0 (x_dk dn_54_0_0_ok 21 rfl)))
  (e_Lok (ld_aload_4 (x_dk dn_54_0_0_ok 22 rfl))))
  (e_Tok2
  (e_Lok (lk_3_242g ho_54 (x_dk dn_54_0_0_ok 23 rfl)))
  (e_Lok (ld_iload_n_3 (x_dk dn_54_0_0_ok 24 rfl))))))
  (e_Tok2
  (e_Tok2
  (e_Tok2
  (e_Lok (sm_iaload (x_dk dn_54_0_1_ok 0 rfl)))
  (e_Lok (lk_3_239 ho_54 (x_dk dn_54_0_1_ok 1 rfl))))
  (e_Tok2
  (e_Lok (e_st (I := eI) (er_goto (off := 91) (tg := 186) (x_dk dn_54_0_1_ok 2 rfl) (by decide)) nx_goto))
  (e_Lok (ld_aload_n_0 (x_dk dn_54_0_1_ok 3 rfl)))))
  (e_Tok2
  (e_Tok2
  (e_Lok (ld_aload_n_0 (x_dk dn_54_0_1_ok 4 rfl)))
  (e_Lok (lk_3_166 ho_54 (x_dk dn_54_0_1_ok 5 rfl))))
  (e_Tok2
  (e_Lok (lk_3_245 ho_54 (x_dk dn_54_0_1_ok 6 rfl)))
  (e_Tok2
  (e_Lok (e_st (I := eI) (er_goto (off := 80) (tg := 186) (x_dk dn_54_0_1_ok 7 rfl) (by decide)) nx_goto))
  (e_Lok (ld_aload_n_0 (x_dk dn_54_0_1_ok 8 rfl)))))))))
def te_54_34 : Nat → eE := (e_T 147 (e_T 124 (e_T 116 (e_T 112 (e_T 110 (e_L 110 (0, ei_load 4 2 112, 0, 0)) (e_L 112 (0, ei_load 0 2 113, 0, 0))) (e_T 113 (e_L 113 (2, e_nof, 53, 1)) (e_L 116 (2, e_nof, 56, 3)))) (e_T 122 (e_T 119 (e_L 119 (0, ei_goto 186, 0, 0)) (e_L 122 (0, ei_load 0 2 123, 0, 0))) (e_T 123 (e_L 123 (0, ei_load 0 2 124, 0, 0)) (e_L 124 (0, ei_getf eft elay 3 3 127, 0, 0))))) (e_T 136 (e_T 130 (e_T 127 (e_L 127 (0, ei_getf eft elay 2 0 130, 0, 0)) (e_L 130 (2, e_nof, 52, 2))) (e_T 133 (e_L 133 (0, ei_goto 186, 0, 0)) (e_L 136 (0, ei_load 0 2 137, 0, 0)))) (e_T 138 (e_T 137 (e_L 137 (0, ei_load 1 2 138, 0, 0)) (e_L 138 (0, ei_getf eft elay 10 6 141, 0, 0))) (e_T 141 (e_L 141 (2, e_nof, 52, 2)) (e_T 144 (e_L 144 (0, ei_goto 186, 0, 0)) (e_L 147 (0, ei_load 0 2 148, 0, 0))))))) (e_T 166 (e_T 155 (e_T 149 (e_T 148 (e_L 148 (0, ei_load 0 2 149, 0, 0)) (e_L 149 (0, ei_getf eft elay 3 3 152, 0, 0))) (e_T 152 (e_L 152 (0, ei_getf eft elay 2 3 155, 0, 0)) (e_L 155 (0, ei_if1 0 162 158, 0, 0)))) (e_T 159 (e_T 158 (e_L 158 (0, ei_push (0, 1) 159, 0, 0)) (e_L 159 (0, ei_goto 163, 0, 0))) (e_T 162 (e_L 162 (0, ei_push (0, 0) 163, 0, 0)) (e_T 163 (e_L 163 (2, e_nof, 52, 2)) (e_L 166 (0, ei_goto 186, 0, 0)))))) (e_T 175 (e_T 170 (e_T 169 (e_L 169 (0, ei_load 0 2 170, 0, 0)) (e_L 170 (0, ei_load 4 2 172, 0, 0))) (e_T 172 (e_L 172 (0, ei_getf eft elay 0 14 175, 0, 0)) (e_L 175 (0, ei_if1 2 182 178, 0, 0)))) (e_T 179 (e_T 178 (e_L 178 (0, ei_push (0, 1) 179, 0, 0)) (e_L 179 (0, ei_goto 183, 0, 0))) (e_T 182 (e_L 182 (0, ei_push (0, 0) 183, 0, 0)) (e_T 183 (e_L 183 (2, e_nof, 52, 2)) (e_L 186 (1, e_nof, 0, 0))))))))
set_option maxRecDepth 20000 in
set_option maxHeartbeats 4000000 in
theorem te_54_34_ok : ∀ pc, e_EOq eft cls elay eI n_54 pc (te_54_34 pc) :=
  (e_Tok2
  (e_Tok2
  (e_Tok2
  (e_Tok2
  (e_Tok2
  (e_Lok (ld_aload_4 (x_dk dn_54_0_1_ok 9 rfl)))
  (e_Lok (ld_aload_n_0 (x_dk dn_54_0_1_ok 10 rfl))))
  (e_Tok2
  (e_Lok (lk_3_166 ho_54 (x_dk dn_54_0_1_ok 11 rfl)))
  (e_Lok (lk_3_248 ho_54 (x_dk dn_54_0_1_ok 12 rfl)))))
  (e_Tok2
  (e_Tok2
  (e_Lok (e_st (I := eI) (er_goto (off := 67) (tg := 186) (x_dk dn_54_0_1_ok 13 rfl) (by decide)) nx_goto))
  (e_Lok (ld_aload_n_0 (x_dk dn_54_0_1_ok 14 rfl))))
  (e_Tok2
  (e_Lok (ld_aload_n_0 (x_dk dn_54_0_1_ok 15 rfl)))
  (e_Lok (lk_3_34g ho_54 (x_dk dn_54_0_1_ok 16 rfl))))))
  (e_Tok2
  (e_Tok2
  (e_Tok2
  (e_Lok (lk_3_87g ho_54 (x_dk dn_54_0_1_ok 17 rfl)))
  (e_Lok (lk_3_239 ho_54 (x_dk dn_54_0_1_ok 18 rfl))))
  (e_Tok2
  (e_Lok (e_st (I := eI) (er_goto (off := 53) (tg := 186) (x_dk dn_54_0_1_ok 19 rfl) (by decide)) nx_goto))
  (e_Lok (ld_aload_n_0 (x_dk dn_54_0_1_ok 20 rfl)))))
  (e_Tok2
  (e_Tok2
  (e_Lok (ld_aload_n_1 (x_dk dn_54_0_1_ok 21 rfl)))
  (e_Lok (lk_3_252g ho_54 (x_dk dn_54_0_1_ok 22 rfl))))
  (e_Tok2
  (e_Lok (lk_3_239 ho_54 (x_dk dn_54_0_1_ok 23 rfl)))
  (e_Tok2
  (e_Lok (e_st (I := eI) (er_goto (off := 42) (tg := 186) (x_dk dn_54_0_1_ok 24 rfl) (by decide)) nx_goto))
  (e_Lok (ld_aload_n_0 (x_dk dn_54_0_2_ok 0 rfl))))))))
  (e_Tok2
  (e_Tok2
  (e_Tok2
  (e_Tok2
  (e_Lok (ld_aload_n_0 (x_dk dn_54_0_2_ok 1 rfl)))
  (e_Lok (lk_3_34g ho_54 (x_dk dn_54_0_2_ok 2 rfl))))
  (e_Tok2
  (e_Lok (lk_3_255g ho_54 (x_dk dn_54_0_2_ok 3 rfl)))
  (e_Lok (e_st (I := eI) (er_ifeq (off := 7) (tg := 162) (x_dk dn_54_0_2_ok 4 rfl) (by decide)) nx_if1))))
  (e_Tok2
  (e_Tok2
  (e_Lok (ps_iconst_1 (x_dk dn_54_0_2_ok 5 rfl)))
  (e_Lok (e_st (I := eI) (er_goto (off := 4) (tg := 163) (x_dk dn_54_0_2_ok 6 rfl) (by decide)) nx_goto)))
  (e_Tok2
  (e_Lok (ps_iconst_0 (x_dk dn_54_0_2_ok 7 rfl)))
  (e_Tok2
  (e_Lok (lk_3_239 ho_54 (x_dk dn_54_0_2_ok 8 rfl)))
  (e_Lok (e_st (I := eI) (er_goto (off := 20) (tg := 186) (x_dk dn_54_0_2_ok 9 rfl) (by decide)) nx_goto))))))
  (e_Tok2
  (e_Tok2
  (e_Tok2
  (e_Lok (ld_aload_n_0 (x_dk dn_54_0_2_ok 10 rfl)))
  (e_Lok (ld_aload_4 (x_dk dn_54_0_2_ok 11 rfl))))
  (e_Tok2
  (e_Lok (lk_3_258g ho_54 (x_dk dn_54_0_2_ok 12 rfl)))
  (e_Lok (e_st (I := eI) (er_iflt (off := 7) (tg := 182) (x_dk dn_54_0_2_ok 13 rfl) (by decide)) nx_if1))))
  (e_Tok2
  (e_Tok2
  (e_Lok (ps_iconst_1 (x_dk dn_54_0_2_ok 14 rfl)))
  (e_Lok (e_st (I := eI) (er_goto (off := 4) (tg := 183) (x_dk dn_54_0_2_ok 15 rfl) (by decide)) nx_goto)))
  (e_Tok2
  (e_Lok (ps_iconst_0 (x_dk dn_54_0_2_ok 16 rfl)))
  (e_Tok2
  (e_Lok (lk_3_239 ho_54 (x_dk dn_54_0_2_ok 17 rfl)))
  (e_Lok (e_rt (I := eI) (k := 0) ⟨(x_dk dn_54_0_2_ok 18 rfl), rfl⟩))))))))
def te_54 : Nat → eE := (e_T 109 te_54_0 te_54_34)
theorem te_54_ok : ∀ pc, e_EOq eft cls elay eI n_54 pc (te_54 pc) := (e_Tok2 (te_54_0_ok) (te_54_34_ok))
end
