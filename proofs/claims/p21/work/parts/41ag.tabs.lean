noncomputable section
theorem ho_94 : (xm_y n_94).cls = "RobotCellHouse$Joint" := rfl
def dn_94_0_0 : List (Nat × Instr × Nat) := [(0, .aload_n 0, 1), (1, .aload_n 0, 1), (2, .getfield 25, 3), (5, .invokevirtual 56, 3), (8, .ifCond .ne 5, 3), (11, .iconst 1, 1), (12, .ireturn, 1), (13, .iload_n 1, 1), (14, .ifCond .eq 40, 3), (17, .aload_n 0, 1), (18, .getfield 31, 3), (21, .invokestatic 53, 3), (24, .aload_n 0, 1), (25, .getfield 28, 3), (28, .if_icmp .gt 22, 3), (31, .aload_n 0, 1), (32, .getfield 31, 3), (35, .aload_n 0, 1), (36, .getfield 60, 3), (39, .isub, 1), (40, .invokestatic 53, 3), (43, .aload_n 0, 1), (44, .getfield 34, 3), (47, .if_icmp .le 7, 3), (50, .iconst 1, 1)]
set_option maxRecDepth 20000 in
theorem dn_94_0_0_ok : dn_94_0_0.all (fun q => decide (decode (xm_b n_94) q.1 = .ok (q.2.1, q.2.2))) = true := xa_g_ok (by decide +kernel)
def dn_94_0_1 : List (Nat × Instr × Nat) := [(51, .goto 4, 3), (54, .iconst 0, 1), (55, .ireturn, 1)]
set_option maxRecDepth 20000 in
theorem dn_94_0_1_ok : dn_94_0_1.all (fun q => decide (decode (xm_b n_94) q.1 = .ok (q.2.1, q.2.2))) = true := xa_g_ok (by decide +kernel)
def te_94_0 : Nat → eE := (e_T 25 (e_T 12 (e_T 2 (e_T 0 (e_L 0 (0, ei_load 0 2 1, 0, 0)) (e_T 1 (e_L 1 (0, ei_load 0 2 2, 0, 0)) (e_L 2 (0, ei_getf eft elay 5 7 5, 0, 0)))) (e_T 8 (e_T 5 (e_L 5 (2, e_nof, 89, 2)) (e_L 8 (0, ei_if1 1 13 11, 0, 0))) (e_T 11 (e_L 11 (0, ei_push (0, 1) 12, 0, 0)) (e_L 12 (1, e_nof, 4, 0))))) (e_T 17 (e_T 13 (e_L 13 (0, ei_load 1 0 14, 0, 0)) (e_T 14 (e_L 14 (0, ei_if1 0 54 17, 0, 0)) (e_L 17 (0, ei_load 0 2 18, 0, 0)))) (e_T 21 (e_T 18 (e_L 18 (0, ei_getf eft elay 5 8 21, 0, 0)) (e_L 21 (0, ei_abs 24, 0, 0))) (e_T 24 (e_L 24 (0, ei_load 0 2 25, 0, 0)) (e_L 25 (0, ei_getf eft elay 5 5 28, 0, 0)))))) (e_T 40 (e_T 32 (e_T 28 (e_L 28 (0, ei_if2 4 50 31, 0, 0)) (e_T 31 (e_L 31 (0, ei_load 0 2 32, 0, 0)) (e_L 32 (0, ei_getf eft elay 5 8 35, 0, 0)))) (e_T 36 (e_T 35 (e_L 35 (0, ei_load 0 2 36, 0, 0)) (e_L 36 (0, ei_getf eft elay 5 11 39, 0, 0))) (e_T 39 (e_L 39 (0, ei_bin eF_sub 40, 0, 0)) (e_L 40 (0, ei_abs 43, 0, 0))))) (e_T 47 (e_T 43 (e_L 43 (0, ei_load 0 2 44, 0, 0)) (e_T 44 (e_L 44 (0, ei_getf eft elay 5 6 47, 0, 0)) (e_L 47 (0, ei_if2 5 54 50, 0, 0)))) (e_T 51 (e_T 50 (e_L 50 (0, ei_push (0, 1) 51, 0, 0)) (e_L 51 (0, ei_goto 55, 0, 0))) (e_T 54 (e_L 54 (0, ei_push (0, 0) 55, 0, 0)) (e_L 55 (1, e_nof, 4, 0)))))))
set_option maxRecDepth 20000 in
set_option maxHeartbeats 4000000 in
theorem te_94_0_ok : ∀ pc, e_EOq eft cls elay eI n_94 pc (te_94_0 pc) :=
  (e_Tok2
  (e_Tok2
  (e_Tok2
  (e_Tok2
  (e_Lok (ld_aload_n_0 (x_dk dn_94_0_0_ok 0 rfl)))
  (e_Tok2
  (e_Lok (ld_aload_n_0 (x_dk dn_94_0_0_ok 1 rfl)))
  (e_Lok (lk_5_25g ho_94 (x_dk dn_94_0_0_ok 2 rfl)))))
  (e_Tok2
  (e_Tok2
  (e_Lok (lk_5_56 ho_94 (x_dk dn_94_0_0_ok 3 rfl)))
  (e_Lok (e_st (I := eI) (er_ifne (off := 5) (tg := 13) (x_dk dn_94_0_0_ok 4 rfl) (by decide)) nx_if1)))
  (e_Tok2
  (e_Lok (ps_iconst_1 (x_dk dn_94_0_0_ok 5 rfl)))
  (e_Lok (e_rt (I := eI) (k := 4) ⟨(x_dk dn_94_0_0_ok 6 rfl), rfl⟩)))))
  (e_Tok2
  (e_Tok2
  (e_Lok (ld_iload_n_1 (x_dk dn_94_0_0_ok 7 rfl)))
  (e_Tok2
  (e_Lok (e_st (I := eI) (er_ifeq (off := 40) (tg := 54) (x_dk dn_94_0_0_ok 8 rfl) (by decide)) nx_if1))
  (e_Lok (ld_aload_n_0 (x_dk dn_94_0_0_ok 9 rfl)))))
  (e_Tok2
  (e_Tok2
  (e_Lok (lk_5_31g ho_94 (x_dk dn_94_0_0_ok 10 rfl)))
  (e_Lok (e_st (I := eI) (er_abs (ix := 53) (in_t8 (List.mem_of_getElem? (i := 68) rfl) rfl) (in_t7 (List.mem_of_getElem? (i := 224) rfl) rfl) (in_t1 (List.mem_of_getElem? (i := 15) rfl) rfl) (in_t7 (List.mem_of_getElem? (i := 225) rfl) rfl) (x_dk dn_94_0_0_ok 11 rfl)) nx_abs)))
  (e_Tok2
  (e_Lok (ld_aload_n_0 (x_dk dn_94_0_0_ok 12 rfl)))
  (e_Lok (lk_5_28g ho_94 (x_dk dn_94_0_0_ok 13 rfl)))))))
  (e_Tok2
  (e_Tok2
  (e_Tok2
  (e_Lok (e_st (I := eI) (er_icmpgt (off := 22) (tg := 50) (x_dk dn_94_0_0_ok 14 rfl) (by decide)) nx_if2))
  (e_Tok2
  (e_Lok (ld_aload_n_0 (x_dk dn_94_0_0_ok 15 rfl)))
  (e_Lok (lk_5_31g ho_94 (x_dk dn_94_0_0_ok 16 rfl)))))
  (e_Tok2
  (e_Tok2
  (e_Lok (ld_aload_n_0 (x_dk dn_94_0_0_ok 17 rfl)))
  (e_Lok (lk_5_60g ho_94 (x_dk dn_94_0_0_ok 18 rfl))))
  (e_Tok2
  (e_Lok (sm_isub (x_dk dn_94_0_0_ok 19 rfl)))
  (e_Lok (e_st (I := eI) (er_abs (ix := 53) (in_t8 (List.mem_of_getElem? (i := 68) rfl) rfl) (in_t7 (List.mem_of_getElem? (i := 224) rfl) rfl) (in_t1 (List.mem_of_getElem? (i := 15) rfl) rfl) (in_t7 (List.mem_of_getElem? (i := 225) rfl) rfl) (x_dk dn_94_0_0_ok 20 rfl)) nx_abs)))))
  (e_Tok2
  (e_Tok2
  (e_Lok (ld_aload_n_0 (x_dk dn_94_0_0_ok 21 rfl)))
  (e_Tok2
  (e_Lok (lk_5_34g ho_94 (x_dk dn_94_0_0_ok 22 rfl)))
  (e_Lok (e_st (I := eI) (er_icmple (off := 7) (tg := 54) (x_dk dn_94_0_0_ok 23 rfl) (by decide)) nx_if2))))
  (e_Tok2
  (e_Tok2
  (e_Lok (ps_iconst_1 (x_dk dn_94_0_0_ok 24 rfl)))
  (e_Lok (e_st (I := eI) (er_goto (off := 4) (tg := 55) (x_dk dn_94_0_1_ok 0 rfl) (by decide)) nx_goto)))
  (e_Tok2
  (e_Lok (ps_iconst_0 (x_dk dn_94_0_1_ok 1 rfl)))
  (e_Lok (e_rt (I := eI) (k := 4) ⟨(x_dk dn_94_0_1_ok 2 rfl), rfl⟩)))))))
def te_94 : Nat → eE := te_94_0
theorem te_94_ok : ∀ pc, e_EOq eft cls elay eI n_94 pc (te_94 pc) := te_94_0_ok
theorem ho_95 : (xm_y n_95).cls = "RobotCellHouse$Planner" := rfl
def dn_95_0_0 : List (Nat × Instr × Nat) := [(0, .iload_n 1, 1), (1, .iconst 0, 1), (2, .bipush 59, 2), (4, .invokestatic 41, 3), (7, .ifCond .eq 12, 3), (10, .aload_n 0, 1), (11, .getfield 35, 3), (14, .iload_n 1, 1), (15, .iaload, 1), (16, .goto 4, 3), (19, .iconst 0, 1), (20, .ireturn, 1)]
set_option maxRecDepth 20000 in
theorem dn_95_0_0_ok : dn_95_0_0.all (fun q => decide (decode (xm_b n_95) q.1 = .ok (q.2.1, q.2.2))) = true := xa_g_ok (by decide +kernel)
def te_95_0 : Nat → eE := (e_T 10 (e_T 2 (e_T 0 (e_L 0 (0, ei_load 1 0 1, 0, 0)) (e_T 1 (e_L 1 (0, ei_push (0, 0) 2, 0, 0)) (e_L 2 (0, ei_push (0, 59) 4, 0, 0)))) (e_T 4 (e_L 4 (2, e_nof, 242, 3)) (e_T 7 (e_L 7 (0, ei_if1 0 19 10, 0, 0)) (e_L 10 (0, ei_load 0 2 11, 0, 0))))) (e_T 15 (e_T 11 (e_L 11 (0, ei_getf eft elay 6 11 14, 0, 0)) (e_T 14 (e_L 14 (0, ei_load 1 0 15, 0, 0)) (e_L 15 (0, ei_ald elay false 16, 0, 0)))) (e_T 16 (e_L 16 (0, ei_goto 20, 0, 0)) (e_T 19 (e_L 19 (0, ei_push (0, 0) 20, 0, 0)) (e_L 20 (1, e_nof, 1, 0))))))
set_option maxRecDepth 20000 in
set_option maxHeartbeats 4000000 in
theorem te_95_0_ok : ∀ pc, e_EOq eft cls elay eI n_95 pc (te_95_0 pc) :=
  (e_Tok2
  (e_Tok2
  (e_Tok2
  (e_Lok (ld_iload_n_1 (x_dk dn_95_0_0_ok 0 rfl)))
  (e_Tok2
  (e_Lok (ps_iconst_0 (x_dk dn_95_0_0_ok 1 rfl)))
  (e_Lok (ps_bipush_59 (x_dk dn_95_0_0_ok 2 rfl)))))
  (e_Tok2
  (e_Lok (lk_6_41 ho_95 (x_dk dn_95_0_0_ok 3 rfl)))
  (e_Tok2
  (e_Lok (e_st (I := eI) (er_ifeq (off := 12) (tg := 19) (x_dk dn_95_0_0_ok 4 rfl) (by decide)) nx_if1))
  (e_Lok (ld_aload_n_0 (x_dk dn_95_0_0_ok 5 rfl))))))
  (e_Tok2
  (e_Tok2
  (e_Lok (lk_6_35g ho_95 (x_dk dn_95_0_0_ok 6 rfl)))
  (e_Tok2
  (e_Lok (ld_iload_n_1 (x_dk dn_95_0_0_ok 7 rfl)))
  (e_Lok (sm_iaload (x_dk dn_95_0_0_ok 8 rfl)))))
  (e_Tok2
  (e_Lok (e_st (I := eI) (er_goto (off := 4) (tg := 20) (x_dk dn_95_0_0_ok 9 rfl) (by decide)) nx_goto))
  (e_Tok2
  (e_Lok (ps_iconst_0 (x_dk dn_95_0_0_ok 10 rfl)))
  (e_Lok (e_rt (I := eI) (k := 1) ⟨(x_dk dn_95_0_0_ok 11 rfl), rfl⟩))))))
def te_95 : Nat → eE := te_95_0
theorem te_95_ok : ∀ pc, e_EOq eft cls elay eI n_95 pc (te_95 pc) := te_95_0_ok
theorem ho_96 : (xm_y n_96).cls = "RobotCellHouse$Planner" := rfl
def dn_96_0_0 : List (Nat × Instr × Nat) := [(0, .iload_n 2, 1), (1, .iconst 0, 1), (2, .aload_n 0, 1), (3, .iload_n 1, 1), (4, .invokevirtual 45, 3), (7, .iconst 1, 1), (8, .isub, 1), (9, .invokestatic 41, 3), (12, .ifCond .eq 18, 3), (15, .aload_n 0, 1), (16, .getfield 31, 3), (19, .iload_n 1, 1), (20, .sipush 1000, 3), (23, .imul, 1), (24, .iload_n 2, 1), (25, .iadd, 1), (26, .baload, 1), (27, .goto 4, 3), (30, .iconst (-1), 1), (31, .ireturn, 1)]
set_option maxRecDepth 20000 in
theorem dn_96_0_0_ok : dn_96_0_0.all (fun q => decide (decode (xm_b n_96) q.1 = .ok (q.2.1, q.2.2))) = true := xa_g_ok (by decide +kernel)
def te_96_0 : Nat → eE := (e_T 15 (e_T 4 (e_T 1 (e_T 0 (e_L 0 (0, ei_load 2 0 1, 0, 0)) (e_L 1 (0, ei_push (0, 0) 2, 0, 0))) (e_T 2 (e_L 2 (0, ei_load 0 2 3, 0, 0)) (e_T 3 (e_L 3 (0, ei_load 1 0 4, 0, 0)) (e_L 4 (2, e_nof, 95, 2))))) (e_T 8 (e_T 7 (e_L 7 (0, ei_push (0, 1) 8, 0, 0)) (e_L 8 (0, ei_bin eF_sub 9, 0, 0))) (e_T 9 (e_L 9 (2, e_nof, 242, 3)) (e_T 12 (e_L 12 (0, ei_if1 0 30 15, 0, 0)) (e_L 15 (0, ei_load 0 2 16, 0, 0)))))) (e_T 24 (e_T 19 (e_T 16 (e_L 16 (0, ei_getf eft elay 6 10 19, 0, 0)) (e_L 19 (0, ei_load 1 0 20, 0, 0))) (e_T 20 (e_L 20 (0, ei_push (0, 1000) 23, 0, 0)) (e_T 23 (e_L 23 (0, ei_bin eF_mul 24, 0, 0)) (e_L 24 (0, ei_load 2 0 25, 0, 0))))) (e_T 26 (e_T 25 (e_L 25 (0, ei_bin eF_add 26, 0, 0)) (e_L 26 (0, ei_ald elay true 27, 0, 0))) (e_T 27 (e_L 27 (0, ei_goto 31, 0, 0)) (e_T 30 (e_L 30 (0, ei_push (0, (-1)) 31, 0, 0)) (e_L 31 (1, e_nof, 1, 0)))))))
set_option maxRecDepth 20000 in
set_option maxHeartbeats 4000000 in
theorem te_96_0_ok : ∀ pc, e_EOq eft cls elay eI n_96 pc (te_96_0 pc) :=
  (e_Tok2
  (e_Tok2
  (e_Tok2
  (e_Tok2
  (e_Lok (ld_iload_n_2 (x_dk dn_96_0_0_ok 0 rfl)))
  (e_Lok (ps_iconst_0 (x_dk dn_96_0_0_ok 1 rfl))))
  (e_Tok2
  (e_Lok (ld_aload_n_0 (x_dk dn_96_0_0_ok 2 rfl)))
  (e_Tok2
  (e_Lok (ld_iload_n_1 (x_dk dn_96_0_0_ok 3 rfl)))
  (e_Lok (lk_6_45 ho_96 (x_dk dn_96_0_0_ok 4 rfl))))))
  (e_Tok2
  (e_Tok2
  (e_Lok (ps_iconst_1 (x_dk dn_96_0_0_ok 5 rfl)))
  (e_Lok (sm_isub (x_dk dn_96_0_0_ok 6 rfl))))
  (e_Tok2
  (e_Lok (lk_6_41 ho_96 (x_dk dn_96_0_0_ok 7 rfl)))
  (e_Tok2
  (e_Lok (e_st (I := eI) (er_ifeq (off := 18) (tg := 30) (x_dk dn_96_0_0_ok 8 rfl) (by decide)) nx_if1))
  (e_Lok (ld_aload_n_0 (x_dk dn_96_0_0_ok 9 rfl)))))))
  (e_Tok2
  (e_Tok2
  (e_Tok2
  (e_Lok (lk_6_31g ho_96 (x_dk dn_96_0_0_ok 10 rfl)))
  (e_Lok (ld_iload_n_1 (x_dk dn_96_0_0_ok 11 rfl))))
  (e_Tok2
  (e_Lok (ps_sipush_1000 (x_dk dn_96_0_0_ok 12 rfl)))
  (e_Tok2
  (e_Lok (sm_imul (x_dk dn_96_0_0_ok 13 rfl)))
  (e_Lok (ld_iload_n_2 (x_dk dn_96_0_0_ok 14 rfl))))))
  (e_Tok2
  (e_Tok2
  (e_Lok (sm_iadd (x_dk dn_96_0_0_ok 15 rfl)))
  (e_Lok (e_st (I := eI) (er_baload (x_dk dn_96_0_0_ok 16 rfl)) nx_ald)))
  (e_Tok2
  (e_Lok (e_st (I := eI) (er_goto (off := 4) (tg := 31) (x_dk dn_96_0_0_ok 17 rfl) (by decide)) nx_goto))
  (e_Tok2
  (e_Lok (ps_iconst_m1 (x_dk dn_96_0_0_ok 18 rfl)))
  (e_Lok (e_rt (I := eI) (k := 1) ⟨(x_dk dn_96_0_0_ok 19 rfl), rfl⟩)))))))
def te_96 : Nat → eE := te_96_0
theorem te_96_ok : ∀ pc, e_EOq eft cls elay eI n_96 pc (te_96 pc) := te_96_0_ok
theorem ho_97 : (xm_y n_97).cls = "RobotCellHouse$Planner" := rfl
def dn_97_0_0 : List (Nat × Instr × Nat) := [(0, .aload_n 1, 1), (1, .iload_n 2, 1), (2, .putfield 49, 3), (5, .aload_n 1, 1), (6, .iconst 0, 1), (7, .putfield 55, 3), (10, .aload_n 0, 1), (11, .iload_n 2, 1), (12, .invokevirtual 45, 3), (15, .ireturn, 1)]
set_option maxRecDepth 20000 in
theorem dn_97_0_0_ok : dn_97_0_0.all (fun q => decide (decode (xm_b n_97) q.1 = .ok (q.2.1, q.2.2))) = true := xa_g_ok (by decide +kernel)
def te_97_0 : Nat → eE := (e_T 6 (e_T 1 (e_T 0 (e_L 0 (0, ei_load 1 2 1, 0, 0)) (e_L 1 (0, ei_load 2 0 2, 0, 0))) (e_T 2 (e_L 2 (0, ei_putf eft elay 0 17 0 5, 0, 0)) (e_T 5 (e_L 5 (0, ei_load 1 2 6, 0, 0)) (e_L 6 (0, ei_push (0, 0) 7, 0, 0))))) (e_T 10 (e_T 7 (e_L 7 (0, ei_putf eft elay 0 19 0 10, 0, 0)) (e_L 10 (0, ei_load 0 2 11, 0, 0))) (e_T 11 (e_L 11 (0, ei_load 2 0 12, 0, 0)) (e_T 12 (e_L 12 (2, e_nof, 95, 2)) (e_L 15 (1, e_nof, 1, 0))))))
set_option maxRecDepth 20000 in
set_option maxHeartbeats 4000000 in
theorem te_97_0_ok : ∀ pc, e_EOq eft cls elay eI n_97 pc (te_97_0 pc) :=
  (e_Tok2
  (e_Tok2
  (e_Tok2
  (e_Lok (ld_aload_n_1 (x_dk dn_97_0_0_ok 0 rfl)))
  (e_Lok (ld_iload_n_2 (x_dk dn_97_0_0_ok 1 rfl))))
  (e_Tok2
  (e_Lok (lk_6_49p ho_97 (x_dk dn_97_0_0_ok 2 rfl)))
  (e_Tok2
  (e_Lok (ld_aload_n_1 (x_dk dn_97_0_0_ok 3 rfl)))
  (e_Lok (ps_iconst_0 (x_dk dn_97_0_0_ok 4 rfl))))))
  (e_Tok2
  (e_Tok2
  (e_Lok (lk_6_55p ho_97 (x_dk dn_97_0_0_ok 5 rfl)))
  (e_Lok (ld_aload_n_0 (x_dk dn_97_0_0_ok 6 rfl))))
  (e_Tok2
  (e_Lok (ld_iload_n_2 (x_dk dn_97_0_0_ok 7 rfl)))
  (e_Tok2
  (e_Lok (lk_6_45 ho_97 (x_dk dn_97_0_0_ok 8 rfl)))
  (e_Lok (e_rt (I := eI) (k := 1) ⟨(x_dk dn_97_0_0_ok 9 rfl), rfl⟩))))))
def te_97 : Nat → eE := te_97_0
theorem te_97_ok : ∀ pc, e_EOq eft cls elay eI n_97 pc (te_97 pc) := te_97_0_ok
theorem ho_98 : (xm_y n_98).cls = "RobotCellHouse$Planner" := rfl
def dn_98_0_0 : List (Nat × Instr × Nat) := [(0, .iload_n 2, 1), (1, .iconst 1, 1), (2, .if_icmp .ge 5, 3), (5, .iconst 0, 1), (6, .ireturn, 1), (7, .aload_n 0, 1), (8, .iload_n 2, 1), (9, .putfield 58, 3), (12, .aload_n 0, 1), (13, .iload_n 3, 1), (14, .putfield 61, 3), (17, .aload_n 0, 1), (18, .iconst 0, 1), (19, .putfield 64, 3), (22, .iconst 1, 1), (23, .istore 4, 2), (25, .iconst 0, 1), (26, .istore 5, 2), (28, .iload 5, 2), (30, .aload_n 1, 1), (31, .getfield 67, 3), (34, .if_icmp .ge 130, 3), (37, .aload_n 1, 1), (38, .getfield 70, 3), (41, .iload 5, 2)]
set_option maxRecDepth 20000 in
theorem dn_98_0_0_ok : dn_98_0_0.all (fun q => decide (decode (xm_b n_98) q.1 = .ok (q.2.1, q.2.2))) = true := xa_g_ok (by decide +kernel)
def dn_98_0_1 : List (Nat × Instr × Nat) := [(43, .aaload, 1), (44, .astore 6, 2), (46, .aload_n 0, 1), (47, .getfield 9, 3), (50, .iload 5, 2), (52, .aload 6, 2), (54, .getfield 74, 3), (57, .iastore, 1), (58, .aload_n 0, 1), (59, .getfield 15, 3), (62, .iload 5, 2), (64, .aload 6, 2), (66, .getfield 74, 3), (69, .aload 6, 2), (71, .getfield 79, 3), (74, .isub, 1), (75, .iload_n 2, 1), (76, .idiv, 1), (77, .iastore, 1), (78, .aload_n 0, 1), (79, .getfield 18, 3), (82, .iload 5, 2), (84, .aload_n 0, 1), (85, .getfield 15, 3), (88, .iload 5, 2)]
set_option maxRecDepth 20000 in
theorem dn_98_0_1_ok : dn_98_0_1.all (fun q => decide (decode (xm_b n_98) q.1 = .ok (q.2.1, q.2.2))) = true := xa_g_ok (by decide +kernel)
def dn_98_0_2 : List (Nat × Instr × Nat) := [(90, .iaload, 1), (91, .aload 6, 2), (93, .getfield 82, 3), (96, .aload 6, 2), (98, .getfield 74, 3), (101, .isub, 1), (102, .iload_n 2, 1), (103, .idiv, 1), (104, .iadd, 1), (105, .iconst 1, 1), (106, .iadd, 1), (107, .iastore, 1), (108, .aload_n 0, 1), (109, .getfield 21, 3), (112, .iload 5, 2), (114, .iload 4, 2), (116, .iastore, 1), (117, .aload_n 0, 1), (118, .dup, 1), (119, .getfield 64, 3), (122, .aload_n 0, 1), (123, .getfield 15, 3), (126, .iload 5, 2), (128, .iaload, 1), (129, .iload 4, 2)]
set_option maxRecDepth 20000 in
theorem dn_98_0_2_ok : dn_98_0_2.all (fun q => decide (decode (xm_b n_98) q.1 = .ok (q.2.1, q.2.2))) = true := xa_g_ok (by decide +kernel)
def dn_98_0_3 : List (Nat × Instr × Nat) := [(131, .imul, 1), (132, .iadd, 1), (133, .putfield 64, 3), (136, .iload 4, 2), (138, .aload_n 0, 1), (139, .getfield 18, 3), (142, .iload 5, 2), (144, .iaload, 1), (145, .imul, 1), (146, .istore 4, 2), (148, .iload 4, 2), (150, .sipush 1000, 3), (153, .if_icmp .le 5, 3), (156, .iconst 0, 1), (157, .ireturn, 1), (158, .iinc 5 1, 3), (161, .goto (-133), 3), (164, .iconst 1, 1), (165, .ireturn, 1)]
set_option maxRecDepth 20000 in
theorem dn_98_0_3_ok : dn_98_0_3.all (fun q => decide (decode (xm_b n_98) q.1 = .ok (q.2.1, q.2.2))) = true := xa_g_ok (by decide +kernel)
def te_98_0 : Nat → eE := (e_T 14 (e_T 6 (e_T 1 (e_T 0 (e_L 0 (0, ei_load 2 0 1, 0, 0)) (e_L 1 (0, ei_push (0, 1) 2, 0, 0))) (e_T 2 (e_L 2 (0, ei_if2 3 7 5, 0, 0)) (e_T 5 (e_L 5 (0, ei_push (0, 0) 6, 0, 0)) (e_L 6 (1, e_nof, 4, 0))))) (e_T 9 (e_T 7 (e_L 7 (0, ei_load 0 2 8, 0, 0)) (e_T 8 (e_L 8 (0, ei_load 2 0 9, 0, 0)) (e_L 9 (0, ei_putf eft elay 6 1 0 12, 0, 0)))) (e_T 12 (e_L 12 (0, ei_load 0 2 13, 0, 0)) (e_T 13 (e_L 13 (0, ei_load 3 0 14, 0, 0)) (e_L 14 (0, ei_putf eft elay 6 2 0 17, 0, 0)))))) (e_T 25 (e_T 19 (e_T 17 (e_L 17 (0, ei_load 0 2 18, 0, 0)) (e_T 18 (e_L 18 (0, ei_push (0, 0) 19, 0, 0)) (e_L 19 (0, ei_putf eft elay 6 3 0 22, 0, 0)))) (e_T 22 (e_L 22 (0, ei_push (0, 1) 23, 0, 0)) (e_T 23 (e_L 23 (0, ei_stor 4 0 25, 0, 0)) (e_L 25 (0, ei_push (0, 0) 26, 0, 0))))) (e_T 30 (e_T 26 (e_L 26 (0, ei_stor 5 0 28, 0, 0)) (e_T 28 (e_L 28 (0, ei_load 5 0 30, 0, 0)) (e_L 30 (0, ei_load 1 2 31, 0, 0)))) (e_T 31 (e_L 31 (0, ei_getf eft elay 0 8 34, 0, 0)) (e_T 34 (e_L 34 (0, ei_if2 3 164 37, 0, 0)) (e_L 37 (0, ei_load 1 2 38, 0, 0)))))))
set_option maxRecDepth 20000 in
set_option maxHeartbeats 4000000 in
theorem te_98_0_ok : ∀ pc, e_EOq eft cls elay eI n_98 pc (te_98_0 pc) :=
  (e_Tok2
  (e_Tok2
  (e_Tok2
  (e_Tok2
  (e_Lok (ld_iload_n_2 (x_dk dn_98_0_0_ok 0 rfl)))
  (e_Lok (ps_iconst_1 (x_dk dn_98_0_0_ok 1 rfl))))
  (e_Tok2
  (e_Lok (e_st (I := eI) (er_icmpge (off := 5) (tg := 7) (x_dk dn_98_0_0_ok 2 rfl) (by decide)) nx_if2))
  (e_Tok2
  (e_Lok (ps_iconst_0 (x_dk dn_98_0_0_ok 3 rfl)))
  (e_Lok (e_rt (I := eI) (k := 4) ⟨(x_dk dn_98_0_0_ok 4 rfl), rfl⟩)))))
  (e_Tok2
  (e_Tok2
  (e_Lok (ld_aload_n_0 (x_dk dn_98_0_0_ok 5 rfl)))
  (e_Tok2
  (e_Lok (ld_iload_n_2 (x_dk dn_98_0_0_ok 6 rfl)))
  (e_Lok (lk_6_58p ho_98 (x_dk dn_98_0_0_ok 7 rfl)))))
  (e_Tok2
  (e_Lok (ld_aload_n_0 (x_dk dn_98_0_0_ok 8 rfl)))
  (e_Tok2
  (e_Lok (ld_iload_n_3 (x_dk dn_98_0_0_ok 9 rfl)))
  (e_Lok (lk_6_61p ho_98 (x_dk dn_98_0_0_ok 10 rfl)))))))
  (e_Tok2
  (e_Tok2
  (e_Tok2
  (e_Lok (ld_aload_n_0 (x_dk dn_98_0_0_ok 11 rfl)))
  (e_Tok2
  (e_Lok (ps_iconst_0 (x_dk dn_98_0_0_ok 12 rfl)))
  (e_Lok (lk_6_64p ho_98 (x_dk dn_98_0_0_ok 13 rfl)))))
  (e_Tok2
  (e_Lok (ps_iconst_1 (x_dk dn_98_0_0_ok 14 rfl)))
  (e_Tok2
  (e_Lok (e_st (I := eI) (er_istore (i := 4) (x_dk dn_98_0_0_ok 15 rfl) (by decide +kernel)) nx_stor))
  (e_Lok (ps_iconst_0 (x_dk dn_98_0_0_ok 16 rfl))))))
  (e_Tok2
  (e_Tok2
  (e_Lok (e_st (I := eI) (er_istore (i := 5) (x_dk dn_98_0_0_ok 17 rfl) (by decide +kernel)) nx_stor))
  (e_Tok2
  (e_Lok (ld_iload_5 (x_dk dn_98_0_0_ok 18 rfl)))
  (e_Lok (ld_aload_n_1 (x_dk dn_98_0_0_ok 19 rfl)))))
  (e_Tok2
  (e_Lok (lk_6_67g ho_98 (x_dk dn_98_0_0_ok 20 rfl)))
  (e_Tok2
  (e_Lok (e_st (I := eI) (er_icmpge (off := 130) (tg := 164) (x_dk dn_98_0_0_ok 21 rfl) (by decide)) nx_if2))
  (e_Lok (ld_aload_n_1 (x_dk dn_98_0_0_ok 22 rfl))))))))
def te_98_23 : Nat → eE := (e_T 59 (e_T 47 (e_T 43 (e_T 38 (e_L 38 (0, ei_getf eft elay 0 0 41, 0, 0)) (e_T 41 (e_L 41 (0, ei_load 5 0 43, 0, 0)) (e_L 43 (0, ei_aald elay 44, 0, 0)))) (e_T 44 (e_L 44 (0, ei_stor 6 2 46, 0, 0)) (e_T 46 (e_L 46 (0, ei_load 0 2 47, 0, 0)) (e_L 47 (0, ei_getf eft elay 6 4 50, 0, 0))))) (e_T 54 (e_T 50 (e_L 50 (0, ei_load 5 0 52, 0, 0)) (e_T 52 (e_L 52 (0, ei_load 6 2 54, 0, 0)) (e_L 54 (0, ei_getf eft elay 5 7 57, 0, 0)))) (e_T 57 (e_L 57 (0, ei_ast elay false 58, 0, 0)) (e_T 58 (e_L 58 (0, ei_load 0 2 59, 0, 0)) (e_L 59 (0, ei_getf eft elay 6 5 62, 0, 0)))))) (e_T 74 (e_T 66 (e_T 62 (e_L 62 (0, ei_load 5 0 64, 0, 0)) (e_T 64 (e_L 64 (0, ei_load 6 2 66, 0, 0)) (e_L 66 (0, ei_getf eft elay 5 7 69, 0, 0)))) (e_T 69 (e_L 69 (0, ei_load 6 2 71, 0, 0)) (e_T 71 (e_L 71 (0, ei_getf eft elay 5 1 74, 0, 0)) (e_L 74 (0, ei_bin eF_sub 75, 0, 0))))) (e_T 77 (e_T 75 (e_L 75 (0, ei_load 2 0 76, 0, 0)) (e_T 76 (e_L 76 (0, ei_bin eF_div 77, 0, 0)) (e_L 77 (0, ei_ast elay false 78, 0, 0)))) (e_T 78 (e_L 78 (0, ei_load 0 2 79, 0, 0)) (e_T 79 (e_L 79 (0, ei_getf eft elay 6 6 82, 0, 0)) (e_L 82 (0, ei_load 5 0 84, 0, 0)))))))
set_option maxRecDepth 20000 in
set_option maxHeartbeats 4000000 in
theorem te_98_23_ok : ∀ pc, e_EOq eft cls elay eI n_98 pc (te_98_23 pc) :=
  (e_Tok2
  (e_Tok2
  (e_Tok2
  (e_Tok2
  (e_Lok (lk_6_70g ho_98 (x_dk dn_98_0_0_ok 23 rfl)))
  (e_Tok2
  (e_Lok (ld_iload_5 (x_dk dn_98_0_0_ok 24 rfl)))
  (e_Lok (e_st (I := eI) (er_aaload (x_dk dn_98_0_1_ok 0 rfl)) nx_aald))))
  (e_Tok2
  (e_Lok (e_st (I := eI) (er_astore (i := 6) (x_dk dn_98_0_1_ok 1 rfl) (by decide +kernel)) nx_stor))
  (e_Tok2
  (e_Lok (ld_aload_n_0 (x_dk dn_98_0_1_ok 2 rfl)))
  (e_Lok (lk_6_9g ho_98 (x_dk dn_98_0_1_ok 3 rfl))))))
  (e_Tok2
  (e_Tok2
  (e_Lok (ld_iload_5 (x_dk dn_98_0_1_ok 4 rfl)))
  (e_Tok2
  (e_Lok (ld_aload_6 (x_dk dn_98_0_1_ok 5 rfl)))
  (e_Lok (lk_6_74g ho_98 (x_dk dn_98_0_1_ok 6 rfl)))))
  (e_Tok2
  (e_Lok (sm_iastore (x_dk dn_98_0_1_ok 7 rfl)))
  (e_Tok2
  (e_Lok (ld_aload_n_0 (x_dk dn_98_0_1_ok 8 rfl)))
  (e_Lok (lk_6_15g ho_98 (x_dk dn_98_0_1_ok 9 rfl)))))))
  (e_Tok2
  (e_Tok2
  (e_Tok2
  (e_Lok (ld_iload_5 (x_dk dn_98_0_1_ok 10 rfl)))
  (e_Tok2
  (e_Lok (ld_aload_6 (x_dk dn_98_0_1_ok 11 rfl)))
  (e_Lok (lk_6_74g ho_98 (x_dk dn_98_0_1_ok 12 rfl)))))
  (e_Tok2
  (e_Lok (ld_aload_6 (x_dk dn_98_0_1_ok 13 rfl)))
  (e_Tok2
  (e_Lok (lk_6_79g ho_98 (x_dk dn_98_0_1_ok 14 rfl)))
  (e_Lok (sm_isub (x_dk dn_98_0_1_ok 15 rfl))))))
  (e_Tok2
  (e_Tok2
  (e_Lok (ld_iload_n_2 (x_dk dn_98_0_1_ok 16 rfl)))
  (e_Tok2
  (e_Lok (e_st (I := eI) (er_idiv (x_dk dn_98_0_1_ok 17 rfl)) nx_bin))
  (e_Lok (sm_iastore (x_dk dn_98_0_1_ok 18 rfl)))))
  (e_Tok2
  (e_Lok (ld_aload_n_0 (x_dk dn_98_0_1_ok 19 rfl)))
  (e_Tok2
  (e_Lok (lk_6_18g ho_98 (x_dk dn_98_0_1_ok 20 rfl)))
  (e_Lok (ld_iload_5 (x_dk dn_98_0_1_ok 21 rfl))))))))
def te_98_47 : Nat → eE := (e_T 103 (e_T 91 (e_T 85 (e_T 84 (e_L 84 (0, ei_load 0 2 85, 0, 0)) (e_L 85 (0, ei_getf eft elay 6 5 88, 0, 0))) (e_T 88 (e_L 88 (0, ei_load 5 0 90, 0, 0)) (e_T 90 (e_L 90 (0, ei_ald elay false 91, 0, 0)) (e_L 91 (0, ei_load 6 2 93, 0, 0))))) (e_T 98 (e_T 93 (e_L 93 (0, ei_getf eft elay 5 2 96, 0, 0)) (e_T 96 (e_L 96 (0, ei_load 6 2 98, 0, 0)) (e_L 98 (0, ei_getf eft elay 5 7 101, 0, 0)))) (e_T 101 (e_L 101 (0, ei_bin eF_sub 102, 0, 0)) (e_T 102 (e_L 102 (0, ei_load 2 0 103, 0, 0)) (e_L 103 (0, ei_bin eF_div 104, 0, 0)))))) (e_T 109 (e_T 106 (e_T 104 (e_L 104 (0, ei_bin eF_add 105, 0, 0)) (e_T 105 (e_L 105 (0, ei_push (0, 1) 106, 0, 0)) (e_L 106 (0, ei_bin eF_add 107, 0, 0)))) (e_T 107 (e_L 107 (0, ei_ast elay false 108, 0, 0)) (e_T 108 (e_L 108 (0, ei_load 0 2 109, 0, 0)) (e_L 109 (0, ei_getf eft elay 6 7 112, 0, 0))))) (e_T 116 (e_T 112 (e_L 112 (0, ei_load 5 0 114, 0, 0)) (e_T 114 (e_L 114 (0, ei_load 4 0 116, 0, 0)) (e_L 116 (0, ei_ast elay false 117, 0, 0)))) (e_T 117 (e_L 117 (0, ei_load 0 2 118, 0, 0)) (e_T 118 (e_L 118 (0, ei_stk ef_dup 119, 0, 0)) (e_L 119 (0, ei_getf eft elay 6 3 122, 0, 0)))))))
set_option maxRecDepth 20000 in
set_option maxHeartbeats 4000000 in
theorem te_98_47_ok : ∀ pc, e_EOq eft cls elay eI n_98 pc (te_98_47 pc) :=
  (e_Tok2
  (e_Tok2
  (e_Tok2
  (e_Tok2
  (e_Lok (ld_aload_n_0 (x_dk dn_98_0_1_ok 22 rfl)))
  (e_Lok (lk_6_15g ho_98 (x_dk dn_98_0_1_ok 23 rfl))))
  (e_Tok2
  (e_Lok (ld_iload_5 (x_dk dn_98_0_1_ok 24 rfl)))
  (e_Tok2
  (e_Lok (sm_iaload (x_dk dn_98_0_2_ok 0 rfl)))
  (e_Lok (ld_aload_6 (x_dk dn_98_0_2_ok 1 rfl))))))
  (e_Tok2
  (e_Tok2
  (e_Lok (lk_6_82g ho_98 (x_dk dn_98_0_2_ok 2 rfl)))
  (e_Tok2
  (e_Lok (ld_aload_6 (x_dk dn_98_0_2_ok 3 rfl)))
  (e_Lok (lk_6_74g ho_98 (x_dk dn_98_0_2_ok 4 rfl)))))
  (e_Tok2
  (e_Lok (sm_isub (x_dk dn_98_0_2_ok 5 rfl)))
  (e_Tok2
  (e_Lok (ld_iload_n_2 (x_dk dn_98_0_2_ok 6 rfl)))
  (e_Lok (e_st (I := eI) (er_idiv (x_dk dn_98_0_2_ok 7 rfl)) nx_bin))))))
  (e_Tok2
  (e_Tok2
  (e_Tok2
  (e_Lok (sm_iadd (x_dk dn_98_0_2_ok 8 rfl)))
  (e_Tok2
  (e_Lok (ps_iconst_1 (x_dk dn_98_0_2_ok 9 rfl)))
  (e_Lok (sm_iadd (x_dk dn_98_0_2_ok 10 rfl)))))
  (e_Tok2
  (e_Lok (sm_iastore (x_dk dn_98_0_2_ok 11 rfl)))
  (e_Tok2
  (e_Lok (ld_aload_n_0 (x_dk dn_98_0_2_ok 12 rfl)))
  (e_Lok (lk_6_21g ho_98 (x_dk dn_98_0_2_ok 13 rfl))))))
  (e_Tok2
  (e_Tok2
  (e_Lok (ld_iload_5 (x_dk dn_98_0_2_ok 14 rfl)))
  (e_Tok2
  (e_Lok (ld_iload_4 (x_dk dn_98_0_2_ok 15 rfl)))
  (e_Lok (sm_iastore (x_dk dn_98_0_2_ok 16 rfl)))))
  (e_Tok2
  (e_Lok (ld_aload_n_0 (x_dk dn_98_0_2_ok 17 rfl)))
  (e_Tok2
  (e_Lok (e_st (I := eI) (er_dup (x_dk dn_98_0_2_ok 18 rfl)) (nx_stk bf_dup)))
  (e_Lok (lk_6_64g ho_98 (x_dk dn_98_0_2_ok 19 rfl))))))))
def te_98_70 : Nat → eE := (e_T 142 (e_T 131 (e_T 126 (e_T 122 (e_L 122 (0, ei_load 0 2 123, 0, 0)) (e_T 123 (e_L 123 (0, ei_getf eft elay 6 5 126, 0, 0)) (e_L 126 (0, ei_load 5 0 128, 0, 0)))) (e_T 128 (e_L 128 (0, ei_ald elay false 129, 0, 0)) (e_T 129 (e_L 129 (0, ei_load 4 0 131, 0, 0)) (e_L 131 (0, ei_bin eF_mul 132, 0, 0))))) (e_T 136 (e_T 132 (e_L 132 (0, ei_bin eF_add 133, 0, 0)) (e_T 133 (e_L 133 (0, ei_putf eft elay 6 3 0 136, 0, 0)) (e_L 136 (0, ei_load 4 0 138, 0, 0)))) (e_T 138 (e_L 138 (0, ei_load 0 2 139, 0, 0)) (e_T 139 (e_L 139 (0, ei_getf eft elay 6 6 142, 0, 0)) (e_L 142 (0, ei_load 5 0 144, 0, 0)))))) (e_T 153 (e_T 146 (e_T 144 (e_L 144 (0, ei_ald elay false 145, 0, 0)) (e_T 145 (e_L 145 (0, ei_bin eF_mul 146, 0, 0)) (e_L 146 (0, ei_stor 4 0 148, 0, 0)))) (e_T 148 (e_L 148 (0, ei_load 4 0 150, 0, 0)) (e_T 150 (e_L 150 (0, ei_push (0, 1000) 153, 0, 0)) (e_L 153 (0, ei_if2 5 158 156, 0, 0))))) (e_T 158 (e_T 156 (e_L 156 (0, ei_push (0, 0) 157, 0, 0)) (e_T 157 (e_L 157 (1, e_nof, 4, 0)) (e_L 158 (0, ei_inc 5 1 161, 0, 0)))) (e_T 161 (e_L 161 (0, ei_goto 28, 0, 0)) (e_T 164 (e_L 164 (0, ei_push (0, 1) 165, 0, 0)) (e_L 165 (1, e_nof, 4, 0)))))))
set_option maxRecDepth 20000 in
set_option maxHeartbeats 4000000 in
theorem te_98_70_ok : ∀ pc, e_EOq eft cls elay eI n_98 pc (te_98_70 pc) :=
  (e_Tok2
  (e_Tok2
  (e_Tok2
  (e_Tok2
  (e_Lok (ld_aload_n_0 (x_dk dn_98_0_2_ok 20 rfl)))
  (e_Tok2
  (e_Lok (lk_6_15g ho_98 (x_dk dn_98_0_2_ok 21 rfl)))
  (e_Lok (ld_iload_5 (x_dk dn_98_0_2_ok 22 rfl)))))
  (e_Tok2
  (e_Lok (sm_iaload (x_dk dn_98_0_2_ok 23 rfl)))
  (e_Tok2
  (e_Lok (ld_iload_4 (x_dk dn_98_0_2_ok 24 rfl)))
  (e_Lok (sm_imul (x_dk dn_98_0_3_ok 0 rfl))))))
  (e_Tok2
  (e_Tok2
  (e_Lok (sm_iadd (x_dk dn_98_0_3_ok 1 rfl)))
  (e_Tok2
  (e_Lok (lk_6_64p ho_98 (x_dk dn_98_0_3_ok 2 rfl)))
  (e_Lok (ld_iload_4 (x_dk dn_98_0_3_ok 3 rfl)))))
  (e_Tok2
  (e_Lok (ld_aload_n_0 (x_dk dn_98_0_3_ok 4 rfl)))
  (e_Tok2
  (e_Lok (lk_6_18g ho_98 (x_dk dn_98_0_3_ok 5 rfl)))
  (e_Lok (ld_iload_5 (x_dk dn_98_0_3_ok 6 rfl)))))))
  (e_Tok2
  (e_Tok2
  (e_Tok2
  (e_Lok (sm_iaload (x_dk dn_98_0_3_ok 7 rfl)))
  (e_Tok2
  (e_Lok (sm_imul (x_dk dn_98_0_3_ok 8 rfl)))
  (e_Lok (e_st (I := eI) (er_istore (i := 4) (x_dk dn_98_0_3_ok 9 rfl) (by decide +kernel)) nx_stor))))
  (e_Tok2
  (e_Lok (ld_iload_4 (x_dk dn_98_0_3_ok 10 rfl)))
  (e_Tok2
  (e_Lok (ps_sipush_1000 (x_dk dn_98_0_3_ok 11 rfl)))
  (e_Lok (e_st (I := eI) (er_icmple (off := 5) (tg := 158) (x_dk dn_98_0_3_ok 12 rfl) (by decide)) nx_if2)))))
  (e_Tok2
  (e_Tok2
  (e_Lok (ps_iconst_0 (x_dk dn_98_0_3_ok 13 rfl)))
  (e_Tok2
  (e_Lok (e_rt (I := eI) (k := 4) ⟨(x_dk dn_98_0_3_ok 14 rfl), rfl⟩))
  (e_Lok (e_st (I := eI) (er_iinc (i := 5) (n := 1) (x_dk dn_98_0_3_ok 15 rfl) (by decide +kernel) (by decide)) nx_inc))))
  (e_Tok2
  (e_Lok (e_st (I := eI) (er_goto (off := (-133)) (tg := 28) (x_dk dn_98_0_3_ok 16 rfl) (by decide)) nx_goto))
  (e_Tok2
  (e_Lok (ps_iconst_1 (x_dk dn_98_0_3_ok 17 rfl)))
  (e_Lok (e_rt (I := eI) (k := 4) ⟨(x_dk dn_98_0_3_ok 18 rfl), rfl⟩)))))))
def te_98 : Nat → eE := (e_T 82 (e_T 37 te_98_0 te_98_23) (e_T 119 te_98_47 te_98_70))
theorem te_98_ok : ∀ pc, e_EOq eft cls elay eI n_98 pc (te_98 pc) := (e_Tok2 ((e_Tok2 (te_98_0_ok) (te_98_23_ok))) ((e_Tok2 (te_98_47_ok) (te_98_70_ok))))
theorem ho_99 : (xm_y n_99).cls = "RobotCellHouse$Planner" := rfl
def dn_99_0_0 : List (Nat × Instr × Nat) := [(0, .iconst 0, 1), (1, .istore_n 3, 1), (2, .iconst 0, 1), (3, .istore 4, 2), (5, .iload 4, 2), (7, .aload_n 1, 1), (8, .getfield 67, 3), (11, .if_icmp .ge 88, 3), (14, .aload_n 1, 1), (15, .getfield 70, 3), (18, .iload 4, 2), (20, .aaload, 1), (21, .aload_n 2, 1), (22, .iload 4, 2), (24, .iaload, 1), (25, .invokevirtual 85, 3), (28, .ifCond .eq 11, 3), (31, .aload_n 0, 1), (32, .getfield 58, 3), (35, .iconst 1, 1), (36, .if_icmp .ge 5, 3), (39, .iconst (-1), 1), (40, .ireturn, 1), (41, .aload_n 2, 1), (42, .iload 4, 2)]
set_option maxRecDepth 20000 in
theorem dn_99_0_0_ok : dn_99_0_0.all (fun q => decide (decode (xm_b n_99) q.1 = .ok (q.2.1, q.2.2))) = true := xa_g_ok (by decide +kernel)
def dn_99_0_1 : List (Nat × Instr × Nat) := [(44, .iaload, 1), (45, .aload_n 0, 1), (46, .getfield 9, 3), (49, .iload 4, 2), (51, .iaload, 1), (52, .isub, 1), (53, .istore 5, 2), (55, .iload 5, 2), (57, .aload_n 0, 1), (58, .getfield 58, 3), (61, .irem, 1), (62, .ifCond .eq 5, 3), (65, .iconst (-1), 1), (66, .ireturn, 1), (67, .iload_n 3, 1), (68, .aload_n 0, 1), (69, .getfield 15, 3), (72, .iload 4, 2), (74, .iaload, 1), (75, .iload 5, 2), (77, .aload_n 0, 1), (78, .getfield 58, 3), (81, .idiv, 1), (82, .iadd, 1), (83, .aload_n 0, 1)]
set_option maxRecDepth 20000 in
theorem dn_99_0_1_ok : dn_99_0_1.all (fun q => decide (decode (xm_b n_99) q.1 = .ok (q.2.1, q.2.2))) = true := xa_g_ok (by decide +kernel)
def dn_99_0_2 : List (Nat × Instr × Nat) := [(84, .getfield 21, 3), (87, .iload 4, 2), (89, .iaload, 1), (90, .imul, 1), (91, .iadd, 1), (92, .istore_n 3, 1), (93, .iinc 4 1, 3), (96, .goto (-91), 3), (99, .iload_n 3, 1), (100, .ireturn, 1)]
set_option maxRecDepth 20000 in
theorem dn_99_0_2_ok : dn_99_0_2.all (fun q => decide (decode (xm_b n_99) q.1 = .ok (q.2.1, q.2.2))) = true := xa_g_ok (by decide +kernel)
def te_99_0 : Nat → eE := (e_T 24 (e_T 8 (e_T 2 (e_T 0 (e_L 0 (0, ei_push (0, 0) 1, 0, 0)) (e_T 1 (e_L 1 (0, ei_stor 3 0 2, 0, 0)) (e_L 2 (0, ei_push (0, 0) 3, 0, 0)))) (e_T 5 (e_T 3 (e_L 3 (0, ei_stor 4 0 5, 0, 0)) (e_L 5 (0, ei_load 4 0 7, 0, 0))) (e_T 7 (e_L 7 (0, ei_load 1 2 8, 0, 0)) (e_L 8 (0, ei_getf eft elay 0 8 11, 0, 0))))) (e_T 18 (e_T 14 (e_T 11 (e_L 11 (0, ei_if2 3 99 14, 0, 0)) (e_L 14 (0, ei_load 1 2 15, 0, 0))) (e_T 15 (e_L 15 (0, ei_getf eft elay 0 0 18, 0, 0)) (e_L 18 (0, ei_load 4 0 20, 0, 0)))) (e_T 21 (e_T 20 (e_L 20 (0, ei_aald elay 21, 0, 0)) (e_L 21 (0, ei_load 2 2 22, 0, 0))) (e_T 22 (e_L 22 (0, ei_load 4 0 24, 0, 0)) (e_L 24 (0, ei_ald elay false 25, 0, 0)))))) (e_T 39 (e_T 31 (e_T 25 (e_L 25 (2, e_nof, 89, 2)) (e_T 28 (e_L 28 (0, ei_if1 0 39 31, 0, 0)) (e_L 31 (0, ei_load 0 2 32, 0, 0)))) (e_T 35 (e_T 32 (e_L 32 (0, ei_getf eft elay 6 1 35, 0, 0)) (e_L 35 (0, ei_push (0, 1) 36, 0, 0))) (e_T 36 (e_L 36 (0, ei_if2 3 41 39, 0, 0)) (e_L 39 (0, ei_push (0, (-1)) 40, 0, 0))))) (e_T 44 (e_T 41 (e_T 40 (e_L 40 (1, e_nof, 1, 0)) (e_L 41 (0, ei_load 2 2 42, 0, 0))) (e_T 42 (e_L 42 (0, ei_load 4 0 44, 0, 0)) (e_L 44 (0, ei_ald elay false 45, 0, 0)))) (e_T 46 (e_T 45 (e_L 45 (0, ei_load 0 2 46, 0, 0)) (e_L 46 (0, ei_getf eft elay 6 4 49, 0, 0))) (e_T 49 (e_L 49 (0, ei_load 4 0 51, 0, 0)) (e_L 51 (0, ei_ald elay false 52, 0, 0)))))))
set_option maxRecDepth 20000 in
set_option maxHeartbeats 4000000 in
theorem te_99_0_ok : ∀ pc, e_EOq eft cls elay eI n_99 pc (te_99_0 pc) :=
  (e_Tok2
  (e_Tok2
  (e_Tok2
  (e_Tok2
  (e_Lok (ps_iconst_0 (x_dk dn_99_0_0_ok 0 rfl)))
  (e_Tok2
  (e_Lok (e_st (I := eI) (er_istore_n (i := 3) (x_dk dn_99_0_0_ok 1 rfl) (by decide +kernel)) nx_stor))
  (e_Lok (ps_iconst_0 (x_dk dn_99_0_0_ok 2 rfl)))))
  (e_Tok2
  (e_Tok2
  (e_Lok (e_st (I := eI) (er_istore (i := 4) (x_dk dn_99_0_0_ok 3 rfl) (by decide +kernel)) nx_stor))
  (e_Lok (ld_iload_4 (x_dk dn_99_0_0_ok 4 rfl))))
  (e_Tok2
  (e_Lok (ld_aload_n_1 (x_dk dn_99_0_0_ok 5 rfl)))
  (e_Lok (lk_6_67g ho_99 (x_dk dn_99_0_0_ok 6 rfl))))))
  (e_Tok2
  (e_Tok2
  (e_Tok2
  (e_Lok (e_st (I := eI) (er_icmpge (off := 88) (tg := 99) (x_dk dn_99_0_0_ok 7 rfl) (by decide)) nx_if2))
  (e_Lok (ld_aload_n_1 (x_dk dn_99_0_0_ok 8 rfl))))
  (e_Tok2
  (e_Lok (lk_6_70g ho_99 (x_dk dn_99_0_0_ok 9 rfl)))
  (e_Lok (ld_iload_4 (x_dk dn_99_0_0_ok 10 rfl)))))
  (e_Tok2
  (e_Tok2
  (e_Lok (e_st (I := eI) (er_aaload (x_dk dn_99_0_0_ok 11 rfl)) nx_aald))
  (e_Lok (ld_aload_n_2 (x_dk dn_99_0_0_ok 12 rfl))))
  (e_Tok2
  (e_Lok (ld_iload_4 (x_dk dn_99_0_0_ok 13 rfl)))
  (e_Lok (sm_iaload (x_dk dn_99_0_0_ok 14 rfl)))))))
  (e_Tok2
  (e_Tok2
  (e_Tok2
  (e_Lok (lk_6_85 ho_99 (x_dk dn_99_0_0_ok 15 rfl)))
  (e_Tok2
  (e_Lok (e_st (I := eI) (er_ifeq (off := 11) (tg := 39) (x_dk dn_99_0_0_ok 16 rfl) (by decide)) nx_if1))
  (e_Lok (ld_aload_n_0 (x_dk dn_99_0_0_ok 17 rfl)))))
  (e_Tok2
  (e_Tok2
  (e_Lok (lk_6_58g ho_99 (x_dk dn_99_0_0_ok 18 rfl)))
  (e_Lok (ps_iconst_1 (x_dk dn_99_0_0_ok 19 rfl))))
  (e_Tok2
  (e_Lok (e_st (I := eI) (er_icmpge (off := 5) (tg := 41) (x_dk dn_99_0_0_ok 20 rfl) (by decide)) nx_if2))
  (e_Lok (ps_iconst_m1 (x_dk dn_99_0_0_ok 21 rfl))))))
  (e_Tok2
  (e_Tok2
  (e_Tok2
  (e_Lok (e_rt (I := eI) (k := 1) ⟨(x_dk dn_99_0_0_ok 22 rfl), rfl⟩))
  (e_Lok (ld_aload_n_2 (x_dk dn_99_0_0_ok 23 rfl))))
  (e_Tok2
  (e_Lok (ld_iload_4 (x_dk dn_99_0_0_ok 24 rfl)))
  (e_Lok (sm_iaload (x_dk dn_99_0_1_ok 0 rfl)))))
  (e_Tok2
  (e_Tok2
  (e_Lok (ld_aload_n_0 (x_dk dn_99_0_1_ok 1 rfl)))
  (e_Lok (lk_6_9g ho_99 (x_dk dn_99_0_1_ok 2 rfl))))
  (e_Tok2
  (e_Lok (ld_iload_4 (x_dk dn_99_0_1_ok 3 rfl)))
  (e_Lok (sm_iaload (x_dk dn_99_0_1_ok 4 rfl))))))))
def te_99_30 : Nat → eE := (e_T 75 (e_T 62 (e_T 55 (e_T 52 (e_L 52 (0, ei_bin eF_sub 53, 0, 0)) (e_T 53 (e_L 53 (0, ei_stor 5 0 55, 0, 0)) (e_L 55 (0, ei_load 5 0 57, 0, 0)))) (e_T 58 (e_T 57 (e_L 57 (0, ei_load 0 2 58, 0, 0)) (e_L 58 (0, ei_getf eft elay 6 1 61, 0, 0))) (e_T 61 (e_L 61 (0, ei_bin eF_rem 62, 0, 0)) (e_L 62 (0, ei_if1 0 67 65, 0, 0))))) (e_T 68 (e_T 66 (e_T 65 (e_L 65 (0, ei_push (0, (-1)) 66, 0, 0)) (e_L 66 (1, e_nof, 1, 0))) (e_T 67 (e_L 67 (0, ei_load 3 0 68, 0, 0)) (e_L 68 (0, ei_load 0 2 69, 0, 0)))) (e_T 72 (e_T 69 (e_L 69 (0, ei_getf eft elay 6 5 72, 0, 0)) (e_L 72 (0, ei_load 4 0 74, 0, 0))) (e_T 74 (e_L 74 (0, ei_ald elay false 75, 0, 0)) (e_L 75 (0, ei_load 5 0 77, 0, 0)))))) (e_T 87 (e_T 81 (e_T 77 (e_L 77 (0, ei_load 0 2 78, 0, 0)) (e_T 78 (e_L 78 (0, ei_getf eft elay 6 1 81, 0, 0)) (e_L 81 (0, ei_bin eF_div 82, 0, 0)))) (e_T 83 (e_T 82 (e_L 82 (0, ei_bin eF_add 83, 0, 0)) (e_L 83 (0, ei_load 0 2 84, 0, 0))) (e_T 84 (e_L 84 (0, ei_getf eft elay 6 7 87, 0, 0)) (e_L 87 (0, ei_load 4 0 89, 0, 0))))) (e_T 92 (e_T 90 (e_T 89 (e_L 89 (0, ei_ald elay false 90, 0, 0)) (e_L 90 (0, ei_bin eF_mul 91, 0, 0))) (e_T 91 (e_L 91 (0, ei_bin eF_add 92, 0, 0)) (e_L 92 (0, ei_stor 3 0 93, 0, 0)))) (e_T 96 (e_T 93 (e_L 93 (0, ei_inc 4 1 96, 0, 0)) (e_L 96 (0, ei_goto 5, 0, 0))) (e_T 99 (e_L 99 (0, ei_load 3 0 100, 0, 0)) (e_L 100 (1, e_nof, 1, 0)))))))
set_option maxRecDepth 20000 in
set_option maxHeartbeats 4000000 in
theorem te_99_30_ok : ∀ pc, e_EOq eft cls elay eI n_99 pc (te_99_30 pc) :=
  (e_Tok2
  (e_Tok2
  (e_Tok2
  (e_Tok2
  (e_Lok (sm_isub (x_dk dn_99_0_1_ok 5 rfl)))
  (e_Tok2
  (e_Lok (e_st (I := eI) (er_istore (i := 5) (x_dk dn_99_0_1_ok 6 rfl) (by decide +kernel)) nx_stor))
  (e_Lok (ld_iload_5 (x_dk dn_99_0_1_ok 7 rfl)))))
  (e_Tok2
  (e_Tok2
  (e_Lok (ld_aload_n_0 (x_dk dn_99_0_1_ok 8 rfl)))
  (e_Lok (lk_6_58g ho_99 (x_dk dn_99_0_1_ok 9 rfl))))
  (e_Tok2
  (e_Lok (e_st (I := eI) (er_irem (x_dk dn_99_0_1_ok 10 rfl)) nx_bin))
  (e_Lok (e_st (I := eI) (er_ifeq (off := 5) (tg := 67) (x_dk dn_99_0_1_ok 11 rfl) (by decide)) nx_if1)))))
  (e_Tok2
  (e_Tok2
  (e_Tok2
  (e_Lok (ps_iconst_m1 (x_dk dn_99_0_1_ok 12 rfl)))
  (e_Lok (e_rt (I := eI) (k := 1) ⟨(x_dk dn_99_0_1_ok 13 rfl), rfl⟩)))
  (e_Tok2
  (e_Lok (ld_iload_n_3 (x_dk dn_99_0_1_ok 14 rfl)))
  (e_Lok (ld_aload_n_0 (x_dk dn_99_0_1_ok 15 rfl)))))
  (e_Tok2
  (e_Tok2
  (e_Lok (lk_6_15g ho_99 (x_dk dn_99_0_1_ok 16 rfl)))
  (e_Lok (ld_iload_4 (x_dk dn_99_0_1_ok 17 rfl))))
  (e_Tok2
  (e_Lok (sm_iaload (x_dk dn_99_0_1_ok 18 rfl)))
  (e_Lok (ld_iload_5 (x_dk dn_99_0_1_ok 19 rfl)))))))
  (e_Tok2
  (e_Tok2
  (e_Tok2
  (e_Lok (ld_aload_n_0 (x_dk dn_99_0_1_ok 20 rfl)))
  (e_Tok2
  (e_Lok (lk_6_58g ho_99 (x_dk dn_99_0_1_ok 21 rfl)))
  (e_Lok (e_st (I := eI) (er_idiv (x_dk dn_99_0_1_ok 22 rfl)) nx_bin))))
  (e_Tok2
  (e_Tok2
  (e_Lok (sm_iadd (x_dk dn_99_0_1_ok 23 rfl)))
  (e_Lok (ld_aload_n_0 (x_dk dn_99_0_1_ok 24 rfl))))
  (e_Tok2
  (e_Lok (lk_6_21g ho_99 (x_dk dn_99_0_2_ok 0 rfl)))
  (e_Lok (ld_iload_4 (x_dk dn_99_0_2_ok 1 rfl))))))
  (e_Tok2
  (e_Tok2
  (e_Tok2
  (e_Lok (sm_iaload (x_dk dn_99_0_2_ok 2 rfl)))
  (e_Lok (sm_imul (x_dk dn_99_0_2_ok 3 rfl))))
  (e_Tok2
  (e_Lok (sm_iadd (x_dk dn_99_0_2_ok 4 rfl)))
  (e_Lok (e_st (I := eI) (er_istore_n (i := 3) (x_dk dn_99_0_2_ok 5 rfl) (by decide +kernel)) nx_stor))))
  (e_Tok2
  (e_Tok2
  (e_Lok (e_st (I := eI) (er_iinc (i := 4) (n := 1) (x_dk dn_99_0_2_ok 6 rfl) (by decide +kernel) (by decide)) nx_inc))
  (e_Lok (e_st (I := eI) (er_goto (off := (-91)) (tg := 5) (x_dk dn_99_0_2_ok 7 rfl) (by decide)) nx_goto)))
  (e_Tok2
  (e_Lok (ld_iload_n_3 (x_dk dn_99_0_2_ok 8 rfl)))
  (e_Lok (e_rt (I := eI) (k := 1) ⟨(x_dk dn_99_0_2_ok 9 rfl), rfl⟩)))))))
def te_99 : Nat → eE := (e_T 51 te_99_0 te_99_30)
theorem te_99_ok : ∀ pc, e_EOq eft cls elay eI n_99 pc (te_99 pc) := (e_Tok2 (te_99_0_ok) (te_99_30_ok))
theorem ho_100 : (xm_y n_100).cls = "RobotCellHouse$Planner" := rfl
def dn_100_0_0 : List (Nat × Instr × Nat) := [(0, .aload_n 1, 1), (1, .iload 4, 2), (3, .aaload, 1), (4, .astore 6, 2), (6, .aload_n 0, 1), (7, .getfield 27, 3), (10, .iconst 0, 1), (11, .invokestatic 89, 3), (14, .aload_n 3, 1), (15, .aload_n 1, 1), (16, .iload_n 2, 1), (17, .iload 4, 2), (19, .iconst 0, 1), (20, .aload_n 0, 1), (21, .getfield 61, 3), (24, .invokevirtual 95, 3), (27, .ifCond .eq 5, 3), (30, .iconst 0, 1), (31, .ireturn, 1), (32, .aload_n 0, 1), (33, .getfield 27, 3), (36, .aload_n 0, 1), (37, .getfield 64, 3), (40, .bipush 100, 2), (42, .iastore, 1)]
set_option maxRecDepth 20000 in
theorem dn_100_0_0_ok : dn_100_0_0.all (fun q => decide (decode (xm_b n_100) q.1 = .ok (q.2.1, q.2.2))) = true := xa_g_ok (by decide +kernel)
def dn_100_0_1 : List (Nat × Instr × Nat) := [(43, .aload_n 0, 1), (44, .getfield 24, 3), (47, .iconst 0, 1), (48, .aload_n 0, 1), (49, .getfield 64, 3), (52, .iastore, 1), (53, .iconst 1, 1), (54, .istore 7, 2), (56, .iconst 0, 1), (57, .istore 8, 2), (59, .iload 8, 2), (61, .iload 7, 2), (63, .if_icmp .ge 136, 3), (66, .aload_n 0, 1), (67, .getfield 27, 3), (70, .iload 5, 2), (72, .iaload, 1), (73, .ifCond .ne 126, 3), (76, .aload_n 0, 1), (77, .aload 6, 2), (79, .aload_n 0, 1), (80, .getfield 24, 3), (83, .iload 8, 2), (85, .iaload, 1), (86, .invokevirtual 101, 3)]
set_option maxRecDepth 20000 in
theorem dn_100_0_1_ok : dn_100_0_1.all (fun q => decide (decode (xm_b n_100) q.1 = .ok (q.2.1, q.2.2))) = true := xa_g_ok (by decide +kernel)
def dn_100_0_2 : List (Nat × Instr × Nat) := [(89, .iconst 0, 1), (90, .istore 9, 2), (92, .iload 9, 2), (94, .iconst 2, 1), (95, .aload 6, 2), (97, .getfield 67, 3), (100, .imul, 1), (101, .if_icmp .ge 92, 3), (104, .aload_n 0, 1), (105, .aload_n 0, 1), (106, .getfield 24, 3), (109, .iload 8, 2), (111, .iaload, 1), (112, .iload 9, 2), (114, .invokevirtual 105, 3), (117, .istore 10, 2), (119, .iload 10, 2), (121, .ifCond .lt 66, 3), (124, .aload_n 0, 1), (125, .getfield 27, 3), (128, .iload 10, 2), (130, .iaload, 1), (131, .ifCond .ne 56, 3), (134, .iload 7, 2), (136, .sipush 1000, 3)]
set_option maxRecDepth 20000 in
theorem dn_100_0_2_ok : dn_100_0_2.all (fun q => decide (decode (xm_b n_100) q.1 = .ok (q.2.1, q.2.2))) = true := xa_g_ok (by decide +kernel)
def dn_100_0_3 : List (Nat × Instr × Nat) := [(139, .if_icmp .lt 6, 3), (142, .goto 45, 3), (145, .aload_n 0, 1), (146, .aload_n 1, 1), (147, .iload_n 2, 1), (148, .aload_n 3, 1), (149, .iload 4, 2), (151, .iload 9, 2), (153, .iload 10, 2), (155, .invokevirtual 109, 3), (158, .ifCond .ne 6, 3), (161, .goto 26, 3), (164, .aload_n 0, 1), (165, .getfield 27, 3), (168, .iload 10, 2), (170, .iload 9, 2), (172, .iconst 1, 1), (173, .iadd, 1), (174, .iastore, 1), (175, .aload_n 0, 1), (176, .getfield 24, 3), (179, .iload 7, 2), (181, .iload 10, 2), (183, .iastore, 1), (184, .iinc 7 1, 3)]
set_option maxRecDepth 20000 in
theorem dn_100_0_3_ok : dn_100_0_3.all (fun q => decide (decode (xm_b n_100) q.1 = .ok (q.2.1, q.2.2))) = true := xa_g_ok (by decide +kernel)
def dn_100_1_0 : List (Nat × Instr × Nat) := [(187, .iinc 9 1, 3), (190, .goto (-98), 3), (193, .iinc 8 1, 3), (196, .goto (-137), 3), (199, .aload_n 0, 1), (200, .aload 6, 2), (202, .aload_n 0, 1), (203, .getfield 64, 3), (206, .invokevirtual 101, 3), (209, .aload 6, 2), (211, .invokevirtual 113, 3), (214, .aload_n 0, 1), (215, .getfield 27, 3), (218, .iload 5, 2), (220, .iaload, 1), (221, .ifCond .le 7, 3), (224, .iconst 1, 1), (225, .goto 4, 3), (228, .iconst 0, 1), (229, .ireturn, 1)]
set_option maxRecDepth 20000 in
theorem dn_100_1_0_ok : dn_100_1_0.all (fun q => decide (decode (xm_b n_100) q.1 = .ok (q.2.1, q.2.2))) = true := xa_g_ok (by decide +kernel)
def te_100_0 : Nat → eE := (e_T 21 (e_T 10 (e_T 3 (e_T 0 (e_L 0 (0, ei_load 1 2 1, 0, 0)) (e_T 1 (e_L 1 (0, ei_load 4 0 3, 0, 0)) (e_L 3 (0, ei_aald elay 4, 0, 0)))) (e_T 6 (e_T 4 (e_L 4 (0, ei_stor 6 2 6, 0, 0)) (e_L 6 (0, ei_load 0 2 7, 0, 0))) (e_T 7 (e_L 7 (0, ei_getf eft elay 6 9 10, 0, 0)) (e_L 10 (0, ei_push (0, 0) 11, 0, 0))))) (e_T 16 (e_T 14 (e_T 11 (e_L 11 (2, e_nof, 452, 2)) (e_L 14 (0, ei_load 3 2 15, 0, 0))) (e_T 15 (e_L 15 (0, ei_load 1 2 16, 0, 0)) (e_L 16 (0, ei_load 2 0 17, 0, 0)))) (e_T 19 (e_T 17 (e_L 17 (0, ei_load 4 0 19, 0, 0)) (e_L 19 (0, ei_push (0, 0) 20, 0, 0))) (e_T 20 (e_L 20 (0, ei_load 0 2 21, 0, 0)) (e_L 21 (0, ei_getf eft elay 6 2 24, 0, 0)))))) (e_T 36 (e_T 30 (e_T 24 (e_L 24 (2, e_nof, 171, 6)) (e_T 27 (e_L 27 (0, ei_if1 0 32 30, 0, 0)) (e_L 30 (0, ei_push (0, 0) 31, 0, 0)))) (e_T 32 (e_T 31 (e_L 31 (1, e_nof, 4, 0)) (e_L 32 (0, ei_load 0 2 33, 0, 0))) (e_T 33 (e_L 33 (0, ei_getf eft elay 6 9 36, 0, 0)) (e_L 36 (0, ei_load 0 2 37, 0, 0))))) (e_T 43 (e_T 40 (e_T 37 (e_L 37 (0, ei_getf eft elay 6 3 40, 0, 0)) (e_L 40 (0, ei_push (0, 100) 42, 0, 0))) (e_T 42 (e_L 42 (0, ei_ast elay false 43, 0, 0)) (e_L 43 (0, ei_load 0 2 44, 0, 0)))) (e_T 47 (e_T 44 (e_L 44 (0, ei_getf eft elay 6 8 47, 0, 0)) (e_L 47 (0, ei_push (0, 0) 48, 0, 0))) (e_T 48 (e_L 48 (0, ei_load 0 2 49, 0, 0)) (e_L 49 (0, ei_getf eft elay 6 3 52, 0, 0)))))))
set_option maxRecDepth 20000 in
set_option maxHeartbeats 4000000 in
theorem te_100_0_ok : ∀ pc, e_EOq eft cls elay eI n_100 pc (te_100_0 pc) :=
  (e_Tok2
  (e_Tok2
  (e_Tok2
  (e_Tok2
  (e_Lok (ld_aload_n_1 (x_dk dn_100_0_0_ok 0 rfl)))
  (e_Tok2
  (e_Lok (ld_iload_4 (x_dk dn_100_0_0_ok 1 rfl)))
  (e_Lok (e_st (I := eI) (er_aaload (x_dk dn_100_0_0_ok 2 rfl)) nx_aald))))
  (e_Tok2
  (e_Tok2
  (e_Lok (e_st (I := eI) (er_astore (i := 6) (x_dk dn_100_0_0_ok 3 rfl) (by decide +kernel)) nx_stor))
  (e_Lok (ld_aload_n_0 (x_dk dn_100_0_0_ok 4 rfl))))
  (e_Tok2
  (e_Lok (lk_6_27g ho_100 (x_dk dn_100_0_0_ok 5 rfl)))
  (e_Lok (ps_iconst_0 (x_dk dn_100_0_0_ok 6 rfl))))))
  (e_Tok2
  (e_Tok2
  (e_Tok2
  (e_Lok (lk_6_89 ho_100 (x_dk dn_100_0_0_ok 7 rfl)))
  (e_Lok (ld_aload_n_3 (x_dk dn_100_0_0_ok 8 rfl))))
  (e_Tok2
  (e_Lok (ld_aload_n_1 (x_dk dn_100_0_0_ok 9 rfl)))
  (e_Lok (ld_iload_n_2 (x_dk dn_100_0_0_ok 10 rfl)))))
  (e_Tok2
  (e_Tok2
  (e_Lok (ld_iload_4 (x_dk dn_100_0_0_ok 11 rfl)))
  (e_Lok (ps_iconst_0 (x_dk dn_100_0_0_ok 12 rfl))))
  (e_Tok2
  (e_Lok (ld_aload_n_0 (x_dk dn_100_0_0_ok 13 rfl)))
  (e_Lok (lk_6_61g ho_100 (x_dk dn_100_0_0_ok 14 rfl)))))))
  (e_Tok2
  (e_Tok2
  (e_Tok2
  (e_Lok (lk_6_95 ho_100 (x_dk dn_100_0_0_ok 15 rfl)))
  (e_Tok2
  (e_Lok (e_st (I := eI) (er_ifeq (off := 5) (tg := 32) (x_dk dn_100_0_0_ok 16 rfl) (by decide)) nx_if1))
  (e_Lok (ps_iconst_0 (x_dk dn_100_0_0_ok 17 rfl)))))
  (e_Tok2
  (e_Tok2
  (e_Lok (e_rt (I := eI) (k := 4) ⟨(x_dk dn_100_0_0_ok 18 rfl), rfl⟩))
  (e_Lok (ld_aload_n_0 (x_dk dn_100_0_0_ok 19 rfl))))
  (e_Tok2
  (e_Lok (lk_6_27g ho_100 (x_dk dn_100_0_0_ok 20 rfl)))
  (e_Lok (ld_aload_n_0 (x_dk dn_100_0_0_ok 21 rfl))))))
  (e_Tok2
  (e_Tok2
  (e_Tok2
  (e_Lok (lk_6_64g ho_100 (x_dk dn_100_0_0_ok 22 rfl)))
  (e_Lok (ps_bipush_100 (x_dk dn_100_0_0_ok 23 rfl))))
  (e_Tok2
  (e_Lok (sm_iastore (x_dk dn_100_0_0_ok 24 rfl)))
  (e_Lok (ld_aload_n_0 (x_dk dn_100_0_1_ok 0 rfl)))))
  (e_Tok2
  (e_Tok2
  (e_Lok (lk_6_24g ho_100 (x_dk dn_100_0_1_ok 1 rfl)))
  (e_Lok (ps_iconst_0 (x_dk dn_100_0_1_ok 2 rfl))))
  (e_Tok2
  (e_Lok (ld_aload_n_0 (x_dk dn_100_0_1_ok 3 rfl)))
  (e_Lok (lk_6_64g ho_100 (x_dk dn_100_0_1_ok 4 rfl))))))))
def te_100_30 : Nat → eE := (e_T 77 (e_T 61 (e_T 54 (e_T 52 (e_L 52 (0, ei_ast elay false 53, 0, 0)) (e_T 53 (e_L 53 (0, ei_push (0, 1) 54, 0, 0)) (e_L 54 (0, ei_stor 7 0 56, 0, 0)))) (e_T 57 (e_T 56 (e_L 56 (0, ei_push (0, 0) 57, 0, 0)) (e_L 57 (0, ei_stor 8 0 59, 0, 0))) (e_T 59 (e_L 59 (0, ei_load 8 0 61, 0, 0)) (e_L 61 (0, ei_load 7 0 63, 0, 0))))) (e_T 70 (e_T 66 (e_T 63 (e_L 63 (0, ei_if2 3 199 66, 0, 0)) (e_L 66 (0, ei_load 0 2 67, 0, 0))) (e_T 67 (e_L 67 (0, ei_getf eft elay 6 9 70, 0, 0)) (e_L 70 (0, ei_load 5 0 72, 0, 0)))) (e_T 73 (e_T 72 (e_L 72 (0, ei_ald elay false 73, 0, 0)) (e_L 73 (0, ei_if1 1 199 76, 0, 0))) (e_T 76 (e_L 76 (0, ei_load 0 2 77, 0, 0)) (e_L 77 (0, ei_load 6 2 79, 0, 0)))))) (e_T 90 (e_T 83 (e_T 79 (e_L 79 (0, ei_load 0 2 80, 0, 0)) (e_T 80 (e_L 80 (0, ei_getf eft elay 6 8 83, 0, 0)) (e_L 83 (0, ei_load 8 0 85, 0, 0)))) (e_T 86 (e_T 85 (e_L 85 (0, ei_ald elay false 86, 0, 0)) (e_L 86 (2, e_nof, 102, 3))) (e_T 89 (e_L 89 (0, ei_push (0, 0) 90, 0, 0)) (e_L 90 (0, ei_stor 9 0 92, 0, 0))))) (e_T 97 (e_T 94 (e_T 92 (e_L 92 (0, ei_load 9 0 94, 0, 0)) (e_L 94 (0, ei_push (0, 2) 95, 0, 0))) (e_T 95 (e_L 95 (0, ei_load 6 2 97, 0, 0)) (e_L 97 (0, ei_getf eft elay 0 8 100, 0, 0)))) (e_T 101 (e_T 100 (e_L 100 (0, ei_bin eF_mul 101, 0, 0)) (e_L 101 (0, ei_if2 3 193 104, 0, 0))) (e_T 104 (e_L 104 (0, ei_load 0 2 105, 0, 0)) (e_L 105 (0, ei_load 0 2 106, 0, 0)))))))
set_option maxRecDepth 20000 in
set_option maxHeartbeats 4000000 in
theorem te_100_30_ok : ∀ pc, e_EOq eft cls elay eI n_100 pc (te_100_30 pc) :=
  (e_Tok2
  (e_Tok2
  (e_Tok2
  (e_Tok2
  (e_Lok (sm_iastore (x_dk dn_100_0_1_ok 5 rfl)))
  (e_Tok2
  (e_Lok (ps_iconst_1 (x_dk dn_100_0_1_ok 6 rfl)))
  (e_Lok (e_st (I := eI) (er_istore (i := 7) (x_dk dn_100_0_1_ok 7 rfl) (by decide +kernel)) nx_stor))))
  (e_Tok2
  (e_Tok2
  (e_Lok (ps_iconst_0 (x_dk dn_100_0_1_ok 8 rfl)))
  (e_Lok (e_st (I := eI) (er_istore (i := 8) (x_dk dn_100_0_1_ok 9 rfl) (by decide +kernel)) nx_stor)))
  (e_Tok2
  (e_Lok (ld_iload_8 (x_dk dn_100_0_1_ok 10 rfl)))
  (e_Lok (ld_iload_7 (x_dk dn_100_0_1_ok 11 rfl))))))
  (e_Tok2
  (e_Tok2
  (e_Tok2
  (e_Lok (e_st (I := eI) (er_icmpge (off := 136) (tg := 199) (x_dk dn_100_0_1_ok 12 rfl) (by decide)) nx_if2))
  (e_Lok (ld_aload_n_0 (x_dk dn_100_0_1_ok 13 rfl))))
  (e_Tok2
  (e_Lok (lk_6_27g ho_100 (x_dk dn_100_0_1_ok 14 rfl)))
  (e_Lok (ld_iload_5 (x_dk dn_100_0_1_ok 15 rfl)))))
  (e_Tok2
  (e_Tok2
  (e_Lok (sm_iaload (x_dk dn_100_0_1_ok 16 rfl)))
  (e_Lok (e_st (I := eI) (er_ifne (off := 126) (tg := 199) (x_dk dn_100_0_1_ok 17 rfl) (by decide)) nx_if1)))
  (e_Tok2
  (e_Lok (ld_aload_n_0 (x_dk dn_100_0_1_ok 18 rfl)))
  (e_Lok (ld_aload_6 (x_dk dn_100_0_1_ok 19 rfl)))))))
  (e_Tok2
  (e_Tok2
  (e_Tok2
  (e_Lok (ld_aload_n_0 (x_dk dn_100_0_1_ok 20 rfl)))
  (e_Tok2
  (e_Lok (lk_6_24g ho_100 (x_dk dn_100_0_1_ok 21 rfl)))
  (e_Lok (ld_iload_8 (x_dk dn_100_0_1_ok 22 rfl)))))
  (e_Tok2
  (e_Tok2
  (e_Lok (sm_iaload (x_dk dn_100_0_1_ok 23 rfl)))
  (e_Lok (lk_6_101 ho_100 (x_dk dn_100_0_1_ok 24 rfl))))
  (e_Tok2
  (e_Lok (ps_iconst_0 (x_dk dn_100_0_2_ok 0 rfl)))
  (e_Lok (e_st (I := eI) (er_istore (i := 9) (x_dk dn_100_0_2_ok 1 rfl) (by decide +kernel)) nx_stor)))))
  (e_Tok2
  (e_Tok2
  (e_Tok2
  (e_Lok (ld_iload_9 (x_dk dn_100_0_2_ok 2 rfl)))
  (e_Lok (ps_iconst_2 (x_dk dn_100_0_2_ok 3 rfl))))
  (e_Tok2
  (e_Lok (ld_aload_6 (x_dk dn_100_0_2_ok 4 rfl)))
  (e_Lok (lk_6_67g ho_100 (x_dk dn_100_0_2_ok 5 rfl)))))
  (e_Tok2
  (e_Tok2
  (e_Lok (sm_imul (x_dk dn_100_0_2_ok 6 rfl)))
  (e_Lok (e_st (I := eI) (er_icmpge (off := 92) (tg := 193) (x_dk dn_100_0_2_ok 7 rfl) (by decide)) nx_if2)))
  (e_Tok2
  (e_Lok (ld_aload_n_0 (x_dk dn_100_0_2_ok 8 rfl)))
  (e_Lok (ld_aload_n_0 (x_dk dn_100_0_2_ok 9 rfl))))))))
def te_100_60 : Nat → eE := (e_T 136 (e_T 119 (e_T 111 (e_T 106 (e_L 106 (0, ei_getf eft elay 6 8 109, 0, 0)) (e_T 109 (e_L 109 (0, ei_load 8 0 111, 0, 0)) (e_L 111 (0, ei_ald elay false 112, 0, 0)))) (e_T 114 (e_T 112 (e_L 112 (0, ei_load 9 0 114, 0, 0)) (e_L 114 (2, e_nof, 103, 3))) (e_T 117 (e_L 117 (0, ei_stor 10 0 119, 0, 0)) (e_L 119 (0, ei_load 10 0 121, 0, 0))))) (e_T 128 (e_T 124 (e_T 121 (e_L 121 (0, ei_if1 2 187 124, 0, 0)) (e_L 124 (0, ei_load 0 2 125, 0, 0))) (e_T 125 (e_L 125 (0, ei_getf eft elay 6 9 128, 0, 0)) (e_L 128 (0, ei_load 10 0 130, 0, 0)))) (e_T 131 (e_T 130 (e_L 130 (0, ei_ald elay false 131, 0, 0)) (e_L 131 (0, ei_if1 1 187 134, 0, 0))) (e_T 134 (e_L 134 (0, ei_load 7 0 136, 0, 0)) (e_L 136 (0, ei_push (0, 1000) 139, 0, 0)))))) (e_T 149 (e_T 145 (e_T 139 (e_L 139 (0, ei_if2 2 145 142, 0, 0)) (e_T 142 (e_L 142 (0, ei_goto 187, 0, 0)) (e_L 145 (0, ei_load 0 2 146, 0, 0)))) (e_T 147 (e_T 146 (e_L 146 (0, ei_load 1 2 147, 0, 0)) (e_L 147 (0, ei_load 2 0 148, 0, 0))) (e_T 148 (e_L 148 (0, ei_load 3 2 149, 0, 0)) (e_L 149 (0, ei_load 4 0 151, 0, 0))))) (e_T 158 (e_T 153 (e_T 151 (e_L 151 (0, ei_load 9 0 153, 0, 0)) (e_L 153 (0, ei_load 10 0 155, 0, 0))) (e_T 155 (e_L 155 (2, e_nof, 104, 7)) (e_L 158 (0, ei_if1 1 164 161, 0, 0)))) (e_T 164 (e_T 161 (e_L 161 (0, ei_goto 187, 0, 0)) (e_L 164 (0, ei_load 0 2 165, 0, 0))) (e_T 165 (e_L 165 (0, ei_getf eft elay 6 9 168, 0, 0)) (e_L 168 (0, ei_load 10 0 170, 0, 0)))))))
set_option maxRecDepth 20000 in
set_option maxHeartbeats 4000000 in
theorem te_100_60_ok : ∀ pc, e_EOq eft cls elay eI n_100 pc (te_100_60 pc) :=
  (e_Tok2
  (e_Tok2
  (e_Tok2
  (e_Tok2
  (e_Lok (lk_6_24g ho_100 (x_dk dn_100_0_2_ok 10 rfl)))
  (e_Tok2
  (e_Lok (ld_iload_8 (x_dk dn_100_0_2_ok 11 rfl)))
  (e_Lok (sm_iaload (x_dk dn_100_0_2_ok 12 rfl)))))
  (e_Tok2
  (e_Tok2
  (e_Lok (ld_iload_9 (x_dk dn_100_0_2_ok 13 rfl)))
  (e_Lok (lk_6_105 ho_100 (x_dk dn_100_0_2_ok 14 rfl))))
  (e_Tok2
  (e_Lok (e_st (I := eI) (er_istore (i := 10) (x_dk dn_100_0_2_ok 15 rfl) (by decide +kernel)) nx_stor))
  (e_Lok (ld_iload_10 (x_dk dn_100_0_2_ok 16 rfl))))))
  (e_Tok2
  (e_Tok2
  (e_Tok2
  (e_Lok (e_st (I := eI) (er_iflt (off := 66) (tg := 187) (x_dk dn_100_0_2_ok 17 rfl) (by decide)) nx_if1))
  (e_Lok (ld_aload_n_0 (x_dk dn_100_0_2_ok 18 rfl))))
  (e_Tok2
  (e_Lok (lk_6_27g ho_100 (x_dk dn_100_0_2_ok 19 rfl)))
  (e_Lok (ld_iload_10 (x_dk dn_100_0_2_ok 20 rfl)))))
  (e_Tok2
  (e_Tok2
  (e_Lok (sm_iaload (x_dk dn_100_0_2_ok 21 rfl)))
  (e_Lok (e_st (I := eI) (er_ifne (off := 56) (tg := 187) (x_dk dn_100_0_2_ok 22 rfl) (by decide)) nx_if1)))
  (e_Tok2
  (e_Lok (ld_iload_7 (x_dk dn_100_0_2_ok 23 rfl)))
  (e_Lok (ps_sipush_1000 (x_dk dn_100_0_2_ok 24 rfl)))))))
  (e_Tok2
  (e_Tok2
  (e_Tok2
  (e_Lok (e_st (I := eI) (er_icmplt (off := 6) (tg := 145) (x_dk dn_100_0_3_ok 0 rfl) (by decide)) nx_if2))
  (e_Tok2
  (e_Lok (e_st (I := eI) (er_goto (off := 45) (tg := 187) (x_dk dn_100_0_3_ok 1 rfl) (by decide)) nx_goto))
  (e_Lok (ld_aload_n_0 (x_dk dn_100_0_3_ok 2 rfl)))))
  (e_Tok2
  (e_Tok2
  (e_Lok (ld_aload_n_1 (x_dk dn_100_0_3_ok 3 rfl)))
  (e_Lok (ld_iload_n_2 (x_dk dn_100_0_3_ok 4 rfl))))
  (e_Tok2
  (e_Lok (ld_aload_n_3 (x_dk dn_100_0_3_ok 5 rfl)))
  (e_Lok (ld_iload_4 (x_dk dn_100_0_3_ok 6 rfl))))))
  (e_Tok2
  (e_Tok2
  (e_Tok2
  (e_Lok (ld_iload_9 (x_dk dn_100_0_3_ok 7 rfl)))
  (e_Lok (ld_iload_10 (x_dk dn_100_0_3_ok 8 rfl))))
  (e_Tok2
  (e_Lok (lk_6_109 ho_100 (x_dk dn_100_0_3_ok 9 rfl)))
  (e_Lok (e_st (I := eI) (er_ifne (off := 6) (tg := 164) (x_dk dn_100_0_3_ok 10 rfl) (by decide)) nx_if1))))
  (e_Tok2
  (e_Tok2
  (e_Lok (e_st (I := eI) (er_goto (off := 26) (tg := 187) (x_dk dn_100_0_3_ok 11 rfl) (by decide)) nx_goto))
  (e_Lok (ld_aload_n_0 (x_dk dn_100_0_3_ok 12 rfl))))
  (e_Tok2
  (e_Lok (lk_6_27g ho_100 (x_dk dn_100_0_3_ok 13 rfl)))
  (e_Lok (ld_iload_10 (x_dk dn_100_0_3_ok 14 rfl))))))))
def te_100_90 : Nat → eE := (e_T 199 (e_T 179 (e_T 173 (e_T 170 (e_L 170 (0, ei_load 9 0 172, 0, 0)) (e_T 172 (e_L 172 (0, ei_push (0, 1) 173, 0, 0)) (e_L 173 (0, ei_bin eF_add 174, 0, 0)))) (e_T 175 (e_T 174 (e_L 174 (0, ei_ast elay false 175, 0, 0)) (e_L 175 (0, ei_load 0 2 176, 0, 0))) (e_T 176 (e_L 176 (0, ei_getf eft elay 6 8 179, 0, 0)) (e_L 179 (0, ei_load 7 0 181, 0, 0))))) (e_T 187 (e_T 183 (e_T 181 (e_L 181 (0, ei_load 10 0 183, 0, 0)) (e_L 183 (0, ei_ast elay false 184, 0, 0))) (e_T 184 (e_L 184 (0, ei_inc 7 1 187, 0, 0)) (e_L 187 (0, ei_inc 9 1 190, 0, 0)))) (e_T 193 (e_T 190 (e_L 190 (0, ei_goto 92, 0, 0)) (e_L 193 (0, ei_inc 8 1 196, 0, 0))) (e_T 196 (e_L 196 (0, ei_goto 59, 0, 0)) (e_L 199 (0, ei_load 0 2 200, 0, 0)))))) (e_T 214 (e_T 203 (e_T 200 (e_L 200 (0, ei_load 6 2 202, 0, 0)) (e_T 202 (e_L 202 (0, ei_load 0 2 203, 0, 0)) (e_L 203 (0, ei_getf eft elay 6 3 206, 0, 0)))) (e_T 209 (e_T 206 (e_L 206 (2, e_nof, 102, 3)) (e_L 209 (0, ei_load 6 2 211, 0, 0))) (e_T 211 (e_L 211 (2, e_nof, 10, 1)) (e_L 214 (0, ei_load 0 2 215, 0, 0))))) (e_T 221 (e_T 218 (e_T 215 (e_L 215 (0, ei_getf eft elay 6 9 218, 0, 0)) (e_L 218 (0, ei_load 5 0 220, 0, 0))) (e_T 220 (e_L 220 (0, ei_ald elay false 221, 0, 0)) (e_L 221 (0, ei_if1 5 228 224, 0, 0)))) (e_T 225 (e_T 224 (e_L 224 (0, ei_push (0, 1) 225, 0, 0)) (e_L 225 (0, ei_goto 229, 0, 0))) (e_T 228 (e_L 228 (0, ei_push (0, 0) 229, 0, 0)) (e_L 229 (1, e_nof, 4, 0)))))))
set_option maxRecDepth 20000 in
set_option maxHeartbeats 4000000 in
theorem te_100_90_ok : ∀ pc, e_EOq eft cls elay eI n_100 pc (te_100_90 pc) :=
  (e_Tok2
  (e_Tok2
  (e_Tok2
  (e_Tok2
  (e_Lok (ld_iload_9 (x_dk dn_100_0_3_ok 15 rfl)))
  (e_Tok2
  (e_Lok (ps_iconst_1 (x_dk dn_100_0_3_ok 16 rfl)))
  (e_Lok (sm_iadd (x_dk dn_100_0_3_ok 17 rfl)))))
  (e_Tok2
  (e_Tok2
  (e_Lok (sm_iastore (x_dk dn_100_0_3_ok 18 rfl)))
  (e_Lok (ld_aload_n_0 (x_dk dn_100_0_3_ok 19 rfl))))
  (e_Tok2
  (e_Lok (lk_6_24g ho_100 (x_dk dn_100_0_3_ok 20 rfl)))
  (e_Lok (ld_iload_7 (x_dk dn_100_0_3_ok 21 rfl))))))
  (e_Tok2
  (e_Tok2
  (e_Tok2
  (e_Lok (ld_iload_10 (x_dk dn_100_0_3_ok 22 rfl)))
  (e_Lok (sm_iastore (x_dk dn_100_0_3_ok 23 rfl))))
  (e_Tok2
  (e_Lok (e_st (I := eI) (er_iinc (i := 7) (n := 1) (x_dk dn_100_0_3_ok 24 rfl) (by decide +kernel) (by decide)) nx_inc))
  (e_Lok (e_st (I := eI) (er_iinc (i := 9) (n := 1) (x_dk dn_100_1_0_ok 0 rfl) (by decide +kernel) (by decide)) nx_inc))))
  (e_Tok2
  (e_Tok2
  (e_Lok (e_st (I := eI) (er_goto (off := (-98)) (tg := 92) (x_dk dn_100_1_0_ok 1 rfl) (by decide)) nx_goto))
  (e_Lok (e_st (I := eI) (er_iinc (i := 8) (n := 1) (x_dk dn_100_1_0_ok 2 rfl) (by decide +kernel) (by decide)) nx_inc)))
  (e_Tok2
  (e_Lok (e_st (I := eI) (er_goto (off := (-137)) (tg := 59) (x_dk dn_100_1_0_ok 3 rfl) (by decide)) nx_goto))
  (e_Lok (ld_aload_n_0 (x_dk dn_100_1_0_ok 4 rfl)))))))
  (e_Tok2
  (e_Tok2
  (e_Tok2
  (e_Lok (ld_aload_6 (x_dk dn_100_1_0_ok 5 rfl)))
  (e_Tok2
  (e_Lok (ld_aload_n_0 (x_dk dn_100_1_0_ok 6 rfl)))
  (e_Lok (lk_6_64g ho_100 (x_dk dn_100_1_0_ok 7 rfl)))))
  (e_Tok2
  (e_Tok2
  (e_Lok (lk_6_101 ho_100 (x_dk dn_100_1_0_ok 8 rfl)))
  (e_Lok (ld_aload_6 (x_dk dn_100_1_0_ok 9 rfl))))
  (e_Tok2
  (e_Lok (lk_6_113 ho_100 (x_dk dn_100_1_0_ok 10 rfl)))
  (e_Lok (ld_aload_n_0 (x_dk dn_100_1_0_ok 11 rfl))))))
  (e_Tok2
  (e_Tok2
  (e_Tok2
  (e_Lok (lk_6_27g ho_100 (x_dk dn_100_1_0_ok 12 rfl)))
  (e_Lok (ld_iload_5 (x_dk dn_100_1_0_ok 13 rfl))))
  (e_Tok2
  (e_Lok (sm_iaload (x_dk dn_100_1_0_ok 14 rfl)))
  (e_Lok (e_st (I := eI) (er_ifle (off := 7) (tg := 228) (x_dk dn_100_1_0_ok 15 rfl) (by decide)) nx_if1))))
  (e_Tok2
  (e_Tok2
  (e_Lok (ps_iconst_1 (x_dk dn_100_1_0_ok 16 rfl)))
  (e_Lok (e_st (I := eI) (er_goto (off := 4) (tg := 229) (x_dk dn_100_1_0_ok 17 rfl) (by decide)) nx_goto)))
  (e_Tok2
  (e_Lok (ps_iconst_0 (x_dk dn_100_1_0_ok 18 rfl)))
  (e_Lok (e_rt (I := eI) (k := 4) ⟨(x_dk dn_100_1_0_ok 19 rfl), rfl⟩)))))))
def te_100 : Nat → eE := (e_T 105 (e_T 49 te_100_0 te_100_30) (e_T 168 te_100_60 te_100_90))
theorem te_100_ok : ∀ pc, e_EOq eft cls elay eI n_100 pc (te_100 pc) := (e_Tok2 ((e_Tok2 (te_100_0_ok) (te_100_30_ok))) ((e_Tok2 (te_100_60_ok) (te_100_90_ok))))
theorem ho_101 : (xm_y n_101).cls = "RobotCellHouse$Planner" := rfl
def dn_101_0_0 : List (Nat × Instr × Nat) := [(0, .aload_n 0, 1), (1, .getfield 21, 3), (4, .iload_n 2, 1), (5, .iaload, 1), (6, .iconst 1, 1), (7, .if_icmp .lt 13, 3), (10, .aload_n 0, 1), (11, .getfield 18, 3), (14, .iload_n 2, 1), (15, .iaload, 1), (16, .iconst 1, 1), (17, .if_icmp .ge 5, 3), (20, .iconst 0, 1), (21, .ireturn, 1), (22, .iload_n 1, 1), (23, .aload_n 0, 1), (24, .getfield 21, 3), (27, .iload_n 2, 1), (28, .iaload, 1), (29, .idiv, 1), (30, .aload_n 0, 1), (31, .getfield 18, 3), (34, .iload_n 2, 1), (35, .iaload, 1), (36, .irem, 1)]
set_option maxRecDepth 20000 in
theorem dn_101_0_0_ok : dn_101_0_0.all (fun q => decide (decode (xm_b n_101) q.1 = .ok (q.2.1, q.2.2))) = true := xa_g_ok (by decide +kernel)
def dn_101_0_1 : List (Nat × Instr × Nat) := [(37, .ireturn, 1)]
set_option maxRecDepth 20000 in
theorem dn_101_0_1_ok : dn_101_0_1.all (fun q => decide (decode (xm_b n_101) q.1 = .ok (q.2.1, q.2.2))) = true := xa_g_ok (by decide +kernel)
def te_101_0 : Nat → eE := (e_T 20 (e_T 7 (e_T 4 (e_T 0 (e_L 0 (0, ei_load 0 2 1, 0, 0)) (e_T 1 (e_L 1 (0, ei_getf eft elay 6 7 4, 0, 0)) (e_L 4 (0, ei_load 2 0 5, 0, 0)))) (e_T 5 (e_L 5 (0, ei_ald elay false 6, 0, 0)) (e_T 6 (e_L 6 (0, ei_push (0, 1) 7, 0, 0)) (e_L 7 (0, ei_if2 2 20 10, 0, 0))))) (e_T 14 (e_T 10 (e_L 10 (0, ei_load 0 2 11, 0, 0)) (e_T 11 (e_L 11 (0, ei_getf eft elay 6 6 14, 0, 0)) (e_L 14 (0, ei_load 2 0 15, 0, 0)))) (e_T 16 (e_T 15 (e_L 15 (0, ei_ald elay false 16, 0, 0)) (e_L 16 (0, ei_push (0, 1) 17, 0, 0))) (e_T 17 (e_L 17 (0, ei_if2 3 22 20, 0, 0)) (e_L 20 (0, ei_push (0, 0) 21, 0, 0)))))) (e_T 28 (e_T 23 (e_T 21 (e_L 21 (1, e_nof, 1, 0)) (e_T 22 (e_L 22 (0, ei_load 1 0 23, 0, 0)) (e_L 23 (0, ei_load 0 2 24, 0, 0)))) (e_T 24 (e_L 24 (0, ei_getf eft elay 6 7 27, 0, 0)) (e_T 27 (e_L 27 (0, ei_load 2 0 28, 0, 0)) (e_L 28 (0, ei_ald elay false 29, 0, 0))))) (e_T 31 (e_T 29 (e_L 29 (0, ei_bin eF_div 30, 0, 0)) (e_T 30 (e_L 30 (0, ei_load 0 2 31, 0, 0)) (e_L 31 (0, ei_getf eft elay 6 6 34, 0, 0)))) (e_T 35 (e_T 34 (e_L 34 (0, ei_load 2 0 35, 0, 0)) (e_L 35 (0, ei_ald elay false 36, 0, 0))) (e_T 36 (e_L 36 (0, ei_bin eF_rem 37, 0, 0)) (e_L 37 (1, e_nof, 1, 0)))))))
set_option maxRecDepth 20000 in
set_option maxHeartbeats 4000000 in
theorem te_101_0_ok : ∀ pc, e_EOq eft cls elay eI n_101 pc (te_101_0 pc) :=
  (e_Tok2
  (e_Tok2
  (e_Tok2
  (e_Tok2
  (e_Lok (ld_aload_n_0 (x_dk dn_101_0_0_ok 0 rfl)))
  (e_Tok2
  (e_Lok (lk_6_21g ho_101 (x_dk dn_101_0_0_ok 1 rfl)))
  (e_Lok (ld_iload_n_2 (x_dk dn_101_0_0_ok 2 rfl)))))
  (e_Tok2
  (e_Lok (sm_iaload (x_dk dn_101_0_0_ok 3 rfl)))
  (e_Tok2
  (e_Lok (ps_iconst_1 (x_dk dn_101_0_0_ok 4 rfl)))
  (e_Lok (e_st (I := eI) (er_icmplt (off := 13) (tg := 20) (x_dk dn_101_0_0_ok 5 rfl) (by decide)) nx_if2)))))
  (e_Tok2
  (e_Tok2
  (e_Lok (ld_aload_n_0 (x_dk dn_101_0_0_ok 6 rfl)))
  (e_Tok2
  (e_Lok (lk_6_18g ho_101 (x_dk dn_101_0_0_ok 7 rfl)))
  (e_Lok (ld_iload_n_2 (x_dk dn_101_0_0_ok 8 rfl)))))
  (e_Tok2
  (e_Tok2
  (e_Lok (sm_iaload (x_dk dn_101_0_0_ok 9 rfl)))
  (e_Lok (ps_iconst_1 (x_dk dn_101_0_0_ok 10 rfl))))
  (e_Tok2
  (e_Lok (e_st (I := eI) (er_icmpge (off := 5) (tg := 22) (x_dk dn_101_0_0_ok 11 rfl) (by decide)) nx_if2))
  (e_Lok (ps_iconst_0 (x_dk dn_101_0_0_ok 12 rfl)))))))
  (e_Tok2
  (e_Tok2
  (e_Tok2
  (e_Lok (e_rt (I := eI) (k := 1) ⟨(x_dk dn_101_0_0_ok 13 rfl), rfl⟩))
  (e_Tok2
  (e_Lok (ld_iload_n_1 (x_dk dn_101_0_0_ok 14 rfl)))
  (e_Lok (ld_aload_n_0 (x_dk dn_101_0_0_ok 15 rfl)))))
  (e_Tok2
  (e_Lok (lk_6_21g ho_101 (x_dk dn_101_0_0_ok 16 rfl)))
  (e_Tok2
  (e_Lok (ld_iload_n_2 (x_dk dn_101_0_0_ok 17 rfl)))
  (e_Lok (sm_iaload (x_dk dn_101_0_0_ok 18 rfl))))))
  (e_Tok2
  (e_Tok2
  (e_Lok (e_st (I := eI) (er_idiv (x_dk dn_101_0_0_ok 19 rfl)) nx_bin))
  (e_Tok2
  (e_Lok (ld_aload_n_0 (x_dk dn_101_0_0_ok 20 rfl)))
  (e_Lok (lk_6_18g ho_101 (x_dk dn_101_0_0_ok 21 rfl)))))
  (e_Tok2
  (e_Tok2
  (e_Lok (ld_iload_n_2 (x_dk dn_101_0_0_ok 22 rfl)))
  (e_Lok (sm_iaload (x_dk dn_101_0_0_ok 23 rfl))))
  (e_Tok2
  (e_Lok (e_st (I := eI) (er_irem (x_dk dn_101_0_0_ok 24 rfl)) nx_bin))
  (e_Lok (e_rt (I := eI) (k := 1) ⟨(x_dk dn_101_0_1_ok 0 rfl), rfl⟩)))))))
def te_101 : Nat → eE := te_101_0
theorem te_101_ok : ∀ pc, e_EOq eft cls elay eI n_101 pc (te_101 pc) := te_101_0_ok
theorem ho_102 : (xm_y n_102).cls = "RobotCellHouse$Planner" := rfl
def dn_102_0_0 : List (Nat × Instr × Nat) := [(0, .iconst 0, 1), (1, .istore_n 3, 1), (2, .iload_n 3, 1), (3, .aload_n 1, 1), (4, .getfield 67, 3), (7, .if_icmp .ge 43, 3), (10, .aload_n 1, 1), (11, .getfield 70, 3), (14, .iload_n 3, 1), (15, .aaload, 1), (16, .aload_n 0, 1), (17, .getfield 9, 3), (20, .iload_n 3, 1), (21, .iaload, 1), (22, .aload_n 0, 1), (23, .iload_n 2, 1), (24, .iload_n 3, 1), (25, .invokevirtual 116, 3), (28, .aload_n 0, 1), (29, .getfield 15, 3), (32, .iload_n 3, 1), (33, .iaload, 1), (34, .isub, 1), (35, .aload_n 0, 1), (36, .getfield 58, 3)]
set_option maxRecDepth 20000 in
theorem dn_102_0_0_ok : dn_102_0_0.all (fun q => decide (decode (xm_b n_102) q.1 = .ok (q.2.1, q.2.2))) = true := xa_g_ok (by decide +kernel)
def dn_102_0_1 : List (Nat × Instr × Nat) := [(39, .imul, 1), (40, .iadd, 1), (41, .putfield 74, 3), (44, .iinc 3 1, 3), (47, .goto (-45), 3), (50, .return_, 1)]
set_option maxRecDepth 20000 in
theorem dn_102_0_1_ok : dn_102_0_1.all (fun q => decide (decode (xm_b n_102) q.1 = .ok (q.2.1, q.2.2))) = true := xa_g_ok (by decide +kernel)
def te_102_0 : Nat → eE := (e_T 22 (e_T 10 (e_T 2 (e_T 0 (e_L 0 (0, ei_push (0, 0) 1, 0, 0)) (e_T 1 (e_L 1 (0, ei_stor 3 0 2, 0, 0)) (e_L 2 (0, ei_load 3 0 3, 0, 0)))) (e_T 4 (e_T 3 (e_L 3 (0, ei_load 1 2 4, 0, 0)) (e_L 4 (0, ei_getf eft elay 0 8 7, 0, 0))) (e_T 7 (e_L 7 (0, ei_if2 3 50 10, 0, 0)) (e_L 10 (0, ei_load 1 2 11, 0, 0))))) (e_T 16 (e_T 14 (e_T 11 (e_L 11 (0, ei_getf eft elay 0 0 14, 0, 0)) (e_L 14 (0, ei_load 3 0 15, 0, 0))) (e_T 15 (e_L 15 (0, ei_aald elay 16, 0, 0)) (e_L 16 (0, ei_load 0 2 17, 0, 0)))) (e_T 20 (e_T 17 (e_L 17 (0, ei_getf eft elay 6 4 20, 0, 0)) (e_L 20 (0, ei_load 3 0 21, 0, 0))) (e_T 21 (e_L 21 (0, ei_ald elay false 22, 0, 0)) (e_L 22 (0, ei_load 0 2 23, 0, 0)))))) (e_T 34 (e_T 28 (e_T 24 (e_T 23 (e_L 23 (0, ei_load 2 0 24, 0, 0)) (e_L 24 (0, ei_load 3 0 25, 0, 0))) (e_T 25 (e_L 25 (2, e_nof, 101, 3)) (e_L 28 (0, ei_load 0 2 29, 0, 0)))) (e_T 32 (e_T 29 (e_L 29 (0, ei_getf eft elay 6 5 32, 0, 0)) (e_L 32 (0, ei_load 3 0 33, 0, 0))) (e_T 33 (e_L 33 (0, ei_ald elay false 34, 0, 0)) (e_L 34 (0, ei_bin eF_sub 35, 0, 0))))) (e_T 40 (e_T 36 (e_T 35 (e_L 35 (0, ei_load 0 2 36, 0, 0)) (e_L 36 (0, ei_getf eft elay 6 1 39, 0, 0))) (e_T 39 (e_L 39 (0, ei_bin eF_mul 40, 0, 0)) (e_L 40 (0, ei_bin eF_add 41, 0, 0)))) (e_T 44 (e_T 41 (e_L 41 (0, ei_putf eft elay 5 7 0 44, 0, 0)) (e_L 44 (0, ei_inc 3 1 47, 0, 0))) (e_T 47 (e_L 47 (0, ei_goto 2, 0, 0)) (e_L 50 (1, e_nof, 0, 0)))))))
set_option maxRecDepth 20000 in
set_option maxHeartbeats 4000000 in
theorem te_102_0_ok : ∀ pc, e_EOq eft cls elay eI n_102 pc (te_102_0 pc) :=
  (e_Tok2
  (e_Tok2
  (e_Tok2
  (e_Tok2
  (e_Lok (ps_iconst_0 (x_dk dn_102_0_0_ok 0 rfl)))
  (e_Tok2
  (e_Lok (e_st (I := eI) (er_istore_n (i := 3) (x_dk dn_102_0_0_ok 1 rfl) (by decide +kernel)) nx_stor))
  (e_Lok (ld_iload_n_3 (x_dk dn_102_0_0_ok 2 rfl)))))
  (e_Tok2
  (e_Tok2
  (e_Lok (ld_aload_n_1 (x_dk dn_102_0_0_ok 3 rfl)))
  (e_Lok (lk_6_67g ho_102 (x_dk dn_102_0_0_ok 4 rfl))))
  (e_Tok2
  (e_Lok (e_st (I := eI) (er_icmpge (off := 43) (tg := 50) (x_dk dn_102_0_0_ok 5 rfl) (by decide)) nx_if2))
  (e_Lok (ld_aload_n_1 (x_dk dn_102_0_0_ok 6 rfl))))))
  (e_Tok2
  (e_Tok2
  (e_Tok2
  (e_Lok (lk_6_70g ho_102 (x_dk dn_102_0_0_ok 7 rfl)))
  (e_Lok (ld_iload_n_3 (x_dk dn_102_0_0_ok 8 rfl))))
  (e_Tok2
  (e_Lok (e_st (I := eI) (er_aaload (x_dk dn_102_0_0_ok 9 rfl)) nx_aald))
  (e_Lok (ld_aload_n_0 (x_dk dn_102_0_0_ok 10 rfl)))))
  (e_Tok2
  (e_Tok2
  (e_Lok (lk_6_9g ho_102 (x_dk dn_102_0_0_ok 11 rfl)))
  (e_Lok (ld_iload_n_3 (x_dk dn_102_0_0_ok 12 rfl))))
  (e_Tok2
  (e_Lok (sm_iaload (x_dk dn_102_0_0_ok 13 rfl)))
  (e_Lok (ld_aload_n_0 (x_dk dn_102_0_0_ok 14 rfl)))))))
  (e_Tok2
  (e_Tok2
  (e_Tok2
  (e_Tok2
  (e_Lok (ld_iload_n_2 (x_dk dn_102_0_0_ok 15 rfl)))
  (e_Lok (ld_iload_n_3 (x_dk dn_102_0_0_ok 16 rfl))))
  (e_Tok2
  (e_Lok (lk_6_116 ho_102 (x_dk dn_102_0_0_ok 17 rfl)))
  (e_Lok (ld_aload_n_0 (x_dk dn_102_0_0_ok 18 rfl)))))
  (e_Tok2
  (e_Tok2
  (e_Lok (lk_6_15g ho_102 (x_dk dn_102_0_0_ok 19 rfl)))
  (e_Lok (ld_iload_n_3 (x_dk dn_102_0_0_ok 20 rfl))))
  (e_Tok2
  (e_Lok (sm_iaload (x_dk dn_102_0_0_ok 21 rfl)))
  (e_Lok (sm_isub (x_dk dn_102_0_0_ok 22 rfl))))))
  (e_Tok2
  (e_Tok2
  (e_Tok2
  (e_Lok (ld_aload_n_0 (x_dk dn_102_0_0_ok 23 rfl)))
  (e_Lok (lk_6_58g ho_102 (x_dk dn_102_0_0_ok 24 rfl))))
  (e_Tok2
  (e_Lok (sm_imul (x_dk dn_102_0_1_ok 0 rfl)))
  (e_Lok (sm_iadd (x_dk dn_102_0_1_ok 1 rfl)))))
  (e_Tok2
  (e_Tok2
  (e_Lok (lk_6_74p ho_102 (x_dk dn_102_0_1_ok 2 rfl)))
  (e_Lok (e_st (I := eI) (er_iinc (i := 3) (n := 1) (x_dk dn_102_0_1_ok 3 rfl) (by decide +kernel) (by decide)) nx_inc)))
  (e_Tok2
  (e_Lok (e_st (I := eI) (er_goto (off := (-45)) (tg := 2) (x_dk dn_102_0_1_ok 4 rfl) (by decide)) nx_goto))
  (e_Lok (e_rt (I := eI) (k := 0) ⟨(x_dk dn_102_0_1_ok 5 rfl), rfl⟩)))))))
def te_102 : Nat → eE := te_102_0
theorem te_102_ok : ∀ pc, e_EOq eft cls elay eI n_102 pc (te_102 pc) := te_102_0_ok
theorem ho_103 : (xm_y n_103).cls = "RobotCellHouse$Planner" := rfl
def dn_103_0_0 : List (Nat × Instr × Nat) := [(0, .iload_n 2, 1), (1, .iconst 2, 1), (2, .idiv, 1), (3, .istore_n 3, 1), (4, .aload_n 0, 1), (5, .iload_n 1, 1), (6, .iload_n 3, 1), (7, .invokevirtual 116, 3), (10, .iload_n 2, 1), (11, .iconst 2, 1), (12, .irem, 1), (13, .ifCond .ne 7, 3), (16, .iconst 1, 1), (17, .goto 4, 3), (20, .iconst (-1), 1), (21, .iadd, 1), (22, .istore 4, 2), (24, .iload 4, 2), (26, .iconst 0, 1), (27, .aload_n 0, 1), (28, .getfield 18, 3), (31, .iload_n 3, 1), (32, .iaload, 1), (33, .iconst 1, 1), (34, .isub, 1)]
set_option maxRecDepth 20000 in
theorem dn_103_0_0_ok : dn_103_0_0.all (fun q => decide (decode (xm_b n_103) q.1 = .ok (q.2.1, q.2.2))) = true := xa_g_ok (by decide +kernel)
def dn_103_0_1 : List (Nat × Instr × Nat) := [(35, .invokestatic 41, 3), (38, .ifCond .ne 5, 3), (41, .iconst (-1), 1), (42, .ireturn, 1), (43, .iload_n 2, 1), (44, .iconst 2, 1), (45, .irem, 1), (46, .ifCond .ne 14, 3), (49, .iload_n 1, 1), (50, .aload_n 0, 1), (51, .getfield 21, 3), (54, .iload_n 3, 1), (55, .iaload, 1), (56, .iadd, 1), (57, .goto 11, 3), (60, .iload_n 1, 1), (61, .aload_n 0, 1), (62, .getfield 21, 3), (65, .iload_n 3, 1), (66, .iaload, 1), (67, .isub, 1), (68, .ireturn, 1)]
set_option maxRecDepth 20000 in
theorem dn_103_0_1_ok : dn_103_0_1.all (fun q => decide (decode (xm_b n_103) q.1 = .ok (q.2.1, q.2.2))) = true := xa_g_ok (by decide +kernel)
def te_103_0 : Nat → eE := (e_T 12 (e_T 4 (e_T 1 (e_T 0 (e_L 0 (0, ei_load 2 0 1, 0, 0)) (e_L 1 (0, ei_push (0, 2) 2, 0, 0))) (e_T 2 (e_L 2 (0, ei_bin eF_div 3, 0, 0)) (e_T 3 (e_L 3 (0, ei_stor 3 0 4, 0, 0)) (e_L 4 (0, ei_load 0 2 5, 0, 0))))) (e_T 7 (e_T 5 (e_L 5 (0, ei_load 1 0 6, 0, 0)) (e_T 6 (e_L 6 (0, ei_load 3 0 7, 0, 0)) (e_L 7 (2, e_nof, 101, 3)))) (e_T 10 (e_L 10 (0, ei_load 2 0 11, 0, 0)) (e_T 11 (e_L 11 (0, ei_push (0, 2) 12, 0, 0)) (e_L 12 (0, ei_bin eF_rem 13, 0, 0)))))) (e_T 22 (e_T 17 (e_T 13 (e_L 13 (0, ei_if1 1 20 16, 0, 0)) (e_T 16 (e_L 16 (0, ei_push (0, 1) 17, 0, 0)) (e_L 17 (0, ei_goto 21, 0, 0)))) (e_T 20 (e_L 20 (0, ei_push (0, (-1)) 21, 0, 0)) (e_T 21 (e_L 21 (0, ei_bin eF_add 22, 0, 0)) (e_L 22 (0, ei_stor 4 0 24, 0, 0))))) (e_T 27 (e_T 24 (e_L 24 (0, ei_load 4 0 26, 0, 0)) (e_T 26 (e_L 26 (0, ei_push (0, 0) 27, 0, 0)) (e_L 27 (0, ei_load 0 2 28, 0, 0)))) (e_T 28 (e_L 28 (0, ei_getf eft elay 6 6 31, 0, 0)) (e_T 31 (e_L 31 (0, ei_load 3 0 32, 0, 0)) (e_L 32 (0, ei_ald elay false 33, 0, 0)))))))
set_option maxRecDepth 20000 in
set_option maxHeartbeats 4000000 in
theorem te_103_0_ok : ∀ pc, e_EOq eft cls elay eI n_103 pc (te_103_0 pc) :=
  (e_Tok2
  (e_Tok2
  (e_Tok2
  (e_Tok2
  (e_Lok (ld_iload_n_2 (x_dk dn_103_0_0_ok 0 rfl)))
  (e_Lok (ps_iconst_2 (x_dk dn_103_0_0_ok 1 rfl))))
  (e_Tok2
  (e_Lok (e_st (I := eI) (er_idiv (x_dk dn_103_0_0_ok 2 rfl)) nx_bin))
  (e_Tok2
  (e_Lok (e_st (I := eI) (er_istore_n (i := 3) (x_dk dn_103_0_0_ok 3 rfl) (by decide +kernel)) nx_stor))
  (e_Lok (ld_aload_n_0 (x_dk dn_103_0_0_ok 4 rfl))))))
  (e_Tok2
  (e_Tok2
  (e_Lok (ld_iload_n_1 (x_dk dn_103_0_0_ok 5 rfl)))
  (e_Tok2
  (e_Lok (ld_iload_n_3 (x_dk dn_103_0_0_ok 6 rfl)))
  (e_Lok (lk_6_116 ho_103 (x_dk dn_103_0_0_ok 7 rfl)))))
  (e_Tok2
  (e_Lok (ld_iload_n_2 (x_dk dn_103_0_0_ok 8 rfl)))
  (e_Tok2
  (e_Lok (ps_iconst_2 (x_dk dn_103_0_0_ok 9 rfl)))
  (e_Lok (e_st (I := eI) (er_irem (x_dk dn_103_0_0_ok 10 rfl)) nx_bin))))))
  (e_Tok2
  (e_Tok2
  (e_Tok2
  (e_Lok (e_st (I := eI) (er_ifne (off := 7) (tg := 20) (x_dk dn_103_0_0_ok 11 rfl) (by decide)) nx_if1))
  (e_Tok2
  (e_Lok (ps_iconst_1 (x_dk dn_103_0_0_ok 12 rfl)))
  (e_Lok (e_st (I := eI) (er_goto (off := 4) (tg := 21) (x_dk dn_103_0_0_ok 13 rfl) (by decide)) nx_goto))))
  (e_Tok2
  (e_Lok (ps_iconst_m1 (x_dk dn_103_0_0_ok 14 rfl)))
  (e_Tok2
  (e_Lok (sm_iadd (x_dk dn_103_0_0_ok 15 rfl)))
  (e_Lok (e_st (I := eI) (er_istore (i := 4) (x_dk dn_103_0_0_ok 16 rfl) (by decide +kernel)) nx_stor)))))
  (e_Tok2
  (e_Tok2
  (e_Lok (ld_iload_4 (x_dk dn_103_0_0_ok 17 rfl)))
  (e_Tok2
  (e_Lok (ps_iconst_0 (x_dk dn_103_0_0_ok 18 rfl)))
  (e_Lok (ld_aload_n_0 (x_dk dn_103_0_0_ok 19 rfl)))))
  (e_Tok2
  (e_Lok (lk_6_18g ho_103 (x_dk dn_103_0_0_ok 20 rfl)))
  (e_Tok2
  (e_Lok (ld_iload_n_3 (x_dk dn_103_0_0_ok 21 rfl)))
  (e_Lok (sm_iaload (x_dk dn_103_0_0_ok 22 rfl))))))))
def te_103_23 : Nat → eE := (e_T 50 (e_T 42 (e_T 35 (e_T 33 (e_L 33 (0, ei_push (0, 1) 34, 0, 0)) (e_T 34 (e_L 34 (0, ei_bin eF_sub 35, 0, 0)) (e_L 35 (2, e_nof, 242, 3)))) (e_T 38 (e_L 38 (0, ei_if1 1 43 41, 0, 0)) (e_T 41 (e_L 41 (0, ei_push (0, (-1)) 42, 0, 0)) (e_L 42 (1, e_nof, 1, 0))))) (e_T 45 (e_T 43 (e_L 43 (0, ei_load 2 0 44, 0, 0)) (e_T 44 (e_L 44 (0, ei_push (0, 2) 45, 0, 0)) (e_L 45 (0, ei_bin eF_rem 46, 0, 0)))) (e_T 46 (e_L 46 (0, ei_if1 1 60 49, 0, 0)) (e_T 49 (e_L 49 (0, ei_load 1 0 50, 0, 0)) (e_L 50 (0, ei_load 0 2 51, 0, 0)))))) (e_T 60 (e_T 55 (e_T 51 (e_L 51 (0, ei_getf eft elay 6 7 54, 0, 0)) (e_T 54 (e_L 54 (0, ei_load 3 0 55, 0, 0)) (e_L 55 (0, ei_ald elay false 56, 0, 0)))) (e_T 56 (e_L 56 (0, ei_bin eF_add 57, 0, 0)) (e_T 57 (e_L 57 (0, ei_goto 68, 0, 0)) (e_L 60 (0, ei_load 1 0 61, 0, 0))))) (e_T 65 (e_T 61 (e_L 61 (0, ei_load 0 2 62, 0, 0)) (e_T 62 (e_L 62 (0, ei_getf eft elay 6 7 65, 0, 0)) (e_L 65 (0, ei_load 3 0 66, 0, 0)))) (e_T 66 (e_L 66 (0, ei_ald elay false 67, 0, 0)) (e_T 67 (e_L 67 (0, ei_bin eF_sub 68, 0, 0)) (e_L 68 (1, e_nof, 1, 0)))))))
set_option maxRecDepth 20000 in
set_option maxHeartbeats 4000000 in
theorem te_103_23_ok : ∀ pc, e_EOq eft cls elay eI n_103 pc (te_103_23 pc) :=
  (e_Tok2
  (e_Tok2
  (e_Tok2
  (e_Tok2
  (e_Lok (ps_iconst_1 (x_dk dn_103_0_0_ok 23 rfl)))
  (e_Tok2
  (e_Lok (sm_isub (x_dk dn_103_0_0_ok 24 rfl)))
  (e_Lok (lk_6_41 ho_103 (x_dk dn_103_0_1_ok 0 rfl)))))
  (e_Tok2
  (e_Lok (e_st (I := eI) (er_ifne (off := 5) (tg := 43) (x_dk dn_103_0_1_ok 1 rfl) (by decide)) nx_if1))
  (e_Tok2
  (e_Lok (ps_iconst_m1 (x_dk dn_103_0_1_ok 2 rfl)))
  (e_Lok (e_rt (I := eI) (k := 1) ⟨(x_dk dn_103_0_1_ok 3 rfl), rfl⟩)))))
  (e_Tok2
  (e_Tok2
  (e_Lok (ld_iload_n_2 (x_dk dn_103_0_1_ok 4 rfl)))
  (e_Tok2
  (e_Lok (ps_iconst_2 (x_dk dn_103_0_1_ok 5 rfl)))
  (e_Lok (e_st (I := eI) (er_irem (x_dk dn_103_0_1_ok 6 rfl)) nx_bin))))
  (e_Tok2
  (e_Lok (e_st (I := eI) (er_ifne (off := 14) (tg := 60) (x_dk dn_103_0_1_ok 7 rfl) (by decide)) nx_if1))
  (e_Tok2
  (e_Lok (ld_iload_n_1 (x_dk dn_103_0_1_ok 8 rfl)))
  (e_Lok (ld_aload_n_0 (x_dk dn_103_0_1_ok 9 rfl)))))))
  (e_Tok2
  (e_Tok2
  (e_Tok2
  (e_Lok (lk_6_21g ho_103 (x_dk dn_103_0_1_ok 10 rfl)))
  (e_Tok2
  (e_Lok (ld_iload_n_3 (x_dk dn_103_0_1_ok 11 rfl)))
  (e_Lok (sm_iaload (x_dk dn_103_0_1_ok 12 rfl)))))
  (e_Tok2
  (e_Lok (sm_iadd (x_dk dn_103_0_1_ok 13 rfl)))
  (e_Tok2
  (e_Lok (e_st (I := eI) (er_goto (off := 11) (tg := 68) (x_dk dn_103_0_1_ok 14 rfl) (by decide)) nx_goto))
  (e_Lok (ld_iload_n_1 (x_dk dn_103_0_1_ok 15 rfl))))))
  (e_Tok2
  (e_Tok2
  (e_Lok (ld_aload_n_0 (x_dk dn_103_0_1_ok 16 rfl)))
  (e_Tok2
  (e_Lok (lk_6_21g ho_103 (x_dk dn_103_0_1_ok 17 rfl)))
  (e_Lok (ld_iload_n_3 (x_dk dn_103_0_1_ok 18 rfl)))))
  (e_Tok2
  (e_Lok (sm_iaload (x_dk dn_103_0_1_ok 19 rfl)))
  (e_Tok2
  (e_Lok (sm_isub (x_dk dn_103_0_1_ok 20 rfl)))
  (e_Lok (e_rt (I := eI) (k := 1) ⟨(x_dk dn_103_0_1_ok 21 rfl), rfl⟩)))))))
def te_103 : Nat → eE := (e_T 32 te_103_0 te_103_23)
theorem te_103_ok : ∀ pc, e_EOq eft cls elay eI n_103 pc (te_103 pc) := (e_Tok2 (te_103_0_ok) (te_103_23_ok))
theorem ho_104 : (xm_y n_104).cls = "RobotCellHouse$Planner" := rfl
def dn_104_0_0 : List (Nat × Instr × Nat) := [(0, .aload_n 1, 1), (1, .iload 4, 2), (3, .aaload, 1), (4, .getfield 70, 3), (7, .iload 5, 2), (9, .iconst 2, 1), (10, .idiv, 1), (11, .aaload, 1), (12, .astore 7, 2), (14, .aload 7, 2), (16, .getfield 74, 3), (19, .istore 8, 2), (21, .iconst 1, 1), (22, .istore 9, 2), (24, .aload_n 0, 1), (25, .getfield 58, 3), (28, .istore 10, 2), (30, .iload 10, 2), (32, .ifCond .le 91, 3), (35, .iload 9, 2), (37, .ifCond .eq 86, 3), (40, .aload 7, 2), (42, .iload 5, 2), (44, .iconst 2, 1), (45, .irem, 1)]
set_option maxRecDepth 20000 in
theorem dn_104_0_0_ok : dn_104_0_0.all (fun q => decide (decode (xm_b n_104) q.1 = .ok (q.2.1, q.2.2))) = true := xa_g_ok (by decide +kernel)
def dn_104_0_1 : List (Nat × Instr × Nat) := [(46, .ifCond .ne 11, 3), (49, .iload 8, 2), (51, .iload 10, 2), (53, .iadd, 1), (54, .goto 8, 3), (57, .iload 8, 2), (59, .iload 10, 2), (61, .isub, 1), (62, .putfield 74, 3), (65, .aload_n 1, 1), (66, .iload 4, 2), (68, .aaload, 1), (69, .invokevirtual 113, 3), (72, .aload_n 3, 1), (73, .aload_n 1, 1), (74, .iload_n 2, 1), (75, .iload 4, 2), (77, .iconst 0, 1), (78, .aload_n 0, 1), (79, .getfield 61, 3), (82, .invokevirtual 95, 3), (85, .ifCond .ne 7, 3), (88, .iconst 1, 1), (89, .goto 4, 3), (92, .iconst 0, 1)]
set_option maxRecDepth 20000 in
theorem dn_104_0_1_ok : dn_104_0_1.all (fun q => decide (decode (xm_b n_104) q.1 = .ok (q.2.1, q.2.2))) = true := xa_g_ok (by decide +kernel)
def dn_104_0_2 : List (Nat × Instr × Nat) := [(93, .istore 9, 2), (95, .iload 9, 2), (97, .ifCond .ne 20, 3), (100, .iload 10, 2), (102, .aload_n 0, 1), (103, .getfield 58, 3), (106, .if_icmp .ne 11, 3), (109, .aload_n 0, 1), (110, .getfield 27, 3), (113, .iload 6, 2), (115, .iconst (-1), 1), (116, .iastore, 1), (117, .iinc 10 (-1), 3), (120, .goto (-90), 3), (123, .aload 7, 2), (125, .iload 8, 2), (127, .putfield 74, 3), (130, .iload 9, 2), (132, .ireturn, 1)]
set_option maxRecDepth 20000 in
theorem dn_104_0_2_ok : dn_104_0_2.all (fun q => decide (decode (xm_b n_104) q.1 = .ok (q.2.1, q.2.2))) = true := xa_g_ok (by decide +kernel)
def te_104_0 : Nat → eE := (e_T 28 (e_T 11 (e_T 4 (e_T 1 (e_T 0 (e_L 0 (0, ei_load 1 2 1, 0, 0)) (e_L 1 (0, ei_load 4 0 3, 0, 0))) (e_T 3 (e_L 3 (0, ei_aald elay 4, 0, 0)) (e_L 4 (0, ei_getf eft elay 0 0 7, 0, 0)))) (e_T 9 (e_T 7 (e_L 7 (0, ei_load 5 0 9, 0, 0)) (e_L 9 (0, ei_push (0, 2) 10, 0, 0))) (e_T 10 (e_L 10 (0, ei_bin eF_div 11, 0, 0)) (e_L 11 (0, ei_aald elay 12, 0, 0))))) (e_T 19 (e_T 14 (e_T 12 (e_L 12 (0, ei_stor 7 2 14, 0, 0)) (e_L 14 (0, ei_load 7 2 16, 0, 0))) (e_T 16 (e_L 16 (0, ei_getf eft elay 5 7 19, 0, 0)) (e_L 19 (0, ei_stor 8 0 21, 0, 0)))) (e_T 22 (e_T 21 (e_L 21 (0, ei_push (0, 1) 22, 0, 0)) (e_L 22 (0, ei_stor 9 0 24, 0, 0))) (e_T 24 (e_L 24 (0, ei_load 0 2 25, 0, 0)) (e_T 25 (e_L 25 (0, ei_getf eft elay 6 1 28, 0, 0)) (e_L 28 (0, ei_stor 10 0 30, 0, 0))))))) (e_T 45 (e_T 37 (e_T 32 (e_T 30 (e_L 30 (0, ei_load 10 0 32, 0, 0)) (e_L 32 (0, ei_if1 5 123 35, 0, 0))) (e_T 35 (e_L 35 (0, ei_load 9 0 37, 0, 0)) (e_L 37 (0, ei_if1 0 123 40, 0, 0)))) (e_T 42 (e_T 40 (e_L 40 (0, ei_load 7 2 42, 0, 0)) (e_L 42 (0, ei_load 5 0 44, 0, 0))) (e_T 44 (e_L 44 (0, ei_push (0, 2) 45, 0, 0)) (e_L 45 (0, ei_bin eF_rem 46, 0, 0))))) (e_T 53 (e_T 49 (e_T 46 (e_L 46 (0, ei_if1 1 57 49, 0, 0)) (e_L 49 (0, ei_load 8 0 51, 0, 0))) (e_T 51 (e_L 51 (0, ei_load 10 0 53, 0, 0)) (e_L 53 (0, ei_bin eF_add 54, 0, 0)))) (e_T 57 (e_T 54 (e_L 54 (0, ei_goto 62, 0, 0)) (e_L 57 (0, ei_load 8 0 59, 0, 0))) (e_T 59 (e_L 59 (0, ei_load 10 0 61, 0, 0)) (e_T 61 (e_L 61 (0, ei_bin eF_sub 62, 0, 0)) (e_L 62 (0, ei_putf eft elay 5 7 0 65, 0, 0))))))))
set_option maxRecDepth 20000 in
set_option maxHeartbeats 4000000 in
theorem te_104_0_ok : ∀ pc, e_EOq eft cls elay eI n_104 pc (te_104_0 pc) :=
  (e_Tok2
  (e_Tok2
  (e_Tok2
  (e_Tok2
  (e_Tok2
  (e_Lok (ld_aload_n_1 (x_dk dn_104_0_0_ok 0 rfl)))
  (e_Lok (ld_iload_4 (x_dk dn_104_0_0_ok 1 rfl))))
  (e_Tok2
  (e_Lok (e_st (I := eI) (er_aaload (x_dk dn_104_0_0_ok 2 rfl)) nx_aald))
  (e_Lok (lk_6_70g ho_104 (x_dk dn_104_0_0_ok 3 rfl)))))
  (e_Tok2
  (e_Tok2
  (e_Lok (ld_iload_5 (x_dk dn_104_0_0_ok 4 rfl)))
  (e_Lok (ps_iconst_2 (x_dk dn_104_0_0_ok 5 rfl))))
  (e_Tok2
  (e_Lok (e_st (I := eI) (er_idiv (x_dk dn_104_0_0_ok 6 rfl)) nx_bin))
  (e_Lok (e_st (I := eI) (er_aaload (x_dk dn_104_0_0_ok 7 rfl)) nx_aald)))))
  (e_Tok2
  (e_Tok2
  (e_Tok2
  (e_Lok (e_st (I := eI) (er_astore (i := 7) (x_dk dn_104_0_0_ok 8 rfl) (by decide +kernel)) nx_stor))
  (e_Lok (ld_aload_7 (x_dk dn_104_0_0_ok 9 rfl))))
  (e_Tok2
  (e_Lok (lk_6_74g ho_104 (x_dk dn_104_0_0_ok 10 rfl)))
  (e_Lok (e_st (I := eI) (er_istore (i := 8) (x_dk dn_104_0_0_ok 11 rfl) (by decide +kernel)) nx_stor))))
  (e_Tok2
  (e_Tok2
  (e_Lok (ps_iconst_1 (x_dk dn_104_0_0_ok 12 rfl)))
  (e_Lok (e_st (I := eI) (er_istore (i := 9) (x_dk dn_104_0_0_ok 13 rfl) (by decide +kernel)) nx_stor)))
  (e_Tok2
  (e_Lok (ld_aload_n_0 (x_dk dn_104_0_0_ok 14 rfl)))
  (e_Tok2
  (e_Lok (lk_6_58g ho_104 (x_dk dn_104_0_0_ok 15 rfl)))
  (e_Lok (e_st (I := eI) (er_istore (i := 10) (x_dk dn_104_0_0_ok 16 rfl) (by decide +kernel)) nx_stor)))))))
  (e_Tok2
  (e_Tok2
  (e_Tok2
  (e_Tok2
  (e_Lok (ld_iload_10 (x_dk dn_104_0_0_ok 17 rfl)))
  (e_Lok (e_st (I := eI) (er_ifle (off := 91) (tg := 123) (x_dk dn_104_0_0_ok 18 rfl) (by decide)) nx_if1)))
  (e_Tok2
  (e_Lok (ld_iload_9 (x_dk dn_104_0_0_ok 19 rfl)))
  (e_Lok (e_st (I := eI) (er_ifeq (off := 86) (tg := 123) (x_dk dn_104_0_0_ok 20 rfl) (by decide)) nx_if1))))
  (e_Tok2
  (e_Tok2
  (e_Lok (ld_aload_7 (x_dk dn_104_0_0_ok 21 rfl)))
  (e_Lok (ld_iload_5 (x_dk dn_104_0_0_ok 22 rfl))))
  (e_Tok2
  (e_Lok (ps_iconst_2 (x_dk dn_104_0_0_ok 23 rfl)))
  (e_Lok (e_st (I := eI) (er_irem (x_dk dn_104_0_0_ok 24 rfl)) nx_bin)))))
  (e_Tok2
  (e_Tok2
  (e_Tok2
  (e_Lok (e_st (I := eI) (er_ifne (off := 11) (tg := 57) (x_dk dn_104_0_1_ok 0 rfl) (by decide)) nx_if1))
  (e_Lok (ld_iload_8 (x_dk dn_104_0_1_ok 1 rfl))))
  (e_Tok2
  (e_Lok (ld_iload_10 (x_dk dn_104_0_1_ok 2 rfl)))
  (e_Lok (sm_iadd (x_dk dn_104_0_1_ok 3 rfl)))))
  (e_Tok2
  (e_Tok2
  (e_Lok (e_st (I := eI) (er_goto (off := 8) (tg := 62) (x_dk dn_104_0_1_ok 4 rfl) (by decide)) nx_goto))
  (e_Lok (ld_iload_8 (x_dk dn_104_0_1_ok 5 rfl))))
  (e_Tok2
  (e_Lok (ld_iload_10 (x_dk dn_104_0_1_ok 6 rfl)))
  (e_Tok2
  (e_Lok (sm_isub (x_dk dn_104_0_1_ok 7 rfl)))
  (e_Lok (lk_6_74p ho_104 (x_dk dn_104_0_1_ok 8 rfl)))))))))
def te_104_34 : Nat → eE := (e_T 93 (e_T 75 (e_T 69 (e_T 66 (e_T 65 (e_L 65 (0, ei_load 1 2 66, 0, 0)) (e_L 66 (0, ei_load 4 0 68, 0, 0))) (e_T 68 (e_L 68 (0, ei_aald elay 69, 0, 0)) (e_L 69 (2, e_nof, 10, 1)))) (e_T 73 (e_T 72 (e_L 72 (0, ei_load 3 2 73, 0, 0)) (e_L 73 (0, ei_load 1 2 74, 0, 0))) (e_T 74 (e_L 74 (0, ei_load 2 0 75, 0, 0)) (e_L 75 (0, ei_load 4 0 77, 0, 0))))) (e_T 82 (e_T 78 (e_T 77 (e_L 77 (0, ei_push (0, 0) 78, 0, 0)) (e_L 78 (0, ei_load 0 2 79, 0, 0))) (e_T 79 (e_L 79 (0, ei_getf eft elay 6 2 82, 0, 0)) (e_L 82 (2, e_nof, 171, 6)))) (e_T 88 (e_T 85 (e_L 85 (0, ei_if1 1 92 88, 0, 0)) (e_L 88 (0, ei_push (0, 1) 89, 0, 0))) (e_T 89 (e_L 89 (0, ei_goto 93, 0, 0)) (e_T 92 (e_L 92 (0, ei_push (0, 0) 93, 0, 0)) (e_L 93 (0, ei_stor 9 0 95, 0, 0))))))) (e_T 113 (e_T 102 (e_T 97 (e_T 95 (e_L 95 (0, ei_load 9 0 97, 0, 0)) (e_L 97 (0, ei_if1 1 117 100, 0, 0))) (e_T 100 (e_L 100 (0, ei_load 10 0 102, 0, 0)) (e_L 102 (0, ei_load 0 2 103, 0, 0)))) (e_T 106 (e_T 103 (e_L 103 (0, ei_getf eft elay 6 1 106, 0, 0)) (e_L 106 (0, ei_if2 1 117 109, 0, 0))) (e_T 109 (e_L 109 (0, ei_load 0 2 110, 0, 0)) (e_T 110 (e_L 110 (0, ei_getf eft elay 6 9 113, 0, 0)) (e_L 113 (0, ei_load 6 0 115, 0, 0)))))) (e_T 120 (e_T 116 (e_T 115 (e_L 115 (0, ei_push (0, (-1)) 116, 0, 0)) (e_L 116 (0, ei_ast elay false 117, 0, 0))) (e_T 117 (e_L 117 (0, ei_inc 10 (-1) 120, 0, 0)) (e_L 120 (0, ei_goto 30, 0, 0)))) (e_T 125 (e_T 123 (e_L 123 (0, ei_load 7 2 125, 0, 0)) (e_L 125 (0, ei_load 8 0 127, 0, 0))) (e_T 127 (e_L 127 (0, ei_putf eft elay 5 7 0 130, 0, 0)) (e_T 130 (e_L 130 (0, ei_load 9 0 132, 0, 0)) (e_L 132 (1, e_nof, 4, 0))))))))
set_option maxRecDepth 20000 in
set_option maxHeartbeats 4000000 in
theorem te_104_34_ok : ∀ pc, e_EOq eft cls elay eI n_104 pc (te_104_34 pc) :=
  (e_Tok2
  (e_Tok2
  (e_Tok2
  (e_Tok2
  (e_Tok2
  (e_Lok (ld_aload_n_1 (x_dk dn_104_0_1_ok 9 rfl)))
  (e_Lok (ld_iload_4 (x_dk dn_104_0_1_ok 10 rfl))))
  (e_Tok2
  (e_Lok (e_st (I := eI) (er_aaload (x_dk dn_104_0_1_ok 11 rfl)) nx_aald))
  (e_Lok (lk_6_113 ho_104 (x_dk dn_104_0_1_ok 12 rfl)))))
  (e_Tok2
  (e_Tok2
  (e_Lok (ld_aload_n_3 (x_dk dn_104_0_1_ok 13 rfl)))
  (e_Lok (ld_aload_n_1 (x_dk dn_104_0_1_ok 14 rfl))))
  (e_Tok2
  (e_Lok (ld_iload_n_2 (x_dk dn_104_0_1_ok 15 rfl)))
  (e_Lok (ld_iload_4 (x_dk dn_104_0_1_ok 16 rfl))))))
  (e_Tok2
  (e_Tok2
  (e_Tok2
  (e_Lok (ps_iconst_0 (x_dk dn_104_0_1_ok 17 rfl)))
  (e_Lok (ld_aload_n_0 (x_dk dn_104_0_1_ok 18 rfl))))
  (e_Tok2
  (e_Lok (lk_6_61g ho_104 (x_dk dn_104_0_1_ok 19 rfl)))
  (e_Lok (lk_6_95 ho_104 (x_dk dn_104_0_1_ok 20 rfl)))))
  (e_Tok2
  (e_Tok2
  (e_Lok (e_st (I := eI) (er_ifne (off := 7) (tg := 92) (x_dk dn_104_0_1_ok 21 rfl) (by decide)) nx_if1))
  (e_Lok (ps_iconst_1 (x_dk dn_104_0_1_ok 22 rfl))))
  (e_Tok2
  (e_Lok (e_st (I := eI) (er_goto (off := 4) (tg := 93) (x_dk dn_104_0_1_ok 23 rfl) (by decide)) nx_goto))
  (e_Tok2
  (e_Lok (ps_iconst_0 (x_dk dn_104_0_1_ok 24 rfl)))
  (e_Lok (e_st (I := eI) (er_istore (i := 9) (x_dk dn_104_0_2_ok 0 rfl) (by decide +kernel)) nx_stor)))))))
  (e_Tok2
  (e_Tok2
  (e_Tok2
  (e_Tok2
  (e_Lok (ld_iload_9 (x_dk dn_104_0_2_ok 1 rfl)))
  (e_Lok (e_st (I := eI) (er_ifne (off := 20) (tg := 117) (x_dk dn_104_0_2_ok 2 rfl) (by decide)) nx_if1)))
  (e_Tok2
  (e_Lok (ld_iload_10 (x_dk dn_104_0_2_ok 3 rfl)))
  (e_Lok (ld_aload_n_0 (x_dk dn_104_0_2_ok 4 rfl)))))
  (e_Tok2
  (e_Tok2
  (e_Lok (lk_6_58g ho_104 (x_dk dn_104_0_2_ok 5 rfl)))
  (e_Lok (e_st (I := eI) (er_icmpne (off := 11) (tg := 117) (x_dk dn_104_0_2_ok 6 rfl) (by decide)) nx_if2)))
  (e_Tok2
  (e_Lok (ld_aload_n_0 (x_dk dn_104_0_2_ok 7 rfl)))
  (e_Tok2
  (e_Lok (lk_6_27g ho_104 (x_dk dn_104_0_2_ok 8 rfl)))
  (e_Lok (ld_iload_6 (x_dk dn_104_0_2_ok 9 rfl)))))))
  (e_Tok2
  (e_Tok2
  (e_Tok2
  (e_Lok (ps_iconst_m1 (x_dk dn_104_0_2_ok 10 rfl)))
  (e_Lok (sm_iastore (x_dk dn_104_0_2_ok 11 rfl))))
  (e_Tok2
  (e_Lok (e_st (I := eI) (er_iinc (i := 10) (n := (-1)) (x_dk dn_104_0_2_ok 12 rfl) (by decide +kernel) (by decide)) nx_inc))
  (e_Lok (e_st (I := eI) (er_goto (off := (-90)) (tg := 30) (x_dk dn_104_0_2_ok 13 rfl) (by decide)) nx_goto))))
  (e_Tok2
  (e_Tok2
  (e_Lok (ld_aload_7 (x_dk dn_104_0_2_ok 14 rfl)))
  (e_Lok (ld_iload_8 (x_dk dn_104_0_2_ok 15 rfl))))
  (e_Tok2
  (e_Lok (lk_6_74p ho_104 (x_dk dn_104_0_2_ok 16 rfl)))
  (e_Tok2
  (e_Lok (ld_iload_9 (x_dk dn_104_0_2_ok 17 rfl)))
  (e_Lok (e_rt (I := eI) (k := 4) ⟨(x_dk dn_104_0_2_ok 18 rfl), rfl⟩))))))))
def te_104 : Nat → eE := (e_T 62 te_104_0 te_104_34)
theorem te_104_ok : ∀ pc, e_EOq eft cls elay eI n_104 pc (te_104 pc) := (e_Tok2 (te_104_0_ok) (te_104_34_ok))
end
