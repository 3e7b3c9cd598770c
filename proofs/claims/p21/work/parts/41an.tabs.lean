noncomputable section
theorem ho_190 : (xm_y n_190).cls = "RobotCellHouse" := rfl
def dn_190_0_0 : List (Nat × Instr × Nat) := [(0, .aload_n 0, 1), (1, .getfield 10, 3), (4, .getfield 74, 3), (7, .sipush 3980, 3), (10, .if_icmp .le 6, 3), (13, .bipush (-3), 2), (15, .ireturn, 1), (16, .aload_n 0, 1), (17, .getfield 10, 3), (20, .iload_n 1, 1), (21, .invokevirtual 78, 3), (24, .aload_n 0, 1), (25, .getfield 10, 3), (28, .iload_n 2, 1), (29, .invokevirtual 78, 3), (32, .aload_n 0, 1), (33, .getfield 10, 3), (36, .iload_n 3, 1), (37, .invokevirtual 78, 3), (40, .aload_n 0, 1), (41, .getfield 10, 3), (44, .iload 4, 2), (46, .invokevirtual 78, 3), (49, .aload_n 0, 1), (50, .getfield 10, 3)]
set_option maxRecDepth 20000 in
theorem dn_190_0_0_ok : dn_190_0_0.all (fun q => decide (decode (xm_b n_190) q.1 = .ok (q.2.1, q.2.2))) = true := xa_g_ok (by decide +kernel)
def dn_190_0_1 : List (Nat × Instr × Nat) := [(53, .iload 5, 2), (55, .invokevirtual 78, 3), (58, .aload_n 0, 1), (59, .getfield 10, 3), (62, .getfield 74, 3), (65, .ireturn, 1)]
set_option maxRecDepth 20000 in
theorem dn_190_0_1_ok : dn_190_0_1.all (fun q => decide (decode (xm_b n_190) q.1 = .ok (q.2.1, q.2.2))) = true := xa_g_ok (by decide +kernel)
def te_190_0 : Nat → eE := (e_T 29 (e_T 15 (e_T 4 (e_T 0 (e_L 0 (0, ei_load 0 2 1, 0, 0)) (e_T 1 (e_L 1 (0, ei_getf eft elay 11 0 4, 0, 0)) (e_L 4 (0, ei_getf eft elay 8 0 7, 0, 0)))) (e_T 10 (e_T 7 (e_L 7 (0, ei_push (0, 3980) 10, 0, 0)) (e_L 10 (0, ei_if2 5 16 13, 0, 0))) (e_T 13 (e_L 13 (0, ei_push (0, (-3)) 15, 0, 0)) (e_L 15 (1, e_nof, 1, 0))))) (e_T 21 (e_T 17 (e_T 16 (e_L 16 (0, ei_load 0 2 17, 0, 0)) (e_L 17 (0, ei_getf eft elay 11 0 20, 0, 0))) (e_T 20 (e_L 20 (0, ei_load 1 0 21, 0, 0)) (e_L 21 (2, e_nof, 118, 2)))) (e_T 25 (e_T 24 (e_L 24 (0, ei_load 0 2 25, 0, 0)) (e_L 25 (0, ei_getf eft elay 11 0 28, 0, 0))) (e_T 28 (e_L 28 (0, ei_load 2 0 29, 0, 0)) (e_L 29 (2, e_nof, 118, 2)))))) (e_T 46 (e_T 37 (e_T 33 (e_T 32 (e_L 32 (0, ei_load 0 2 33, 0, 0)) (e_L 33 (0, ei_getf eft elay 11 0 36, 0, 0))) (e_T 36 (e_L 36 (0, ei_load 3 0 37, 0, 0)) (e_L 37 (2, e_nof, 118, 2)))) (e_T 41 (e_T 40 (e_L 40 (0, ei_load 0 2 41, 0, 0)) (e_L 41 (0, ei_getf eft elay 11 0 44, 0, 0))) (e_T 44 (e_L 44 (0, ei_load 4 0 46, 0, 0)) (e_L 46 (2, e_nof, 118, 2))))) (e_T 55 (e_T 50 (e_T 49 (e_L 49 (0, ei_load 0 2 50, 0, 0)) (e_L 50 (0, ei_getf eft elay 11 0 53, 0, 0))) (e_T 53 (e_L 53 (0, ei_load 5 0 55, 0, 0)) (e_L 55 (2, e_nof, 118, 2)))) (e_T 59 (e_T 58 (e_L 58 (0, ei_load 0 2 59, 0, 0)) (e_L 59 (0, ei_getf eft elay 11 0 62, 0, 0))) (e_T 62 (e_L 62 (0, ei_getf eft elay 8 0 65, 0, 0)) (e_L 65 (1, e_nof, 1, 0)))))))
set_option maxRecDepth 20000 in
set_option maxHeartbeats 4000000 in
theorem te_190_0_ok : ∀ pc, e_EOq eft cls elay eI n_190 pc (te_190_0 pc) :=
  (e_Tok2
  (e_Tok2
  (e_Tok2
  (e_Tok2
  (e_Lok (ld_aload_n_0 (x_dk dn_190_0_0_ok 0 rfl)))
  (e_Tok2
  (e_Lok (lk_11_10g ho_190 (x_dk dn_190_0_0_ok 1 rfl)))
  (e_Lok (lk_11_74g ho_190 (x_dk dn_190_0_0_ok 2 rfl)))))
  (e_Tok2
  (e_Tok2
  (e_Lok (ps_sipush_3980 (x_dk dn_190_0_0_ok 3 rfl)))
  (e_Lok (e_st (I := eI) (er_icmple (off := 6) (tg := 16) (x_dk dn_190_0_0_ok 4 rfl) (by decide)) nx_if2)))
  (e_Tok2
  (e_Lok (ps_bipush_m3 (x_dk dn_190_0_0_ok 5 rfl)))
  (e_Lok (e_rt (I := eI) (k := 1) ⟨(x_dk dn_190_0_0_ok 6 rfl), rfl⟩)))))
  (e_Tok2
  (e_Tok2
  (e_Tok2
  (e_Lok (ld_aload_n_0 (x_dk dn_190_0_0_ok 7 rfl)))
  (e_Lok (lk_11_10g ho_190 (x_dk dn_190_0_0_ok 8 rfl))))
  (e_Tok2
  (e_Lok (ld_iload_n_1 (x_dk dn_190_0_0_ok 9 rfl)))
  (e_Lok (lk_11_78 ho_190 (x_dk dn_190_0_0_ok 10 rfl)))))
  (e_Tok2
  (e_Tok2
  (e_Lok (ld_aload_n_0 (x_dk dn_190_0_0_ok 11 rfl)))
  (e_Lok (lk_11_10g ho_190 (x_dk dn_190_0_0_ok 12 rfl))))
  (e_Tok2
  (e_Lok (ld_iload_n_2 (x_dk dn_190_0_0_ok 13 rfl)))
  (e_Lok (lk_11_78 ho_190 (x_dk dn_190_0_0_ok 14 rfl)))))))
  (e_Tok2
  (e_Tok2
  (e_Tok2
  (e_Tok2
  (e_Lok (ld_aload_n_0 (x_dk dn_190_0_0_ok 15 rfl)))
  (e_Lok (lk_11_10g ho_190 (x_dk dn_190_0_0_ok 16 rfl))))
  (e_Tok2
  (e_Lok (ld_iload_n_3 (x_dk dn_190_0_0_ok 17 rfl)))
  (e_Lok (lk_11_78 ho_190 (x_dk dn_190_0_0_ok 18 rfl)))))
  (e_Tok2
  (e_Tok2
  (e_Lok (ld_aload_n_0 (x_dk dn_190_0_0_ok 19 rfl)))
  (e_Lok (lk_11_10g ho_190 (x_dk dn_190_0_0_ok 20 rfl))))
  (e_Tok2
  (e_Lok (ld_iload_4 (x_dk dn_190_0_0_ok 21 rfl)))
  (e_Lok (lk_11_78 ho_190 (x_dk dn_190_0_0_ok 22 rfl))))))
  (e_Tok2
  (e_Tok2
  (e_Tok2
  (e_Lok (ld_aload_n_0 (x_dk dn_190_0_0_ok 23 rfl)))
  (e_Lok (lk_11_10g ho_190 (x_dk dn_190_0_0_ok 24 rfl))))
  (e_Tok2
  (e_Lok (ld_iload_5 (x_dk dn_190_0_1_ok 0 rfl)))
  (e_Lok (lk_11_78 ho_190 (x_dk dn_190_0_1_ok 1 rfl)))))
  (e_Tok2
  (e_Tok2
  (e_Lok (ld_aload_n_0 (x_dk dn_190_0_1_ok 2 rfl)))
  (e_Lok (lk_11_10g ho_190 (x_dk dn_190_0_1_ok 3 rfl))))
  (e_Tok2
  (e_Lok (lk_11_74g ho_190 (x_dk dn_190_0_1_ok 4 rfl)))
  (e_Lok (e_rt (I := eI) (k := 1) ⟨(x_dk dn_190_0_1_ok 5 rfl), rfl⟩)))))))
def te_190 : Nat → eE := te_190_0
theorem te_190_ok : ∀ pc, e_EOq eft cls elay eI n_190 pc (te_190 pc) := te_190_0_ok
theorem ho_191 : (xm_y n_191).cls = "RobotCellHouse" := rfl
def dn_191_0_0 : List (Nat × Instr × Nat) := [(0, .iload_n 1, 1), (1, .iconst 0, 1), (2, .aload_n 0, 1), (3, .getfield 10, 3), (6, .getfield 74, 3), (9, .invokestatic 82, 3), (12, .ifCond .ne 5, 3), (15, .iconst (-1), 1), (16, .ireturn, 1), (17, .aload_n 0, 1), (18, .getfield 10, 3), (21, .dup, 1), (22, .getfield 74, 3), (25, .iload_n 1, 1), (26, .isub, 1), (27, .putfield 74, 3), (30, .aload_n 0, 1), (31, .getfield 10, 3), (34, .getfield 74, 3), (37, .ireturn, 1)]
set_option maxRecDepth 20000 in
theorem dn_191_0_0_ok : dn_191_0_0.all (fun q => decide (decode (xm_b n_191) q.1 = .ok (q.2.1, q.2.2))) = true := xa_g_ok (by decide +kernel)
def te_191_0 : Nat → eE := (e_T 17 (e_T 6 (e_T 1 (e_T 0 (e_L 0 (0, ei_load 1 0 1, 0, 0)) (e_L 1 (0, ei_push (0, 0) 2, 0, 0))) (e_T 2 (e_L 2 (0, ei_load 0 2 3, 0, 0)) (e_T 3 (e_L 3 (0, ei_getf eft elay 11 0 6, 0, 0)) (e_L 6 (0, ei_getf eft elay 8 0 9, 0, 0))))) (e_T 12 (e_T 9 (e_L 9 (2, e_nof, 242, 3)) (e_L 12 (0, ei_if1 1 17 15, 0, 0))) (e_T 15 (e_L 15 (0, ei_push (0, (-1)) 16, 0, 0)) (e_T 16 (e_L 16 (1, e_nof, 1, 0)) (e_L 17 (0, ei_load 0 2 18, 0, 0)))))) (e_T 26 (e_T 21 (e_T 18 (e_L 18 (0, ei_getf eft elay 11 0 21, 0, 0)) (e_L 21 (0, ei_stk ef_dup 22, 0, 0))) (e_T 22 (e_L 22 (0, ei_getf eft elay 8 0 25, 0, 0)) (e_T 25 (e_L 25 (0, ei_load 1 0 26, 0, 0)) (e_L 26 (0, ei_bin eF_sub 27, 0, 0))))) (e_T 30 (e_T 27 (e_L 27 (0, ei_putf eft elay 8 0 0 30, 0, 0)) (e_L 30 (0, ei_load 0 2 31, 0, 0))) (e_T 31 (e_L 31 (0, ei_getf eft elay 11 0 34, 0, 0)) (e_T 34 (e_L 34 (0, ei_getf eft elay 8 0 37, 0, 0)) (e_L 37 (1, e_nof, 1, 0)))))))
set_option maxRecDepth 20000 in
set_option maxHeartbeats 4000000 in
theorem te_191_0_ok : ∀ pc, e_EOq eft cls elay eI n_191 pc (te_191_0 pc) :=
  (e_Tok2
  (e_Tok2
  (e_Tok2
  (e_Tok2
  (e_Lok (ld_iload_n_1 (x_dk dn_191_0_0_ok 0 rfl)))
  (e_Lok (ps_iconst_0 (x_dk dn_191_0_0_ok 1 rfl))))
  (e_Tok2
  (e_Lok (ld_aload_n_0 (x_dk dn_191_0_0_ok 2 rfl)))
  (e_Tok2
  (e_Lok (lk_11_10g ho_191 (x_dk dn_191_0_0_ok 3 rfl)))
  (e_Lok (lk_11_74g ho_191 (x_dk dn_191_0_0_ok 4 rfl))))))
  (e_Tok2
  (e_Tok2
  (e_Lok (lk_11_82 ho_191 (x_dk dn_191_0_0_ok 5 rfl)))
  (e_Lok (e_st (I := eI) (er_ifne (off := 5) (tg := 17) (x_dk dn_191_0_0_ok 6 rfl) (by decide)) nx_if1)))
  (e_Tok2
  (e_Lok (ps_iconst_m1 (x_dk dn_191_0_0_ok 7 rfl)))
  (e_Tok2
  (e_Lok (e_rt (I := eI) (k := 1) ⟨(x_dk dn_191_0_0_ok 8 rfl), rfl⟩))
  (e_Lok (ld_aload_n_0 (x_dk dn_191_0_0_ok 9 rfl)))))))
  (e_Tok2
  (e_Tok2
  (e_Tok2
  (e_Lok (lk_11_10g ho_191 (x_dk dn_191_0_0_ok 10 rfl)))
  (e_Lok (e_st (I := eI) (er_dup (x_dk dn_191_0_0_ok 11 rfl)) (nx_stk bf_dup))))
  (e_Tok2
  (e_Lok (lk_11_74g ho_191 (x_dk dn_191_0_0_ok 12 rfl)))
  (e_Tok2
  (e_Lok (ld_iload_n_1 (x_dk dn_191_0_0_ok 13 rfl)))
  (e_Lok (sm_isub (x_dk dn_191_0_0_ok 14 rfl))))))
  (e_Tok2
  (e_Tok2
  (e_Lok (lk_11_74p ho_191 (x_dk dn_191_0_0_ok 15 rfl)))
  (e_Lok (ld_aload_n_0 (x_dk dn_191_0_0_ok 16 rfl))))
  (e_Tok2
  (e_Lok (lk_11_10g ho_191 (x_dk dn_191_0_0_ok 17 rfl)))
  (e_Tok2
  (e_Lok (lk_11_74g ho_191 (x_dk dn_191_0_0_ok 18 rfl)))
  (e_Lok (e_rt (I := eI) (k := 1) ⟨(x_dk dn_191_0_0_ok 19 rfl), rfl⟩)))))))
def te_191 : Nat → eE := te_191_0
theorem te_191_ok : ∀ pc, e_EOq eft cls elay eI n_191 pc (te_191 pc) := te_191_0_ok
theorem ho_192 : (xm_y n_192).cls = "RobotCellHouse" := rfl
def dn_192_0_0 : List (Nat × Instr × Nat) := [(0, .aload_n 0, 1), (1, .getfield 42, 3), (4, .getfield 86, 3), (7, .istore_n 1, 1), (8, .aload_n 0, 1), (9, .invokevirtual 71, 3), (12, .iload_n 1, 1), (13, .ireturn, 1)]
set_option maxRecDepth 20000 in
theorem dn_192_0_0_ok : dn_192_0_0.all (fun q => decide (decode (xm_b n_192) q.1 = .ok (q.2.1, q.2.2))) = true := xa_g_ok (by decide +kernel)
def te_192_0 : Nat → eE := (e_T 7 (e_T 1 (e_T 0 (e_L 0 (0, ei_load 0 2 1, 0, 0)) (e_L 1 (0, ei_getf eft elay 11 5 4, 0, 0))) (e_T 4 (e_L 4 (0, ei_getf eft elay 2 0 7, 0, 0)) (e_L 7 (0, ei_stor 1 0 8, 0, 0)))) (e_T 9 (e_T 8 (e_L 8 (0, ei_load 0 2 9, 0, 0)) (e_L 9 (2, e_nof, 251, 1))) (e_T 12 (e_L 12 (0, ei_load 1 0 13, 0, 0)) (e_L 13 (1, e_nof, 1, 0)))))
set_option maxRecDepth 20000 in
set_option maxHeartbeats 4000000 in
theorem te_192_0_ok : ∀ pc, e_EOq eft cls elay eI n_192 pc (te_192_0 pc) :=
  (e_Tok2
  (e_Tok2
  (e_Tok2
  (e_Lok (ld_aload_n_0 (x_dk dn_192_0_0_ok 0 rfl)))
  (e_Lok (lk_11_42g ho_192 (x_dk dn_192_0_0_ok 1 rfl))))
  (e_Tok2
  (e_Lok (lk_11_86g ho_192 (x_dk dn_192_0_0_ok 2 rfl)))
  (e_Lok (e_st (I := eI) (er_istore_n (i := 1) (x_dk dn_192_0_0_ok 3 rfl) (by decide +kernel)) nx_stor))))
  (e_Tok2
  (e_Tok2
  (e_Lok (ld_aload_n_0 (x_dk dn_192_0_0_ok 4 rfl)))
  (e_Lok (lk_11_71 ho_192 (x_dk dn_192_0_0_ok 5 rfl))))
  (e_Tok2
  (e_Lok (ld_iload_n_1 (x_dk dn_192_0_0_ok 6 rfl)))
  (e_Lok (e_rt (I := eI) (k := 1) ⟨(x_dk dn_192_0_0_ok 7 rfl), rfl⟩)))))
def te_192 : Nat → eE := te_192_0
theorem te_192_ok : ∀ pc, e_EOq eft cls elay eI n_192 pc (te_192 pc) := te_192_0_ok
theorem ho_193 : (xm_y n_193).cls = "RobotCellHouse" := rfl
def dn_193_0_0 : List (Nat × Instr × Nat) := [(0, .iload_n 1, 1), (1, .sipush (-8000), 3), (4, .sipush 8000, 3), (7, .invokestatic 82, 3), (10, .ifCond .eq 16, 3), (13, .iload_n 2, 1), (14, .sipush (-8000), 3), (17, .sipush 8000, 3), (20, .invokestatic 82, 3), (23, .ifCond .ne 5, 3), (26, .iconst (-1), 1), (27, .ireturn, 1), (28, .iload_n 3, 1), (29, .iconst 0, 1), (30, .sipush 4095, 3), (33, .invokestatic 82, 3), (36, .ifCond .eq 15, 3), (39, .iload 4, 2), (41, .iconst 0, 1), (42, .sipush 800, 3), (45, .invokestatic 82, 3), (48, .ifCond .ne 5, 3), (51, .iconst (-1), 1), (52, .ireturn, 1), (53, .aload_n 0, 1)]
set_option maxRecDepth 20000 in
theorem dn_193_0_0_ok : dn_193_0_0.all (fun q => decide (decode (xm_b n_193) q.1 = .ok (q.2.1, q.2.2))) = true := xa_g_ok (by decide +kernel)
def dn_193_0_1 : List (Nat × Instr × Nat) := [(54, .getfield 91, 3), (57, .ifCond .eq 6, 3), (60, .bipush (-2), 2), (62, .ireturn, 1), (63, .aload_n 0, 1), (64, .getfield 94, 3), (67, .iconst 4, 1), (68, .if_icmp .lt 6, 3), (71, .bipush (-3), 2), (73, .ireturn, 1), (74, .aload_n 0, 1), (75, .getfield 27, 3), (78, .aload_n 0, 1), (79, .getfield 94, 3), (82, .aaload, 1), (83, .iload_n 1, 1), (84, .iload_n 2, 1), (85, .iload_n 3, 1), (86, .iload 4, 2), (88, .invokevirtual 97, 3), (91, .aload_n 0, 1), (92, .dup, 1), (93, .getfield 94, 3), (96, .iconst 1, 1), (97, .iadd, 1)]
set_option maxRecDepth 20000 in
theorem dn_193_0_1_ok : dn_193_0_1.all (fun q => decide (decode (xm_b n_193) q.1 = .ok (q.2.1, q.2.2))) = true := xa_g_ok (by decide +kernel)
def dn_193_0_2 : List (Nat × Instr × Nat) := [(98, .putfield 94, 3), (101, .aload_n 0, 1), (102, .getfield 94, 3), (105, .iconst 1, 1), (106, .isub, 1), (107, .ireturn, 1)]
set_option maxRecDepth 20000 in
theorem dn_193_0_2_ok : dn_193_0_2.all (fun q => decide (decode (xm_b n_193) q.1 = .ok (q.2.1, q.2.2))) = true := xa_g_ok (by decide +kernel)
def te_193_0 : Nat → eE := (e_T 29 (e_T 14 (e_T 4 (e_T 0 (e_L 0 (0, ei_load 1 0 1, 0, 0)) (e_T 1 (e_L 1 (0, ei_push (0, (-8000)) 4, 0, 0)) (e_L 4 (0, ei_push (0, 8000) 7, 0, 0)))) (e_T 10 (e_T 7 (e_L 7 (2, e_nof, 242, 3)) (e_L 10 (0, ei_if1 0 26 13, 0, 0))) (e_T 13 (e_L 13 (0, ei_load 2 0 14, 0, 0)) (e_L 14 (0, ei_push (0, (-8000)) 17, 0, 0))))) (e_T 23 (e_T 17 (e_L 17 (0, ei_push (0, 8000) 20, 0, 0)) (e_T 20 (e_L 20 (2, e_nof, 242, 3)) (e_L 23 (0, ei_if1 1 28 26, 0, 0)))) (e_T 27 (e_T 26 (e_L 26 (0, ei_push (0, (-1)) 27, 0, 0)) (e_L 27 (1, e_nof, 1, 0))) (e_T 28 (e_L 28 (0, ei_load 3 0 29, 0, 0)) (e_L 29 (0, ei_push (0, 0) 30, 0, 0)))))) (e_T 45 (e_T 36 (e_T 30 (e_L 30 (0, ei_push (0, 4095) 33, 0, 0)) (e_T 33 (e_L 33 (2, e_nof, 242, 3)) (e_L 36 (0, ei_if1 0 51 39, 0, 0)))) (e_T 41 (e_T 39 (e_L 39 (0, ei_load 4 0 41, 0, 0)) (e_L 41 (0, ei_push (0, 0) 42, 0, 0))) (e_T 42 (e_L 42 (0, ei_push (0, 800) 45, 0, 0)) (e_L 45 (2, e_nof, 242, 3))))) (e_T 52 (e_T 48 (e_L 48 (0, ei_if1 1 53 51, 0, 0)) (e_T 51 (e_L 51 (0, ei_push (0, (-1)) 52, 0, 0)) (e_L 52 (1, e_nof, 1, 0)))) (e_T 54 (e_T 53 (e_L 53 (0, ei_load 0 2 54, 0, 0)) (e_L 54 (0, ei_getf eft elay 11 13 57, 0, 0))) (e_T 57 (e_L 57 (0, ei_if1 0 63 60, 0, 0)) (e_L 60 (0, ei_push (0, (-2)) 62, 0, 0)))))))
set_option maxRecDepth 20000 in
set_option maxHeartbeats 4000000 in
theorem te_193_0_ok : ∀ pc, e_EOq eft cls elay eI n_193 pc (te_193_0 pc) :=
  (e_Tok2
  (e_Tok2
  (e_Tok2
  (e_Tok2
  (e_Lok (ld_iload_n_1 (x_dk dn_193_0_0_ok 0 rfl)))
  (e_Tok2
  (e_Lok (ps_sipush_m8000 (x_dk dn_193_0_0_ok 1 rfl)))
  (e_Lok (ps_sipush_8000 (x_dk dn_193_0_0_ok 2 rfl)))))
  (e_Tok2
  (e_Tok2
  (e_Lok (lk_11_82 ho_193 (x_dk dn_193_0_0_ok 3 rfl)))
  (e_Lok (e_st (I := eI) (er_ifeq (off := 16) (tg := 26) (x_dk dn_193_0_0_ok 4 rfl) (by decide)) nx_if1)))
  (e_Tok2
  (e_Lok (ld_iload_n_2 (x_dk dn_193_0_0_ok 5 rfl)))
  (e_Lok (ps_sipush_m8000 (x_dk dn_193_0_0_ok 6 rfl))))))
  (e_Tok2
  (e_Tok2
  (e_Lok (ps_sipush_8000 (x_dk dn_193_0_0_ok 7 rfl)))
  (e_Tok2
  (e_Lok (lk_11_82 ho_193 (x_dk dn_193_0_0_ok 8 rfl)))
  (e_Lok (e_st (I := eI) (er_ifne (off := 5) (tg := 28) (x_dk dn_193_0_0_ok 9 rfl) (by decide)) nx_if1))))
  (e_Tok2
  (e_Tok2
  (e_Lok (ps_iconst_m1 (x_dk dn_193_0_0_ok 10 rfl)))
  (e_Lok (e_rt (I := eI) (k := 1) ⟨(x_dk dn_193_0_0_ok 11 rfl), rfl⟩)))
  (e_Tok2
  (e_Lok (ld_iload_n_3 (x_dk dn_193_0_0_ok 12 rfl)))
  (e_Lok (ps_iconst_0 (x_dk dn_193_0_0_ok 13 rfl)))))))
  (e_Tok2
  (e_Tok2
  (e_Tok2
  (e_Lok (ps_sipush_4095 (x_dk dn_193_0_0_ok 14 rfl)))
  (e_Tok2
  (e_Lok (lk_11_82 ho_193 (x_dk dn_193_0_0_ok 15 rfl)))
  (e_Lok (e_st (I := eI) (er_ifeq (off := 15) (tg := 51) (x_dk dn_193_0_0_ok 16 rfl) (by decide)) nx_if1))))
  (e_Tok2
  (e_Tok2
  (e_Lok (ld_iload_4 (x_dk dn_193_0_0_ok 17 rfl)))
  (e_Lok (ps_iconst_0 (x_dk dn_193_0_0_ok 18 rfl))))
  (e_Tok2
  (e_Lok (ps_sipush_800 (x_dk dn_193_0_0_ok 19 rfl)))
  (e_Lok (lk_11_82 ho_193 (x_dk dn_193_0_0_ok 20 rfl))))))
  (e_Tok2
  (e_Tok2
  (e_Lok (e_st (I := eI) (er_ifne (off := 5) (tg := 53) (x_dk dn_193_0_0_ok 21 rfl) (by decide)) nx_if1))
  (e_Tok2
  (e_Lok (ps_iconst_m1 (x_dk dn_193_0_0_ok 22 rfl)))
  (e_Lok (e_rt (I := eI) (k := 1) ⟨(x_dk dn_193_0_0_ok 23 rfl), rfl⟩))))
  (e_Tok2
  (e_Tok2
  (e_Lok (ld_aload_n_0 (x_dk dn_193_0_0_ok 24 rfl)))
  (e_Lok (lk_11_91g ho_193 (x_dk dn_193_0_1_ok 0 rfl))))
  (e_Tok2
  (e_Lok (e_st (I := eI) (er_ifeq (off := 6) (tg := 63) (x_dk dn_193_0_1_ok 1 rfl) (by decide)) nx_if1))
  (e_Lok (ps_bipush_m2 (x_dk dn_193_0_1_ok 2 rfl))))))))
def te_193_28 : Nat → eE := (e_T 84 (e_T 73 (e_T 64 (e_T 62 (e_L 62 (1, e_nof, 1, 0)) (e_T 63 (e_L 63 (0, ei_load 0 2 64, 0, 0)) (e_L 64 (0, ei_getf eft elay 11 11 67, 0, 0)))) (e_T 68 (e_T 67 (e_L 67 (0, ei_push (0, 4) 68, 0, 0)) (e_L 68 (0, ei_if2 2 74 71, 0, 0))) (e_T 71 (e_L 71 (0, ei_push (0, (-3)) 73, 0, 0)) (e_L 73 (1, e_nof, 1, 0))))) (e_T 78 (e_T 74 (e_L 74 (0, ei_load 0 2 75, 0, 0)) (e_T 75 (e_L 75 (0, ei_getf eft elay 11 2 78, 0, 0)) (e_L 78 (0, ei_load 0 2 79, 0, 0)))) (e_T 82 (e_T 79 (e_L 79 (0, ei_getf eft elay 11 11 82, 0, 0)) (e_L 82 (0, ei_aald elay 83, 0, 0))) (e_T 83 (e_L 83 (0, ei_load 1 0 84, 0, 0)) (e_L 84 (0, ei_load 2 0 85, 0, 0)))))) (e_T 96 (e_T 88 (e_T 85 (e_L 85 (0, ei_load 3 0 86, 0, 0)) (e_T 86 (e_L 86 (0, ei_load 4 0 88, 0, 0)) (e_L 88 (2, e_nof, 1, 5)))) (e_T 92 (e_T 91 (e_L 91 (0, ei_load 0 2 92, 0, 0)) (e_L 92 (0, ei_stk ef_dup 93, 0, 0))) (e_T 93 (e_L 93 (0, ei_getf eft elay 11 11 96, 0, 0)) (e_L 96 (0, ei_push (0, 1) 97, 0, 0))))) (e_T 101 (e_T 97 (e_L 97 (0, ei_bin eF_add 98, 0, 0)) (e_T 98 (e_L 98 (0, ei_putf eft elay 11 11 0 101, 0, 0)) (e_L 101 (0, ei_load 0 2 102, 0, 0)))) (e_T 105 (e_T 102 (e_L 102 (0, ei_getf eft elay 11 11 105, 0, 0)) (e_L 105 (0, ei_push (0, 1) 106, 0, 0))) (e_T 106 (e_L 106 (0, ei_bin eF_sub 107, 0, 0)) (e_L 107 (1, e_nof, 1, 0)))))))
set_option maxRecDepth 20000 in
set_option maxHeartbeats 4000000 in
theorem te_193_28_ok : ∀ pc, e_EOq eft cls elay eI n_193 pc (te_193_28 pc) :=
  (e_Tok2
  (e_Tok2
  (e_Tok2
  (e_Tok2
  (e_Lok (e_rt (I := eI) (k := 1) ⟨(x_dk dn_193_0_1_ok 3 rfl), rfl⟩))
  (e_Tok2
  (e_Lok (ld_aload_n_0 (x_dk dn_193_0_1_ok 4 rfl)))
  (e_Lok (lk_11_94g ho_193 (x_dk dn_193_0_1_ok 5 rfl)))))
  (e_Tok2
  (e_Tok2
  (e_Lok (ps_iconst_4 (x_dk dn_193_0_1_ok 6 rfl)))
  (e_Lok (e_st (I := eI) (er_icmplt (off := 6) (tg := 74) (x_dk dn_193_0_1_ok 7 rfl) (by decide)) nx_if2)))
  (e_Tok2
  (e_Lok (ps_bipush_m3 (x_dk dn_193_0_1_ok 8 rfl)))
  (e_Lok (e_rt (I := eI) (k := 1) ⟨(x_dk dn_193_0_1_ok 9 rfl), rfl⟩)))))
  (e_Tok2
  (e_Tok2
  (e_Lok (ld_aload_n_0 (x_dk dn_193_0_1_ok 10 rfl)))
  (e_Tok2
  (e_Lok (lk_11_27g ho_193 (x_dk dn_193_0_1_ok 11 rfl)))
  (e_Lok (ld_aload_n_0 (x_dk dn_193_0_1_ok 12 rfl)))))
  (e_Tok2
  (e_Tok2
  (e_Lok (lk_11_94g ho_193 (x_dk dn_193_0_1_ok 13 rfl)))
  (e_Lok (e_st (I := eI) (er_aaload (x_dk dn_193_0_1_ok 14 rfl)) nx_aald)))
  (e_Tok2
  (e_Lok (ld_iload_n_1 (x_dk dn_193_0_1_ok 15 rfl)))
  (e_Lok (ld_iload_n_2 (x_dk dn_193_0_1_ok 16 rfl)))))))
  (e_Tok2
  (e_Tok2
  (e_Tok2
  (e_Lok (ld_iload_n_3 (x_dk dn_193_0_1_ok 17 rfl)))
  (e_Tok2
  (e_Lok (ld_iload_4 (x_dk dn_193_0_1_ok 18 rfl)))
  (e_Lok (lk_11_97 ho_193 (x_dk dn_193_0_1_ok 19 rfl)))))
  (e_Tok2
  (e_Tok2
  (e_Lok (ld_aload_n_0 (x_dk dn_193_0_1_ok 20 rfl)))
  (e_Lok (e_st (I := eI) (er_dup (x_dk dn_193_0_1_ok 21 rfl)) (nx_stk bf_dup))))
  (e_Tok2
  (e_Lok (lk_11_94g ho_193 (x_dk dn_193_0_1_ok 22 rfl)))
  (e_Lok (ps_iconst_1 (x_dk dn_193_0_1_ok 23 rfl))))))
  (e_Tok2
  (e_Tok2
  (e_Lok (sm_iadd (x_dk dn_193_0_1_ok 24 rfl)))
  (e_Tok2
  (e_Lok (lk_11_94p ho_193 (x_dk dn_193_0_2_ok 0 rfl)))
  (e_Lok (ld_aload_n_0 (x_dk dn_193_0_2_ok 1 rfl)))))
  (e_Tok2
  (e_Tok2
  (e_Lok (lk_11_94g ho_193 (x_dk dn_193_0_2_ok 2 rfl)))
  (e_Lok (ps_iconst_1 (x_dk dn_193_0_2_ok 3 rfl))))
  (e_Tok2
  (e_Lok (sm_isub (x_dk dn_193_0_2_ok 4 rfl)))
  (e_Lok (e_rt (I := eI) (k := 1) ⟨(x_dk dn_193_0_2_ok 5 rfl), rfl⟩)))))))
def te_193 : Nat → eE := (e_T 60 te_193_0 te_193_28)
theorem te_193_ok : ∀ pc, e_EOq eft cls elay eI n_193 pc (te_193 pc) := (e_Tok2 (te_193_0_ok) (te_193_28_ok))
theorem ho_194 : (xm_y n_194).cls = "RobotCellHouse" := rfl
def dn_194_0_0 : List (Nat × Instr × Nat) := [(0, .aload_n 0, 1), (1, .iload_n 1, 1), (2, .invokevirtual 103, 3), (5, .ifCond .eq 12, 3), (8, .iload_n 2, 1), (9, .iconst 0, 1), (10, .iconst 1, 1), (11, .invokestatic 82, 3), (14, .ifCond .ne 5, 3), (17, .iconst (-1), 1), (18, .ireturn, 1), (19, .iload_n 2, 1), (20, .ifCond .ne 8, 3), (23, .ldc 107, 2), (25, .goto 6, 3), (28, .sipush 8000, 3), (31, .istore 6, 2), (33, .iload_n 3, 1), (34, .iload 6, 2), (36, .ineg, 1), (37, .iconst 0, 1), (38, .invokestatic 82, 3), (41, .ifCond .eq 14, 3), (44, .iload 4, 2), (46, .iconst 0, 1)]
set_option maxRecDepth 20000 in
theorem dn_194_0_0_ok : dn_194_0_0.all (fun q => decide (decode (xm_b n_194) q.1 = .ok (q.2.1, q.2.2))) = true := xa_g_ok (by decide +kernel)
def dn_194_0_1 : List (Nat × Instr × Nat) := [(47, .iload 6, 2), (49, .invokestatic 82, 3), (52, .ifCond .ne 5, 3), (55, .iconst (-1), 1), (56, .ireturn, 1), (57, .iload 5, 2), (59, .iconst 0, 1), (60, .sipush 8000, 3), (63, .invokestatic 82, 3), (66, .ifCond .ne 5, 3), (69, .iconst (-1), 1), (70, .ireturn, 1), (71, .iload_n 2, 1), (72, .iconst 1, 1), (73, .if_icmp .ne 12, 3), (76, .iload 5, 2), (78, .iload_n 3, 1), (79, .iadd, 1), (80, .ifCond .ge 5, 3), (83, .iconst (-1), 1), (84, .ireturn, 1), (85, .iload_n 2, 1), (86, .iconst 1, 1), (87, .if_icmp .ne 11, 3), (90, .iload 5, 2)]
set_option maxRecDepth 20000 in
theorem dn_194_0_1_ok : dn_194_0_1.all (fun q => decide (decode (xm_b n_194) q.1 = .ok (q.2.1, q.2.2))) = true := xa_g_ok (by decide +kernel)
def dn_194_0_2 : List (Nat × Instr × Nat) := [(92, .iload 4, 2), (94, .iadd, 1), (95, .goto 5, 3), (98, .iload 5, 2), (100, .istore 7, 2), (102, .aload_n 0, 1), (103, .getfield 27, 3), (106, .iload_n 1, 1), (107, .aaload, 1), (108, .invokevirtual 108, 3), (111, .iload 7, 2), (113, .iadd, 1), (114, .sipush 8000, 3), (117, .if_icmp .le 5, 3), (120, .iconst (-1), 1), (121, .ireturn, 1), (122, .aload_n 0, 1), (123, .getfield 91, 3), (126, .ifCond .eq 6, 3), (129, .bipush (-2), 2), (131, .ireturn, 1), (132, .aload_n 0, 1), (133, .getfield 27, 3), (136, .iload_n 1, 1), (137, .aaload, 1)]
set_option maxRecDepth 20000 in
theorem dn_194_0_2_ok : dn_194_0_2.all (fun q => decide (decode (xm_b n_194) q.1 = .ok (q.2.1, q.2.2))) = true := xa_g_ok (by decide +kernel)
def dn_194_0_3 : List (Nat × Instr × Nat) := [(138, .getfield 112, 3), (141, .bipush 6, 2), (143, .if_icmp .lt 6, 3), (146, .bipush (-3), 2), (148, .ireturn, 1), (149, .aload_n 0, 1), (150, .getfield 27, 3), (153, .iload_n 1, 1), (154, .aaload, 1), (155, .iload_n 2, 1), (156, .iload_n 3, 1), (157, .iload 4, 2), (159, .iload 5, 2), (161, .invokevirtual 115, 3), (164, .ireturn, 1)]
set_option maxRecDepth 20000 in
theorem dn_194_0_3_ok : dn_194_0_3.all (fun q => decide (decode (xm_b n_194) q.1 = .ok (q.2.1, q.2.2))) = true := xa_g_ok (by decide +kernel)
def te_194_0 : Nat → eE := (e_T 18 (e_T 8 (e_T 1 (e_T 0 (e_L 0 (0, ei_load 0 2 1, 0, 0)) (e_L 1 (0, ei_load 1 0 2, 0, 0))) (e_T 2 (e_L 2 (2, e_nof, 246, 2)) (e_T 5 (e_L 5 (0, ei_if1 0 17 8, 0, 0)) (e_L 8 (0, ei_load 2 0 9, 0, 0))))) (e_T 11 (e_T 9 (e_L 9 (0, ei_push (0, 0) 10, 0, 0)) (e_T 10 (e_L 10 (0, ei_push (0, 1) 11, 0, 0)) (e_L 11 (2, e_nof, 242, 3)))) (e_T 14 (e_L 14 (0, ei_if1 1 19 17, 0, 0)) (e_T 17 (e_L 17 (0, ei_push (0, (-1)) 18, 0, 0)) (e_L 18 (1, e_nof, 1, 0)))))) (e_T 28 (e_T 20 (e_T 19 (e_L 19 (0, ei_load 2 0 20, 0, 0)) (e_L 20 (0, ei_if1 1 28 23, 0, 0))) (e_T 23 (e_L 23 (0, ei_push (0, 100000) 25, 0, 0)) (e_T 25 (e_L 25 (0, ei_goto 31, 0, 0)) (e_L 28 (0, ei_push (0, 8000) 31, 0, 0))))) (e_T 34 (e_T 31 (e_L 31 (0, ei_stor 6 0 33, 0, 0)) (e_T 33 (e_L 33 (0, ei_load 3 0 34, 0, 0)) (e_L 34 (0, ei_load 6 0 36, 0, 0)))) (e_T 36 (e_L 36 (0, ei_un (fun x => (0, e32 (-x))) 37, 0, 0)) (e_T 37 (e_L 37 (0, ei_push (0, 0) 38, 0, 0)) (e_L 38 (2, e_nof, 242, 3)))))))
set_option maxRecDepth 20000 in
set_option maxHeartbeats 4000000 in
theorem te_194_0_ok : ∀ pc, e_EOq eft cls elay eI n_194 pc (te_194_0 pc) :=
  (e_Tok2
  (e_Tok2
  (e_Tok2
  (e_Tok2
  (e_Lok (ld_aload_n_0 (x_dk dn_194_0_0_ok 0 rfl)))
  (e_Lok (ld_iload_n_1 (x_dk dn_194_0_0_ok 1 rfl))))
  (e_Tok2
  (e_Lok (lk_11_103 ho_194 (x_dk dn_194_0_0_ok 2 rfl)))
  (e_Tok2
  (e_Lok (e_st (I := eI) (er_ifeq (off := 12) (tg := 17) (x_dk dn_194_0_0_ok 3 rfl) (by decide)) nx_if1))
  (e_Lok (ld_iload_n_2 (x_dk dn_194_0_0_ok 4 rfl))))))
  (e_Tok2
  (e_Tok2
  (e_Lok (ps_iconst_0 (x_dk dn_194_0_0_ok 5 rfl)))
  (e_Tok2
  (e_Lok (ps_iconst_1 (x_dk dn_194_0_0_ok 6 rfl)))
  (e_Lok (lk_11_82 ho_194 (x_dk dn_194_0_0_ok 7 rfl)))))
  (e_Tok2
  (e_Lok (e_st (I := eI) (er_ifne (off := 5) (tg := 19) (x_dk dn_194_0_0_ok 8 rfl) (by decide)) nx_if1))
  (e_Tok2
  (e_Lok (ps_iconst_m1 (x_dk dn_194_0_0_ok 9 rfl)))
  (e_Lok (e_rt (I := eI) (k := 1) ⟨(x_dk dn_194_0_0_ok 10 rfl), rfl⟩))))))
  (e_Tok2
  (e_Tok2
  (e_Tok2
  (e_Lok (ld_iload_n_2 (x_dk dn_194_0_0_ok 11 rfl)))
  (e_Lok (e_st (I := eI) (er_ifne (off := 8) (tg := 28) (x_dk dn_194_0_0_ok 12 rfl) (by decide)) nx_if1)))
  (e_Tok2
  (e_Lok (e_st (I := eI) (er_ldc (ix := 107) (z := 100000) (v := 100000) (x_dk dn_194_0_0_ok 13 rfl) (in_t4 (List.mem_of_getElem? (i := 185) rfl) rfl) (by decide)) (nx_push (Or.inl rfl))))
  (e_Tok2
  (e_Lok (e_st (I := eI) (er_goto (off := 6) (tg := 31) (x_dk dn_194_0_0_ok 14 rfl) (by decide)) nx_goto))
  (e_Lok (ps_sipush_8000 (x_dk dn_194_0_0_ok 15 rfl))))))
  (e_Tok2
  (e_Tok2
  (e_Lok (e_st (I := eI) (er_istore (i := 6) (x_dk dn_194_0_0_ok 16 rfl) (by decide +kernel)) nx_stor))
  (e_Tok2
  (e_Lok (ld_iload_n_3 (x_dk dn_194_0_0_ok 17 rfl)))
  (e_Lok (ld_iload_6 (x_dk dn_194_0_0_ok 18 rfl)))))
  (e_Tok2
  (e_Lok (e_st (I := eI) (er_ineg (x_dk dn_194_0_0_ok 19 rfl)) (nx_un (fun _ => rfl))))
  (e_Tok2
  (e_Lok (ps_iconst_0 (x_dk dn_194_0_0_ok 20 rfl)))
  (e_Lok (lk_11_82 ho_194 (x_dk dn_194_0_0_ok 21 rfl))))))))
def te_194_22 : Nat → eE := (e_T 60 (e_T 49 (e_T 44 (e_T 41 (e_L 41 (0, ei_if1 0 55 44, 0, 0)) (e_L 44 (0, ei_load 4 0 46, 0, 0))) (e_T 46 (e_L 46 (0, ei_push (0, 0) 47, 0, 0)) (e_T 47 (e_L 47 (0, ei_load 6 0 49, 0, 0)) (e_L 49 (2, e_nof, 242, 3))))) (e_T 56 (e_T 52 (e_L 52 (0, ei_if1 1 57 55, 0, 0)) (e_T 55 (e_L 55 (0, ei_push (0, (-1)) 56, 0, 0)) (e_L 56 (1, e_nof, 1, 0)))) (e_T 57 (e_L 57 (0, ei_load 5 0 59, 0, 0)) (e_T 59 (e_L 59 (0, ei_push (0, 0) 60, 0, 0)) (e_L 60 (0, ei_push (0, 8000) 63, 0, 0)))))) (e_T 72 (e_T 69 (e_T 63 (e_L 63 (2, e_nof, 242, 3)) (e_T 66 (e_L 66 (0, ei_if1 1 71 69, 0, 0)) (e_L 69 (0, ei_push (0, (-1)) 70, 0, 0)))) (e_T 70 (e_L 70 (1, e_nof, 1, 0)) (e_T 71 (e_L 71 (0, ei_load 2 0 72, 0, 0)) (e_L 72 (0, ei_push (0, 1) 73, 0, 0))))) (e_T 78 (e_T 73 (e_L 73 (0, ei_if2 1 85 76, 0, 0)) (e_T 76 (e_L 76 (0, ei_load 5 0 78, 0, 0)) (e_L 78 (0, ei_load 3 0 79, 0, 0)))) (e_T 79 (e_L 79 (0, ei_bin eF_add 80, 0, 0)) (e_T 80 (e_L 80 (0, ei_if1 3 85 83, 0, 0)) (e_L 83 (0, ei_push (0, (-1)) 84, 0, 0)))))))
set_option maxRecDepth 20000 in
set_option maxHeartbeats 4000000 in
theorem te_194_22_ok : ∀ pc, e_EOq eft cls elay eI n_194 pc (te_194_22 pc) :=
  (e_Tok2
  (e_Tok2
  (e_Tok2
  (e_Tok2
  (e_Lok (e_st (I := eI) (er_ifeq (off := 14) (tg := 55) (x_dk dn_194_0_0_ok 22 rfl) (by decide)) nx_if1))
  (e_Lok (ld_iload_4 (x_dk dn_194_0_0_ok 23 rfl))))
  (e_Tok2
  (e_Lok (ps_iconst_0 (x_dk dn_194_0_0_ok 24 rfl)))
  (e_Tok2
  (e_Lok (ld_iload_6 (x_dk dn_194_0_1_ok 0 rfl)))
  (e_Lok (lk_11_82 ho_194 (x_dk dn_194_0_1_ok 1 rfl))))))
  (e_Tok2
  (e_Tok2
  (e_Lok (e_st (I := eI) (er_ifne (off := 5) (tg := 57) (x_dk dn_194_0_1_ok 2 rfl) (by decide)) nx_if1))
  (e_Tok2
  (e_Lok (ps_iconst_m1 (x_dk dn_194_0_1_ok 3 rfl)))
  (e_Lok (e_rt (I := eI) (k := 1) ⟨(x_dk dn_194_0_1_ok 4 rfl), rfl⟩))))
  (e_Tok2
  (e_Lok (ld_iload_5 (x_dk dn_194_0_1_ok 5 rfl)))
  (e_Tok2
  (e_Lok (ps_iconst_0 (x_dk dn_194_0_1_ok 6 rfl)))
  (e_Lok (ps_sipush_8000 (x_dk dn_194_0_1_ok 7 rfl)))))))
  (e_Tok2
  (e_Tok2
  (e_Tok2
  (e_Lok (lk_11_82 ho_194 (x_dk dn_194_0_1_ok 8 rfl)))
  (e_Tok2
  (e_Lok (e_st (I := eI) (er_ifne (off := 5) (tg := 71) (x_dk dn_194_0_1_ok 9 rfl) (by decide)) nx_if1))
  (e_Lok (ps_iconst_m1 (x_dk dn_194_0_1_ok 10 rfl)))))
  (e_Tok2
  (e_Lok (e_rt (I := eI) (k := 1) ⟨(x_dk dn_194_0_1_ok 11 rfl), rfl⟩))
  (e_Tok2
  (e_Lok (ld_iload_n_2 (x_dk dn_194_0_1_ok 12 rfl)))
  (e_Lok (ps_iconst_1 (x_dk dn_194_0_1_ok 13 rfl))))))
  (e_Tok2
  (e_Tok2
  (e_Lok (e_st (I := eI) (er_icmpne (off := 12) (tg := 85) (x_dk dn_194_0_1_ok 14 rfl) (by decide)) nx_if2))
  (e_Tok2
  (e_Lok (ld_iload_5 (x_dk dn_194_0_1_ok 15 rfl)))
  (e_Lok (ld_iload_n_3 (x_dk dn_194_0_1_ok 16 rfl)))))
  (e_Tok2
  (e_Lok (sm_iadd (x_dk dn_194_0_1_ok 17 rfl)))
  (e_Tok2
  (e_Lok (e_st (I := eI) (er_ifge (off := 5) (tg := 85) (x_dk dn_194_0_1_ok 18 rfl) (by decide)) nx_if1))
  (e_Lok (ps_iconst_m1 (x_dk dn_194_0_1_ok 19 rfl))))))))
def te_194_45 : Nat → eE := (e_T 102 (e_T 90 (e_T 85 (e_T 84 (e_L 84 (1, e_nof, 1, 0)) (e_L 85 (0, ei_load 2 0 86, 0, 0))) (e_T 86 (e_L 86 (0, ei_push (0, 1) 87, 0, 0)) (e_T 87 (e_L 87 (0, ei_if2 1 98 90, 0, 0)) (e_L 90 (0, ei_load 5 0 92, 0, 0))))) (e_T 95 (e_T 92 (e_L 92 (0, ei_load 4 0 94, 0, 0)) (e_T 94 (e_L 94 (0, ei_bin eF_add 95, 0, 0)) (e_L 95 (0, ei_goto 100, 0, 0)))) (e_T 98 (e_L 98 (0, ei_load 5 0 100, 0, 0)) (e_T 100 (e_L 100 (0, ei_stor 7 0 102, 0, 0)) (e_L 102 (0, ei_load 0 2 103, 0, 0)))))) (e_T 111 (e_T 106 (e_T 103 (e_L 103 (0, ei_getf eft elay 11 2 106, 0, 0)) (e_L 106 (0, ei_load 1 0 107, 0, 0))) (e_T 107 (e_L 107 (0, ei_aald elay 108, 0, 0)) (e_T 108 (e_L 108 (2, e_nof, 5, 1)) (e_L 111 (0, ei_load 7 0 113, 0, 0))))) (e_T 117 (e_T 113 (e_L 113 (0, ei_bin eF_add 114, 0, 0)) (e_T 114 (e_L 114 (0, ei_push (0, 8000) 117, 0, 0)) (e_L 117 (0, ei_if2 5 122 120, 0, 0)))) (e_T 120 (e_L 120 (0, ei_push (0, (-1)) 121, 0, 0)) (e_T 121 (e_L 121 (1, e_nof, 1, 0)) (e_L 122 (0, ei_load 0 2 123, 0, 0)))))))
set_option maxRecDepth 20000 in
set_option maxHeartbeats 4000000 in
theorem te_194_45_ok : ∀ pc, e_EOq eft cls elay eI n_194 pc (te_194_45 pc) :=
  (e_Tok2
  (e_Tok2
  (e_Tok2
  (e_Tok2
  (e_Lok (e_rt (I := eI) (k := 1) ⟨(x_dk dn_194_0_1_ok 20 rfl), rfl⟩))
  (e_Lok (ld_iload_n_2 (x_dk dn_194_0_1_ok 21 rfl))))
  (e_Tok2
  (e_Lok (ps_iconst_1 (x_dk dn_194_0_1_ok 22 rfl)))
  (e_Tok2
  (e_Lok (e_st (I := eI) (er_icmpne (off := 11) (tg := 98) (x_dk dn_194_0_1_ok 23 rfl) (by decide)) nx_if2))
  (e_Lok (ld_iload_5 (x_dk dn_194_0_1_ok 24 rfl))))))
  (e_Tok2
  (e_Tok2
  (e_Lok (ld_iload_4 (x_dk dn_194_0_2_ok 0 rfl)))
  (e_Tok2
  (e_Lok (sm_iadd (x_dk dn_194_0_2_ok 1 rfl)))
  (e_Lok (e_st (I := eI) (er_goto (off := 5) (tg := 100) (x_dk dn_194_0_2_ok 2 rfl) (by decide)) nx_goto))))
  (e_Tok2
  (e_Lok (ld_iload_5 (x_dk dn_194_0_2_ok 3 rfl)))
  (e_Tok2
  (e_Lok (e_st (I := eI) (er_istore (i := 7) (x_dk dn_194_0_2_ok 4 rfl) (by decide +kernel)) nx_stor))
  (e_Lok (ld_aload_n_0 (x_dk dn_194_0_2_ok 5 rfl)))))))
  (e_Tok2
  (e_Tok2
  (e_Tok2
  (e_Lok (lk_11_27g ho_194 (x_dk dn_194_0_2_ok 6 rfl)))
  (e_Lok (ld_iload_n_1 (x_dk dn_194_0_2_ok 7 rfl))))
  (e_Tok2
  (e_Lok (e_st (I := eI) (er_aaload (x_dk dn_194_0_2_ok 8 rfl)) nx_aald))
  (e_Tok2
  (e_Lok (lk_11_108 ho_194 (x_dk dn_194_0_2_ok 9 rfl)))
  (e_Lok (ld_iload_7 (x_dk dn_194_0_2_ok 10 rfl))))))
  (e_Tok2
  (e_Tok2
  (e_Lok (sm_iadd (x_dk dn_194_0_2_ok 11 rfl)))
  (e_Tok2
  (e_Lok (ps_sipush_8000 (x_dk dn_194_0_2_ok 12 rfl)))
  (e_Lok (e_st (I := eI) (er_icmple (off := 5) (tg := 122) (x_dk dn_194_0_2_ok 13 rfl) (by decide)) nx_if2))))
  (e_Tok2
  (e_Lok (ps_iconst_m1 (x_dk dn_194_0_2_ok 14 rfl)))
  (e_Tok2
  (e_Lok (e_rt (I := eI) (k := 1) ⟨(x_dk dn_194_0_2_ok 15 rfl), rfl⟩))
  (e_Lok (ld_aload_n_0 (x_dk dn_194_0_2_ok 16 rfl))))))))
def te_194_67 : Nat → eE := (e_T 143 (e_T 132 (e_T 126 (e_T 123 (e_L 123 (0, ei_getf eft elay 11 13 126, 0, 0)) (e_L 126 (0, ei_if1 0 132 129, 0, 0))) (e_T 129 (e_L 129 (0, ei_push (0, (-2)) 131, 0, 0)) (e_T 131 (e_L 131 (1, e_nof, 1, 0)) (e_L 132 (0, ei_load 0 2 133, 0, 0))))) (e_T 137 (e_T 133 (e_L 133 (0, ei_getf eft elay 11 2 136, 0, 0)) (e_T 136 (e_L 136 (0, ei_load 1 0 137, 0, 0)) (e_L 137 (0, ei_aald elay 138, 0, 0)))) (e_T 138 (e_L 138 (0, ei_getf eft elay 0 8 141, 0, 0)) (e_T 141 (e_L 141 (0, ei_push (0, 6) 143, 0, 0)) (e_L 143 (0, ei_if2 2 149 146, 0, 0)))))) (e_T 154 (e_T 149 (e_T 146 (e_L 146 (0, ei_push (0, (-3)) 148, 0, 0)) (e_T 148 (e_L 148 (1, e_nof, 1, 0)) (e_L 149 (0, ei_load 0 2 150, 0, 0)))) (e_T 150 (e_L 150 (0, ei_getf eft elay 11 2 153, 0, 0)) (e_T 153 (e_L 153 (0, ei_load 1 0 154, 0, 0)) (e_L 154 (0, ei_aald elay 155, 0, 0))))) (e_T 157 (e_T 155 (e_L 155 (0, ei_load 2 0 156, 0, 0)) (e_T 156 (e_L 156 (0, ei_load 3 0 157, 0, 0)) (e_L 157 (0, ei_load 4 0 159, 0, 0)))) (e_T 159 (e_L 159 (0, ei_load 5 0 161, 0, 0)) (e_T 161 (e_L 161 (2, e_nof, 2, 5)) (e_L 164 (1, e_nof, 1, 0)))))))
set_option maxRecDepth 20000 in
set_option maxHeartbeats 4000000 in
theorem te_194_67_ok : ∀ pc, e_EOq eft cls elay eI n_194 pc (te_194_67 pc) :=
  (e_Tok2
  (e_Tok2
  (e_Tok2
  (e_Tok2
  (e_Lok (lk_11_91g ho_194 (x_dk dn_194_0_2_ok 17 rfl)))
  (e_Lok (e_st (I := eI) (er_ifeq (off := 6) (tg := 132) (x_dk dn_194_0_2_ok 18 rfl) (by decide)) nx_if1)))
  (e_Tok2
  (e_Lok (ps_bipush_m2 (x_dk dn_194_0_2_ok 19 rfl)))
  (e_Tok2
  (e_Lok (e_rt (I := eI) (k := 1) ⟨(x_dk dn_194_0_2_ok 20 rfl), rfl⟩))
  (e_Lok (ld_aload_n_0 (x_dk dn_194_0_2_ok 21 rfl))))))
  (e_Tok2
  (e_Tok2
  (e_Lok (lk_11_27g ho_194 (x_dk dn_194_0_2_ok 22 rfl)))
  (e_Tok2
  (e_Lok (ld_iload_n_1 (x_dk dn_194_0_2_ok 23 rfl)))
  (e_Lok (e_st (I := eI) (er_aaload (x_dk dn_194_0_2_ok 24 rfl)) nx_aald))))
  (e_Tok2
  (e_Lok (lk_11_112g ho_194 (x_dk dn_194_0_3_ok 0 rfl)))
  (e_Tok2
  (e_Lok (ps_bipush_6 (x_dk dn_194_0_3_ok 1 rfl)))
  (e_Lok (e_st (I := eI) (er_icmplt (off := 6) (tg := 149) (x_dk dn_194_0_3_ok 2 rfl) (by decide)) nx_if2))))))
  (e_Tok2
  (e_Tok2
  (e_Tok2
  (e_Lok (ps_bipush_m3 (x_dk dn_194_0_3_ok 3 rfl)))
  (e_Tok2
  (e_Lok (e_rt (I := eI) (k := 1) ⟨(x_dk dn_194_0_3_ok 4 rfl), rfl⟩))
  (e_Lok (ld_aload_n_0 (x_dk dn_194_0_3_ok 5 rfl)))))
  (e_Tok2
  (e_Lok (lk_11_27g ho_194 (x_dk dn_194_0_3_ok 6 rfl)))
  (e_Tok2
  (e_Lok (ld_iload_n_1 (x_dk dn_194_0_3_ok 7 rfl)))
  (e_Lok (e_st (I := eI) (er_aaload (x_dk dn_194_0_3_ok 8 rfl)) nx_aald)))))
  (e_Tok2
  (e_Tok2
  (e_Lok (ld_iload_n_2 (x_dk dn_194_0_3_ok 9 rfl)))
  (e_Tok2
  (e_Lok (ld_iload_n_3 (x_dk dn_194_0_3_ok 10 rfl)))
  (e_Lok (ld_iload_4 (x_dk dn_194_0_3_ok 11 rfl)))))
  (e_Tok2
  (e_Lok (ld_iload_5 (x_dk dn_194_0_3_ok 12 rfl)))
  (e_Tok2
  (e_Lok (lk_11_115 ho_194 (x_dk dn_194_0_3_ok 13 rfl)))
  (e_Lok (e_rt (I := eI) (k := 1) ⟨(x_dk dn_194_0_3_ok 14 rfl), rfl⟩)))))))
def te_194 : Nat → eE := (e_T 83 (e_T 38 te_194_0 te_194_22) (e_T 122 te_194_45 te_194_67))
theorem te_194_ok : ∀ pc, e_EOq eft cls elay eI n_194 pc (te_194 pc) := (e_Tok2 ((e_Tok2 (te_194_0_ok) (te_194_22_ok))) ((e_Tok2 (te_194_45_ok) (te_194_67_ok))))
theorem ho_195 : (xm_y n_195).cls = "RobotCellHouse" := rfl
def dn_195_0_0 : List (Nat × Instr × Nat) := [(0, .aload_n 0, 1), (1, .iload_n 1, 1), (2, .iload_n 2, 1), (3, .invokevirtual 119, 3), (6, .ifCond .ne 5, 3), (9, .iconst (-1), 1), (10, .ireturn, 1), (11, .iload_n 3, 1), (12, .iconst 1, 1), (13, .sipush 2000, 3), (16, .invokestatic 82, 3), (19, .ifCond .eq 15, 3), (22, .iload 4, 2), (24, .iconst 1, 1), (25, .sipush 2000, 3), (28, .invokestatic 82, 3), (31, .ifCond .ne 5, 3), (34, .iconst (-1), 1), (35, .ireturn, 1), (36, .aload_n 0, 1), (37, .getfield 91, 3), (40, .ifCond .eq 6, 3), (43, .bipush (-2), 2), (45, .ireturn, 1), (46, .aload_n 0, 1)]
set_option maxRecDepth 20000 in
theorem dn_195_0_0_ok : dn_195_0_0.all (fun q => decide (decode (xm_b n_195) q.1 = .ok (q.2.1, q.2.2))) = true := xa_g_ok (by decide +kernel)
def dn_195_0_1 : List (Nat × Instr × Nat) := [(47, .getfield 27, 3), (50, .iload_n 1, 1), (51, .aaload, 1), (52, .getfield 123, 3), (55, .iload_n 2, 1), (56, .aaload, 1), (57, .iload_n 3, 1), (58, .putfield 127, 3), (61, .aload_n 0, 1), (62, .getfield 27, 3), (65, .iload_n 1, 1), (66, .aaload, 1), (67, .getfield 123, 3), (70, .iload_n 2, 1), (71, .aaload, 1), (72, .iload 4, 2), (74, .putfield 132, 3), (77, .iconst 0, 1), (78, .ireturn, 1)]
set_option maxRecDepth 20000 in
theorem dn_195_0_1_ok : dn_195_0_1.all (fun q => decide (decode (xm_b n_195) q.1 = .ok (q.2.1, q.2.2))) = true := xa_g_ok (by decide +kernel)
def te_195_0 : Nat → eE := (e_T 16 (e_T 6 (e_T 1 (e_T 0 (e_L 0 (0, ei_load 0 2 1, 0, 0)) (e_L 1 (0, ei_load 1 0 2, 0, 0))) (e_T 2 (e_L 2 (0, ei_load 2 0 3, 0, 0)) (e_T 3 (e_L 3 (2, e_nof, 247, 3)) (e_L 6 (0, ei_if1 1 11 9, 0, 0))))) (e_T 11 (e_T 9 (e_L 9 (0, ei_push (0, (-1)) 10, 0, 0)) (e_T 10 (e_L 10 (1, e_nof, 1, 0)) (e_L 11 (0, ei_load 3 0 12, 0, 0)))) (e_T 12 (e_L 12 (0, ei_push (0, 1) 13, 0, 0)) (e_T 13 (e_L 13 (0, ei_push (0, 2000) 16, 0, 0)) (e_L 16 (2, e_nof, 242, 3)))))) (e_T 28 (e_T 22 (e_T 19 (e_L 19 (0, ei_if1 0 34 22, 0, 0)) (e_L 22 (0, ei_load 4 0 24, 0, 0))) (e_T 24 (e_L 24 (0, ei_push (0, 1) 25, 0, 0)) (e_T 25 (e_L 25 (0, ei_push (0, 2000) 28, 0, 0)) (e_L 28 (2, e_nof, 242, 3))))) (e_T 35 (e_T 31 (e_L 31 (0, ei_if1 1 36 34, 0, 0)) (e_T 34 (e_L 34 (0, ei_push (0, (-1)) 35, 0, 0)) (e_L 35 (1, e_nof, 1, 0)))) (e_T 36 (e_L 36 (0, ei_load 0 2 37, 0, 0)) (e_T 37 (e_L 37 (0, ei_getf eft elay 11 13 40, 0, 0)) (e_L 40 (0, ei_if1 0 46 43, 0, 0)))))))
set_option maxRecDepth 20000 in
set_option maxHeartbeats 4000000 in
theorem te_195_0_ok : ∀ pc, e_EOq eft cls elay eI n_195 pc (te_195_0 pc) :=
  (e_Tok2
  (e_Tok2
  (e_Tok2
  (e_Tok2
  (e_Lok (ld_aload_n_0 (x_dk dn_195_0_0_ok 0 rfl)))
  (e_Lok (ld_iload_n_1 (x_dk dn_195_0_0_ok 1 rfl))))
  (e_Tok2
  (e_Lok (ld_iload_n_2 (x_dk dn_195_0_0_ok 2 rfl)))
  (e_Tok2
  (e_Lok (lk_11_119 ho_195 (x_dk dn_195_0_0_ok 3 rfl)))
  (e_Lok (e_st (I := eI) (er_ifne (off := 5) (tg := 11) (x_dk dn_195_0_0_ok 4 rfl) (by decide)) nx_if1)))))
  (e_Tok2
  (e_Tok2
  (e_Lok (ps_iconst_m1 (x_dk dn_195_0_0_ok 5 rfl)))
  (e_Tok2
  (e_Lok (e_rt (I := eI) (k := 1) ⟨(x_dk dn_195_0_0_ok 6 rfl), rfl⟩))
  (e_Lok (ld_iload_n_3 (x_dk dn_195_0_0_ok 7 rfl)))))
  (e_Tok2
  (e_Lok (ps_iconst_1 (x_dk dn_195_0_0_ok 8 rfl)))
  (e_Tok2
  (e_Lok (ps_sipush_2000 (x_dk dn_195_0_0_ok 9 rfl)))
  (e_Lok (lk_11_82 ho_195 (x_dk dn_195_0_0_ok 10 rfl)))))))
  (e_Tok2
  (e_Tok2
  (e_Tok2
  (e_Lok (e_st (I := eI) (er_ifeq (off := 15) (tg := 34) (x_dk dn_195_0_0_ok 11 rfl) (by decide)) nx_if1))
  (e_Lok (ld_iload_4 (x_dk dn_195_0_0_ok 12 rfl))))
  (e_Tok2
  (e_Lok (ps_iconst_1 (x_dk dn_195_0_0_ok 13 rfl)))
  (e_Tok2
  (e_Lok (ps_sipush_2000 (x_dk dn_195_0_0_ok 14 rfl)))
  (e_Lok (lk_11_82 ho_195 (x_dk dn_195_0_0_ok 15 rfl))))))
  (e_Tok2
  (e_Tok2
  (e_Lok (e_st (I := eI) (er_ifne (off := 5) (tg := 36) (x_dk dn_195_0_0_ok 16 rfl) (by decide)) nx_if1))
  (e_Tok2
  (e_Lok (ps_iconst_m1 (x_dk dn_195_0_0_ok 17 rfl)))
  (e_Lok (e_rt (I := eI) (k := 1) ⟨(x_dk dn_195_0_0_ok 18 rfl), rfl⟩))))
  (e_Tok2
  (e_Lok (ld_aload_n_0 (x_dk dn_195_0_0_ok 19 rfl)))
  (e_Tok2
  (e_Lok (lk_11_91g ho_195 (x_dk dn_195_0_0_ok 20 rfl)))
  (e_Lok (e_st (I := eI) (er_ifeq (off := 6) (tg := 46) (x_dk dn_195_0_0_ok 21 rfl) (by decide)) nx_if1)))))))
def te_195_22 : Nat → eE := (e_T 58 (e_T 50 (e_T 45 (e_T 43 (e_L 43 (0, ei_push (0, (-2)) 45, 0, 0)) (e_L 45 (1, e_nof, 1, 0))) (e_T 46 (e_L 46 (0, ei_load 0 2 47, 0, 0)) (e_T 47 (e_L 47 (0, ei_getf eft elay 11 2 50, 0, 0)) (e_L 50 (0, ei_load 1 0 51, 0, 0))))) (e_T 55 (e_T 51 (e_L 51 (0, ei_aald elay 52, 0, 0)) (e_T 52 (e_L 52 (0, ei_getf eft elay 0 0 55, 0, 0)) (e_L 55 (0, ei_load 2 0 56, 0, 0)))) (e_T 56 (e_L 56 (0, ei_aald elay 57, 0, 0)) (e_T 57 (e_L 57 (0, ei_load 3 0 58, 0, 0)) (e_L 58 (0, ei_putf eft elay 5 5 0 61, 0, 0)))))) (e_T 67 (e_T 62 (e_T 61 (e_L 61 (0, ei_load 0 2 62, 0, 0)) (e_L 62 (0, ei_getf eft elay 11 2 65, 0, 0))) (e_T 65 (e_L 65 (0, ei_load 1 0 66, 0, 0)) (e_T 66 (e_L 66 (0, ei_aald elay 67, 0, 0)) (e_L 67 (0, ei_getf eft elay 0 0 70, 0, 0))))) (e_T 72 (e_T 70 (e_L 70 (0, ei_load 2 0 71, 0, 0)) (e_T 71 (e_L 71 (0, ei_aald elay 72, 0, 0)) (e_L 72 (0, ei_load 4 0 74, 0, 0)))) (e_T 74 (e_L 74 (0, ei_putf eft elay 5 6 0 77, 0, 0)) (e_T 77 (e_L 77 (0, ei_push (0, 0) 78, 0, 0)) (e_L 78 (1, e_nof, 1, 0)))))))
set_option maxRecDepth 20000 in
set_option maxHeartbeats 4000000 in
theorem te_195_22_ok : ∀ pc, e_EOq eft cls elay eI n_195 pc (te_195_22 pc) :=
  (e_Tok2
  (e_Tok2
  (e_Tok2
  (e_Tok2
  (e_Lok (ps_bipush_m2 (x_dk dn_195_0_0_ok 22 rfl)))
  (e_Lok (e_rt (I := eI) (k := 1) ⟨(x_dk dn_195_0_0_ok 23 rfl), rfl⟩)))
  (e_Tok2
  (e_Lok (ld_aload_n_0 (x_dk dn_195_0_0_ok 24 rfl)))
  (e_Tok2
  (e_Lok (lk_11_27g ho_195 (x_dk dn_195_0_1_ok 0 rfl)))
  (e_Lok (ld_iload_n_1 (x_dk dn_195_0_1_ok 1 rfl))))))
  (e_Tok2
  (e_Tok2
  (e_Lok (e_st (I := eI) (er_aaload (x_dk dn_195_0_1_ok 2 rfl)) nx_aald))
  (e_Tok2
  (e_Lok (lk_11_123g ho_195 (x_dk dn_195_0_1_ok 3 rfl)))
  (e_Lok (ld_iload_n_2 (x_dk dn_195_0_1_ok 4 rfl)))))
  (e_Tok2
  (e_Lok (e_st (I := eI) (er_aaload (x_dk dn_195_0_1_ok 5 rfl)) nx_aald))
  (e_Tok2
  (e_Lok (ld_iload_n_3 (x_dk dn_195_0_1_ok 6 rfl)))
  (e_Lok (lk_11_127p ho_195 (x_dk dn_195_0_1_ok 7 rfl)))))))
  (e_Tok2
  (e_Tok2
  (e_Tok2
  (e_Lok (ld_aload_n_0 (x_dk dn_195_0_1_ok 8 rfl)))
  (e_Lok (lk_11_27g ho_195 (x_dk dn_195_0_1_ok 9 rfl))))
  (e_Tok2
  (e_Lok (ld_iload_n_1 (x_dk dn_195_0_1_ok 10 rfl)))
  (e_Tok2
  (e_Lok (e_st (I := eI) (er_aaload (x_dk dn_195_0_1_ok 11 rfl)) nx_aald))
  (e_Lok (lk_11_123g ho_195 (x_dk dn_195_0_1_ok 12 rfl))))))
  (e_Tok2
  (e_Tok2
  (e_Lok (ld_iload_n_2 (x_dk dn_195_0_1_ok 13 rfl)))
  (e_Tok2
  (e_Lok (e_st (I := eI) (er_aaload (x_dk dn_195_0_1_ok 14 rfl)) nx_aald))
  (e_Lok (ld_iload_4 (x_dk dn_195_0_1_ok 15 rfl)))))
  (e_Tok2
  (e_Lok (lk_11_132p ho_195 (x_dk dn_195_0_1_ok 16 rfl)))
  (e_Tok2
  (e_Lok (ps_iconst_0 (x_dk dn_195_0_1_ok 17 rfl)))
  (e_Lok (e_rt (I := eI) (k := 1) ⟨(x_dk dn_195_0_1_ok 18 rfl), rfl⟩)))))))
def te_195 : Nat → eE := (e_T 40 te_195_0 te_195_22)
theorem te_195_ok : ∀ pc, e_EOq eft cls elay eI n_195 pc (te_195 pc) := (e_Tok2 (te_195_0_ok) (te_195_22_ok))
theorem ho_196 : (xm_y n_196).cls = "RobotCellHouse" := rfl
def dn_196_0_0 : List (Nat × Instr × Nat) := [(0, .aload_n 0, 1), (1, .iload_n 1, 1), (2, .iload_n 2, 1), (3, .invokevirtual 119, 3), (6, .ifCond .eq 14, 3), (9, .iload_n 3, 1), (10, .iconst 0, 1), (11, .sipush 800, 3), (14, .invokestatic 82, 3), (17, .ifCond .ne 5, 3), (20, .iconst (-1), 1), (21, .ireturn, 1), (22, .aload_n 0, 1), (23, .getfield 91, 3), (26, .ifCond .eq 6, 3), (29, .bipush (-2), 2), (31, .ireturn, 1), (32, .aload_n 0, 1), (33, .getfield 27, 3), (36, .iload_n 1, 1), (37, .aaload, 1), (38, .getfield 123, 3), (41, .iload_n 2, 1), (42, .aaload, 1), (43, .getfield 135, 3)]
set_option maxRecDepth 20000 in
theorem dn_196_0_0_ok : dn_196_0_0.all (fun q => decide (decode (xm_b n_196) q.1 = .ok (q.2.1, q.2.2))) = true := xa_g_ok (by decide +kernel)
def dn_196_0_1 : List (Nat × Instr × Nat) := [(46, .istore 4, 2), (48, .aload_n 0, 1), (49, .getfield 27, 3), (52, .iload_n 1, 1), (53, .aaload, 1), (54, .getfield 123, 3), (57, .iload_n 2, 1), (58, .aaload, 1), (59, .iload_n 3, 1), (60, .putfield 135, 3), (63, .iload 4, 2), (65, .ireturn, 1)]
set_option maxRecDepth 20000 in
theorem dn_196_0_1_ok : dn_196_0_1.all (fun q => decide (decode (xm_b n_196) q.1 = .ok (q.2.1, q.2.2))) = true := xa_g_ok (by decide +kernel)
def te_196_0 : Nat → eE := (e_T 32 (e_T 14 (e_T 3 (e_T 1 (e_T 0 (e_L 0 (0, ei_load 0 2 1, 0, 0)) (e_L 1 (0, ei_load 1 0 2, 0, 0))) (e_T 2 (e_L 2 (0, ei_load 2 0 3, 0, 0)) (e_L 3 (2, e_nof, 247, 3)))) (e_T 9 (e_T 6 (e_L 6 (0, ei_if1 0 20 9, 0, 0)) (e_L 9 (0, ei_load 3 0 10, 0, 0))) (e_T 10 (e_L 10 (0, ei_push (0, 0) 11, 0, 0)) (e_T 11 (e_L 11 (0, ei_push (0, 800) 14, 0, 0)) (e_L 14 (2, e_nof, 242, 3)))))) (e_T 22 (e_T 20 (e_T 17 (e_L 17 (0, ei_if1 1 22 20, 0, 0)) (e_L 20 (0, ei_push (0, (-1)) 21, 0, 0))) (e_T 21 (e_L 21 (1, e_nof, 1, 0)) (e_L 22 (0, ei_load 0 2 23, 0, 0)))) (e_T 26 (e_T 23 (e_L 23 (0, ei_getf eft elay 11 13 26, 0, 0)) (e_L 26 (0, ei_if1 0 32 29, 0, 0))) (e_T 29 (e_L 29 (0, ei_push (0, (-2)) 31, 0, 0)) (e_T 31 (e_L 31 (1, e_nof, 1, 0)) (e_L 32 (0, ei_load 0 2 33, 0, 0))))))) (e_T 48 (e_T 38 (e_T 36 (e_T 33 (e_L 33 (0, ei_getf eft elay 11 2 36, 0, 0)) (e_L 36 (0, ei_load 1 0 37, 0, 0))) (e_T 37 (e_L 37 (0, ei_aald elay 38, 0, 0)) (e_L 38 (0, ei_getf eft elay 0 0 41, 0, 0)))) (e_T 42 (e_T 41 (e_L 41 (0, ei_load 2 0 42, 0, 0)) (e_L 42 (0, ei_aald elay 43, 0, 0))) (e_T 43 (e_L 43 (0, ei_getf eft elay 5 4 46, 0, 0)) (e_T 46 (e_L 46 (0, ei_stor 4 0 48, 0, 0)) (e_L 48 (0, ei_load 0 2 49, 0, 0)))))) (e_T 57 (e_T 52 (e_T 49 (e_L 49 (0, ei_getf eft elay 11 2 52, 0, 0)) (e_L 52 (0, ei_load 1 0 53, 0, 0))) (e_T 53 (e_L 53 (0, ei_aald elay 54, 0, 0)) (e_T 54 (e_L 54 (0, ei_getf eft elay 0 0 57, 0, 0)) (e_L 57 (0, ei_load 2 0 58, 0, 0))))) (e_T 59 (e_T 58 (e_L 58 (0, ei_aald elay 59, 0, 0)) (e_L 59 (0, ei_load 3 0 60, 0, 0))) (e_T 60 (e_L 60 (0, ei_putf eft elay 5 4 0 63, 0, 0)) (e_T 63 (e_L 63 (0, ei_load 4 0 65, 0, 0)) (e_L 65 (1, e_nof, 1, 0))))))))
set_option maxRecDepth 20000 in
set_option maxHeartbeats 4000000 in
theorem te_196_0_ok : ∀ pc, e_EOq eft cls elay eI n_196 pc (te_196_0 pc) :=
  (e_Tok2
  (e_Tok2
  (e_Tok2
  (e_Tok2
  (e_Tok2
  (e_Lok (ld_aload_n_0 (x_dk dn_196_0_0_ok 0 rfl)))
  (e_Lok (ld_iload_n_1 (x_dk dn_196_0_0_ok 1 rfl))))
  (e_Tok2
  (e_Lok (ld_iload_n_2 (x_dk dn_196_0_0_ok 2 rfl)))
  (e_Lok (lk_11_119 ho_196 (x_dk dn_196_0_0_ok 3 rfl)))))
  (e_Tok2
  (e_Tok2
  (e_Lok (e_st (I := eI) (er_ifeq (off := 14) (tg := 20) (x_dk dn_196_0_0_ok 4 rfl) (by decide)) nx_if1))
  (e_Lok (ld_iload_n_3 (x_dk dn_196_0_0_ok 5 rfl))))
  (e_Tok2
  (e_Lok (ps_iconst_0 (x_dk dn_196_0_0_ok 6 rfl)))
  (e_Tok2
  (e_Lok (ps_sipush_800 (x_dk dn_196_0_0_ok 7 rfl)))
  (e_Lok (lk_11_82 ho_196 (x_dk dn_196_0_0_ok 8 rfl)))))))
  (e_Tok2
  (e_Tok2
  (e_Tok2
  (e_Lok (e_st (I := eI) (er_ifne (off := 5) (tg := 22) (x_dk dn_196_0_0_ok 9 rfl) (by decide)) nx_if1))
  (e_Lok (ps_iconst_m1 (x_dk dn_196_0_0_ok 10 rfl))))
  (e_Tok2
  (e_Lok (e_rt (I := eI) (k := 1) ⟨(x_dk dn_196_0_0_ok 11 rfl), rfl⟩))
  (e_Lok (ld_aload_n_0 (x_dk dn_196_0_0_ok 12 rfl)))))
  (e_Tok2
  (e_Tok2
  (e_Lok (lk_11_91g ho_196 (x_dk dn_196_0_0_ok 13 rfl)))
  (e_Lok (e_st (I := eI) (er_ifeq (off := 6) (tg := 32) (x_dk dn_196_0_0_ok 14 rfl) (by decide)) nx_if1)))
  (e_Tok2
  (e_Lok (ps_bipush_m2 (x_dk dn_196_0_0_ok 15 rfl)))
  (e_Tok2
  (e_Lok (e_rt (I := eI) (k := 1) ⟨(x_dk dn_196_0_0_ok 16 rfl), rfl⟩))
  (e_Lok (ld_aload_n_0 (x_dk dn_196_0_0_ok 17 rfl))))))))
  (e_Tok2
  (e_Tok2
  (e_Tok2
  (e_Tok2
  (e_Lok (lk_11_27g ho_196 (x_dk dn_196_0_0_ok 18 rfl)))
  (e_Lok (ld_iload_n_1 (x_dk dn_196_0_0_ok 19 rfl))))
  (e_Tok2
  (e_Lok (e_st (I := eI) (er_aaload (x_dk dn_196_0_0_ok 20 rfl)) nx_aald))
  (e_Lok (lk_11_123g ho_196 (x_dk dn_196_0_0_ok 21 rfl)))))
  (e_Tok2
  (e_Tok2
  (e_Lok (ld_iload_n_2 (x_dk dn_196_0_0_ok 22 rfl)))
  (e_Lok (e_st (I := eI) (er_aaload (x_dk dn_196_0_0_ok 23 rfl)) nx_aald)))
  (e_Tok2
  (e_Lok (lk_11_135g ho_196 (x_dk dn_196_0_0_ok 24 rfl)))
  (e_Tok2
  (e_Lok (e_st (I := eI) (er_istore (i := 4) (x_dk dn_196_0_1_ok 0 rfl) (by decide +kernel)) nx_stor))
  (e_Lok (ld_aload_n_0 (x_dk dn_196_0_1_ok 1 rfl)))))))
  (e_Tok2
  (e_Tok2
  (e_Tok2
  (e_Lok (lk_11_27g ho_196 (x_dk dn_196_0_1_ok 2 rfl)))
  (e_Lok (ld_iload_n_1 (x_dk dn_196_0_1_ok 3 rfl))))
  (e_Tok2
  (e_Lok (e_st (I := eI) (er_aaload (x_dk dn_196_0_1_ok 4 rfl)) nx_aald))
  (e_Tok2
  (e_Lok (lk_11_123g ho_196 (x_dk dn_196_0_1_ok 5 rfl)))
  (e_Lok (ld_iload_n_2 (x_dk dn_196_0_1_ok 6 rfl))))))
  (e_Tok2
  (e_Tok2
  (e_Lok (e_st (I := eI) (er_aaload (x_dk dn_196_0_1_ok 7 rfl)) nx_aald))
  (e_Lok (ld_iload_n_3 (x_dk dn_196_0_1_ok 8 rfl))))
  (e_Tok2
  (e_Lok (lk_11_135p ho_196 (x_dk dn_196_0_1_ok 9 rfl)))
  (e_Tok2
  (e_Lok (ld_iload_4 (x_dk dn_196_0_1_ok 10 rfl)))
  (e_Lok (e_rt (I := eI) (k := 1) ⟨(x_dk dn_196_0_1_ok 11 rfl), rfl⟩))))))))
def te_196 : Nat → eE := te_196_0
theorem te_196_ok : ∀ pc, e_EOq eft cls elay eI n_196 pc (te_196 pc) := te_196_0_ok
theorem ho_197 : (xm_y n_197).cls = "RobotCellHouse" := rfl
def dn_197_0_0 : List (Nat × Instr × Nat) := [(0, .iload_n 1, 1), (1, .iload_n 2, 1), (2, .invokestatic 138, 3), (5, .ifCond .eq 14, 3), (8, .iload_n 3, 1), (9, .iconst 0, 1), (10, .sipush 8000, 3), (13, .invokestatic 82, 3), (16, .ifCond .ne 5, 3), (19, .iconst (-1), 1), (20, .ireturn, 1), (21, .aload_n 0, 1), (22, .getfield 91, 3), (25, .ifCond .eq 6, 3), (28, .bipush (-2), 2), (30, .ireturn, 1), (31, .aload_n 0, 1), (32, .getfield 46, 3), (35, .iload_n 1, 1), (36, .iload_n 2, 1), (37, .iconst 0, 1), (38, .iconst 0, 1), (39, .iload_n 3, 1), (40, .invokevirtual 141, 3), (43, .ireturn, 1)]
set_option maxRecDepth 20000 in
theorem dn_197_0_0_ok : dn_197_0_0.all (fun q => decide (decode (xm_b n_197) q.1 = .ok (q.2.1, q.2.2))) = true := xa_g_ok (by decide +kernel)
def te_197_0 : Nat → eE := (e_T 21 (e_T 9 (e_T 2 (e_T 0 (e_L 0 (0, ei_load 1 0 1, 0, 0)) (e_T 1 (e_L 1 (0, ei_load 2 0 2, 0, 0)) (e_L 2 (2, e_nof, 243, 2)))) (e_T 5 (e_L 5 (0, ei_if1 0 19 8, 0, 0)) (e_T 8 (e_L 8 (0, ei_load 3 0 9, 0, 0)) (e_L 9 (0, ei_push (0, 0) 10, 0, 0))))) (e_T 16 (e_T 10 (e_L 10 (0, ei_push (0, 8000) 13, 0, 0)) (e_T 13 (e_L 13 (2, e_nof, 242, 3)) (e_L 16 (0, ei_if1 1 21 19, 0, 0)))) (e_T 19 (e_L 19 (0, ei_push (0, (-1)) 20, 0, 0)) (e_T 20 (e_L 20 (1, e_nof, 1, 0)) (e_L 21 (0, ei_load 0 2 22, 0, 0)))))) (e_T 32 (e_T 28 (e_T 22 (e_L 22 (0, ei_getf eft elay 11 13 25, 0, 0)) (e_T 25 (e_L 25 (0, ei_if1 0 31 28, 0, 0)) (e_L 28 (0, ei_push (0, (-2)) 30, 0, 0)))) (e_T 30 (e_L 30 (1, e_nof, 1, 0)) (e_T 31 (e_L 31 (0, ei_load 0 2 32, 0, 0)) (e_L 32 (0, ei_getf eft elay 11 6 35, 0, 0))))) (e_T 37 (e_T 35 (e_L 35 (0, ei_load 1 0 36, 0, 0)) (e_T 36 (e_L 36 (0, ei_load 2 0 37, 0, 0)) (e_L 37 (0, ei_push (0, 0) 38, 0, 0)))) (e_T 39 (e_T 38 (e_L 38 (0, ei_push (0, 0) 39, 0, 0)) (e_L 39 (0, ei_load 3 0 40, 0, 0))) (e_T 40 (e_L 40 (2, e_nof, 167, 6)) (e_L 43 (1, e_nof, 1, 0)))))))
set_option maxRecDepth 20000 in
set_option maxHeartbeats 4000000 in
theorem te_197_0_ok : ∀ pc, e_EOq eft cls elay eI n_197 pc (te_197_0 pc) :=
  (e_Tok2
  (e_Tok2
  (e_Tok2
  (e_Tok2
  (e_Lok (ld_iload_n_1 (x_dk dn_197_0_0_ok 0 rfl)))
  (e_Tok2
  (e_Lok (ld_iload_n_2 (x_dk dn_197_0_0_ok 1 rfl)))
  (e_Lok (lk_11_138 ho_197 (x_dk dn_197_0_0_ok 2 rfl)))))
  (e_Tok2
  (e_Lok (e_st (I := eI) (er_ifeq (off := 14) (tg := 19) (x_dk dn_197_0_0_ok 3 rfl) (by decide)) nx_if1))
  (e_Tok2
  (e_Lok (ld_iload_n_3 (x_dk dn_197_0_0_ok 4 rfl)))
  (e_Lok (ps_iconst_0 (x_dk dn_197_0_0_ok 5 rfl))))))
  (e_Tok2
  (e_Tok2
  (e_Lok (ps_sipush_8000 (x_dk dn_197_0_0_ok 6 rfl)))
  (e_Tok2
  (e_Lok (lk_11_82 ho_197 (x_dk dn_197_0_0_ok 7 rfl)))
  (e_Lok (e_st (I := eI) (er_ifne (off := 5) (tg := 21) (x_dk dn_197_0_0_ok 8 rfl) (by decide)) nx_if1))))
  (e_Tok2
  (e_Lok (ps_iconst_m1 (x_dk dn_197_0_0_ok 9 rfl)))
  (e_Tok2
  (e_Lok (e_rt (I := eI) (k := 1) ⟨(x_dk dn_197_0_0_ok 10 rfl), rfl⟩))
  (e_Lok (ld_aload_n_0 (x_dk dn_197_0_0_ok 11 rfl)))))))
  (e_Tok2
  (e_Tok2
  (e_Tok2
  (e_Lok (lk_11_91g ho_197 (x_dk dn_197_0_0_ok 12 rfl)))
  (e_Tok2
  (e_Lok (e_st (I := eI) (er_ifeq (off := 6) (tg := 31) (x_dk dn_197_0_0_ok 13 rfl) (by decide)) nx_if1))
  (e_Lok (ps_bipush_m2 (x_dk dn_197_0_0_ok 14 rfl)))))
  (e_Tok2
  (e_Lok (e_rt (I := eI) (k := 1) ⟨(x_dk dn_197_0_0_ok 15 rfl), rfl⟩))
  (e_Tok2
  (e_Lok (ld_aload_n_0 (x_dk dn_197_0_0_ok 16 rfl)))
  (e_Lok (lk_11_46g ho_197 (x_dk dn_197_0_0_ok 17 rfl))))))
  (e_Tok2
  (e_Tok2
  (e_Lok (ld_iload_n_1 (x_dk dn_197_0_0_ok 18 rfl)))
  (e_Tok2
  (e_Lok (ld_iload_n_2 (x_dk dn_197_0_0_ok 19 rfl)))
  (e_Lok (ps_iconst_0 (x_dk dn_197_0_0_ok 20 rfl)))))
  (e_Tok2
  (e_Tok2
  (e_Lok (ps_iconst_0 (x_dk dn_197_0_0_ok 21 rfl)))
  (e_Lok (ld_iload_n_3 (x_dk dn_197_0_0_ok 22 rfl))))
  (e_Tok2
  (e_Lok (lk_11_141 ho_197 (x_dk dn_197_0_0_ok 23 rfl)))
  (e_Lok (e_rt (I := eI) (k := 1) ⟨(x_dk dn_197_0_0_ok 24 rfl), rfl⟩)))))))
def te_197 : Nat → eE := te_197_0
theorem te_197_ok : ∀ pc, e_EOq eft cls elay eI n_197 pc (te_197 pc) := te_197_0_ok
theorem ho_198 : (xm_y n_198).cls = "RobotCellHouse" := rfl
def dn_198_0_0 : List (Nat × Instr × Nat) := [(0, .iload_n 1, 1), (1, .iload_n 2, 1), (2, .iload_n 3, 1), (3, .iload 4, 2), (5, .invokestatic 145, 3), (8, .ifCond .ne 5, 3), (11, .iconst (-1), 1), (12, .ireturn, 1), (13, .aload_n 0, 1), (14, .getfield 91, 3), (17, .ifCond .eq 6, 3), (20, .bipush (-2), 2), (22, .ireturn, 1), (23, .aload_n 0, 1), (24, .getfield 46, 3), (27, .iload_n 1, 1), (28, .iload_n 2, 1), (29, .iload_n 3, 1), (30, .iload 4, 2), (32, .iconst (-1), 1), (33, .invokevirtual 141, 3), (36, .ireturn, 1)]
set_option maxRecDepth 20000 in
theorem dn_198_0_0_ok : dn_198_0_0.all (fun q => decide (decode (xm_b n_198) q.1 = .ok (q.2.1, q.2.2))) = true := xa_g_ok (by decide +kernel)
def te_198_0 : Nat → eE := (e_T 17 (e_T 5 (e_T 1 (e_T 0 (e_L 0 (0, ei_load 1 0 1, 0, 0)) (e_L 1 (0, ei_load 2 0 2, 0, 0))) (e_T 2 (e_L 2 (0, ei_load 3 0 3, 0, 0)) (e_T 3 (e_L 3 (0, ei_load 4 0 5, 0, 0)) (e_L 5 (2, e_nof, 244, 4))))) (e_T 12 (e_T 8 (e_L 8 (0, ei_if1 1 13 11, 0, 0)) (e_T 11 (e_L 11 (0, ei_push (0, (-1)) 12, 0, 0)) (e_L 12 (1, e_nof, 1, 0)))) (e_T 13 (e_L 13 (0, ei_load 0 2 14, 0, 0)) (e_T 14 (e_L 14 (0, ei_getf eft elay 11 13 17, 0, 0)) (e_L 17 (0, ei_if1 0 23 20, 0, 0)))))) (e_T 27 (e_T 22 (e_T 20 (e_L 20 (0, ei_push (0, (-2)) 22, 0, 0)) (e_L 22 (1, e_nof, 1, 0))) (e_T 23 (e_L 23 (0, ei_load 0 2 24, 0, 0)) (e_T 24 (e_L 24 (0, ei_getf eft elay 11 6 27, 0, 0)) (e_L 27 (0, ei_load 1 0 28, 0, 0))))) (e_T 30 (e_T 28 (e_L 28 (0, ei_load 2 0 29, 0, 0)) (e_T 29 (e_L 29 (0, ei_load 3 0 30, 0, 0)) (e_L 30 (0, ei_load 4 0 32, 0, 0)))) (e_T 32 (e_L 32 (0, ei_push (0, (-1)) 33, 0, 0)) (e_T 33 (e_L 33 (2, e_nof, 167, 6)) (e_L 36 (1, e_nof, 1, 0)))))))
set_option maxRecDepth 20000 in
set_option maxHeartbeats 4000000 in
theorem te_198_0_ok : ∀ pc, e_EOq eft cls elay eI n_198 pc (te_198_0 pc) :=
  (e_Tok2
  (e_Tok2
  (e_Tok2
  (e_Tok2
  (e_Lok (ld_iload_n_1 (x_dk dn_198_0_0_ok 0 rfl)))
  (e_Lok (ld_iload_n_2 (x_dk dn_198_0_0_ok 1 rfl))))
  (e_Tok2
  (e_Lok (ld_iload_n_3 (x_dk dn_198_0_0_ok 2 rfl)))
  (e_Tok2
  (e_Lok (ld_iload_4 (x_dk dn_198_0_0_ok 3 rfl)))
  (e_Lok (lk_11_145 ho_198 (x_dk dn_198_0_0_ok 4 rfl))))))
  (e_Tok2
  (e_Tok2
  (e_Lok (e_st (I := eI) (er_ifne (off := 5) (tg := 13) (x_dk dn_198_0_0_ok 5 rfl) (by decide)) nx_if1))
  (e_Tok2
  (e_Lok (ps_iconst_m1 (x_dk dn_198_0_0_ok 6 rfl)))
  (e_Lok (e_rt (I := eI) (k := 1) ⟨(x_dk dn_198_0_0_ok 7 rfl), rfl⟩))))
  (e_Tok2
  (e_Lok (ld_aload_n_0 (x_dk dn_198_0_0_ok 8 rfl)))
  (e_Tok2
  (e_Lok (lk_11_91g ho_198 (x_dk dn_198_0_0_ok 9 rfl)))
  (e_Lok (e_st (I := eI) (er_ifeq (off := 6) (tg := 23) (x_dk dn_198_0_0_ok 10 rfl) (by decide)) nx_if1))))))
  (e_Tok2
  (e_Tok2
  (e_Tok2
  (e_Lok (ps_bipush_m2 (x_dk dn_198_0_0_ok 11 rfl)))
  (e_Lok (e_rt (I := eI) (k := 1) ⟨(x_dk dn_198_0_0_ok 12 rfl), rfl⟩)))
  (e_Tok2
  (e_Lok (ld_aload_n_0 (x_dk dn_198_0_0_ok 13 rfl)))
  (e_Tok2
  (e_Lok (lk_11_46g ho_198 (x_dk dn_198_0_0_ok 14 rfl)))
  (e_Lok (ld_iload_n_1 (x_dk dn_198_0_0_ok 15 rfl))))))
  (e_Tok2
  (e_Tok2
  (e_Lok (ld_iload_n_2 (x_dk dn_198_0_0_ok 16 rfl)))
  (e_Tok2
  (e_Lok (ld_iload_n_3 (x_dk dn_198_0_0_ok 17 rfl)))
  (e_Lok (ld_iload_4 (x_dk dn_198_0_0_ok 18 rfl)))))
  (e_Tok2
  (e_Lok (ps_iconst_m1 (x_dk dn_198_0_0_ok 19 rfl)))
  (e_Tok2
  (e_Lok (lk_11_141 ho_198 (x_dk dn_198_0_0_ok 20 rfl)))
  (e_Lok (e_rt (I := eI) (k := 1) ⟨(x_dk dn_198_0_0_ok 21 rfl), rfl⟩)))))))
def te_198 : Nat → eE := te_198_0
theorem te_198_ok : ∀ pc, e_EOq eft cls elay eI n_198 pc (te_198 pc) := te_198_0_ok
theorem ho_199 : (xm_y n_199).cls = "RobotCellHouse" := rfl
def dn_199_0_0 : List (Nat × Instr × Nat) := [(0, .aload_n 0, 1), (1, .iload_n 1, 1), (2, .invokevirtual 103, 3), (5, .ifCond .eq 13, 3), (8, .iload_n 2, 1), (9, .iconst 0, 1), (10, .bipush 6, 2), (12, .invokestatic 82, 3), (15, .ifCond .ne 5, 3), (18, .iconst (-1), 1), (19, .ireturn, 1), (20, .iload_n 3, 1), (21, .iconst 0, 1), (22, .aload_n 0, 1), (23, .getfield 46, 3), (26, .getfield 149, 3), (29, .iconst 1, 1), (30, .isub, 1), (31, .invokestatic 82, 3), (34, .ifCond .ne 5, 3), (37, .iconst (-1), 1), (38, .ireturn, 1), (39, .aload_n 0, 1), (40, .getfield 91, 3), (43, .ifCond .eq 6, 3)]
set_option maxRecDepth 20000 in
theorem dn_199_0_0_ok : dn_199_0_0.all (fun q => decide (decode (xm_b n_199) q.1 = .ok (q.2.1, q.2.2))) = true := xa_g_ok (by decide +kernel)
def dn_199_0_1 : List (Nat × Instr × Nat) := [(46, .bipush (-2), 2), (48, .ireturn, 1), (49, .aload_n 0, 1), (50, .getfield 27, 3), (53, .iload_n 1, 1), (54, .aaload, 1), (55, .iload_n 2, 1), (56, .iload_n 3, 1), (57, .invokevirtual 152, 3), (60, .ifCond .eq 5, 3), (63, .iconst 0, 1), (64, .ireturn, 1), (65, .aload_n 0, 1), (66, .getfield 27, 3), (69, .iload_n 1, 1), (70, .aaload, 1), (71, .getfield 155, 3), (74, .iload_n 2, 1), (75, .dup2, 1), (76, .iaload, 1), (77, .iconst 1, 1), (78, .iload_n 3, 1), (79, .ishl, 1), (80, .ior, 1), (81, .iastore, 1)]
set_option maxRecDepth 20000 in
theorem dn_199_0_1_ok : dn_199_0_1.all (fun q => decide (decode (xm_b n_199) q.1 = .ok (q.2.1, q.2.2))) = true := xa_g_ok (by decide +kernel)
def dn_199_0_2 : List (Nat × Instr × Nat) := [(82, .iconst 1, 1), (83, .ireturn, 1)]
set_option maxRecDepth 20000 in
theorem dn_199_0_2_ok : dn_199_0_2.all (fun q => decide (decode (xm_b n_199) q.1 = .ok (q.2.1, q.2.2))) = true := xa_g_ok (by decide +kernel)
def te_199_0 : Nat → eE := (e_T 21 (e_T 9 (e_T 2 (e_T 0 (e_L 0 (0, ei_load 0 2 1, 0, 0)) (e_T 1 (e_L 1 (0, ei_load 1 0 2, 0, 0)) (e_L 2 (2, e_nof, 246, 2)))) (e_T 5 (e_L 5 (0, ei_if1 0 18 8, 0, 0)) (e_T 8 (e_L 8 (0, ei_load 2 0 9, 0, 0)) (e_L 9 (0, ei_push (0, 0) 10, 0, 0))))) (e_T 15 (e_T 10 (e_L 10 (0, ei_push (0, 6) 12, 0, 0)) (e_T 12 (e_L 12 (2, e_nof, 242, 3)) (e_L 15 (0, ei_if1 1 20 18, 0, 0)))) (e_T 19 (e_T 18 (e_L 18 (0, ei_push (0, (-1)) 19, 0, 0)) (e_L 19 (1, e_nof, 1, 0))) (e_T 20 (e_L 20 (0, ei_load 3 0 21, 0, 0)) (e_L 21 (0, ei_push (0, 0) 22, 0, 0)))))) (e_T 31 (e_T 26 (e_T 22 (e_L 22 (0, ei_load 0 2 23, 0, 0)) (e_T 23 (e_L 23 (0, ei_getf eft elay 11 6 26, 0, 0)) (e_L 26 (0, ei_getf eft elay 9 0 29, 0, 0)))) (e_T 29 (e_L 29 (0, ei_push (0, 1) 30, 0, 0)) (e_T 30 (e_L 30 (0, ei_bin eF_sub 31, 0, 0)) (e_L 31 (2, e_nof, 242, 3))))) (e_T 38 (e_T 34 (e_L 34 (0, ei_if1 1 39 37, 0, 0)) (e_T 37 (e_L 37 (0, ei_push (0, (-1)) 38, 0, 0)) (e_L 38 (1, e_nof, 1, 0)))) (e_T 40 (e_T 39 (e_L 39 (0, ei_load 0 2 40, 0, 0)) (e_L 40 (0, ei_getf eft elay 11 13 43, 0, 0))) (e_T 43 (e_L 43 (0, ei_if1 0 49 46, 0, 0)) (e_L 46 (0, ei_push (0, (-2)) 48, 0, 0)))))))
set_option maxRecDepth 20000 in
set_option maxHeartbeats 4000000 in
theorem te_199_0_ok : ∀ pc, e_EOq eft cls elay eI n_199 pc (te_199_0 pc) :=
  (e_Tok2
  (e_Tok2
  (e_Tok2
  (e_Tok2
  (e_Lok (ld_aload_n_0 (x_dk dn_199_0_0_ok 0 rfl)))
  (e_Tok2
  (e_Lok (ld_iload_n_1 (x_dk dn_199_0_0_ok 1 rfl)))
  (e_Lok (lk_11_103 ho_199 (x_dk dn_199_0_0_ok 2 rfl)))))
  (e_Tok2
  (e_Lok (e_st (I := eI) (er_ifeq (off := 13) (tg := 18) (x_dk dn_199_0_0_ok 3 rfl) (by decide)) nx_if1))
  (e_Tok2
  (e_Lok (ld_iload_n_2 (x_dk dn_199_0_0_ok 4 rfl)))
  (e_Lok (ps_iconst_0 (x_dk dn_199_0_0_ok 5 rfl))))))
  (e_Tok2
  (e_Tok2
  (e_Lok (ps_bipush_6 (x_dk dn_199_0_0_ok 6 rfl)))
  (e_Tok2
  (e_Lok (lk_11_82 ho_199 (x_dk dn_199_0_0_ok 7 rfl)))
  (e_Lok (e_st (I := eI) (er_ifne (off := 5) (tg := 20) (x_dk dn_199_0_0_ok 8 rfl) (by decide)) nx_if1))))
  (e_Tok2
  (e_Tok2
  (e_Lok (ps_iconst_m1 (x_dk dn_199_0_0_ok 9 rfl)))
  (e_Lok (e_rt (I := eI) (k := 1) ⟨(x_dk dn_199_0_0_ok 10 rfl), rfl⟩)))
  (e_Tok2
  (e_Lok (ld_iload_n_3 (x_dk dn_199_0_0_ok 11 rfl)))
  (e_Lok (ps_iconst_0 (x_dk dn_199_0_0_ok 12 rfl)))))))
  (e_Tok2
  (e_Tok2
  (e_Tok2
  (e_Lok (ld_aload_n_0 (x_dk dn_199_0_0_ok 13 rfl)))
  (e_Tok2
  (e_Lok (lk_11_46g ho_199 (x_dk dn_199_0_0_ok 14 rfl)))
  (e_Lok (lk_11_149g ho_199 (x_dk dn_199_0_0_ok 15 rfl)))))
  (e_Tok2
  (e_Lok (ps_iconst_1 (x_dk dn_199_0_0_ok 16 rfl)))
  (e_Tok2
  (e_Lok (sm_isub (x_dk dn_199_0_0_ok 17 rfl)))
  (e_Lok (lk_11_82 ho_199 (x_dk dn_199_0_0_ok 18 rfl))))))
  (e_Tok2
  (e_Tok2
  (e_Lok (e_st (I := eI) (er_ifne (off := 5) (tg := 39) (x_dk dn_199_0_0_ok 19 rfl) (by decide)) nx_if1))
  (e_Tok2
  (e_Lok (ps_iconst_m1 (x_dk dn_199_0_0_ok 20 rfl)))
  (e_Lok (e_rt (I := eI) (k := 1) ⟨(x_dk dn_199_0_0_ok 21 rfl), rfl⟩))))
  (e_Tok2
  (e_Tok2
  (e_Lok (ld_aload_n_0 (x_dk dn_199_0_0_ok 22 rfl)))
  (e_Lok (lk_11_91g ho_199 (x_dk dn_199_0_0_ok 23 rfl))))
  (e_Tok2
  (e_Lok (e_st (I := eI) (er_ifeq (off := 6) (tg := 49) (x_dk dn_199_0_0_ok 24 rfl) (by decide)) nx_if1))
  (e_Lok (ps_bipush_m2 (x_dk dn_199_0_1_ok 0 rfl))))))))
def te_199_26 : Nat → eE := (e_T 66 (e_T 55 (e_T 50 (e_T 48 (e_L 48 (1, e_nof, 1, 0)) (e_T 49 (e_L 49 (0, ei_load 0 2 50, 0, 0)) (e_L 50 (0, ei_getf eft elay 11 2 53, 0, 0)))) (e_T 53 (e_L 53 (0, ei_load 1 0 54, 0, 0)) (e_T 54 (e_L 54 (0, ei_aald elay 55, 0, 0)) (e_L 55 (0, ei_load 2 0 56, 0, 0))))) (e_T 60 (e_T 56 (e_L 56 (0, ei_load 3 0 57, 0, 0)) (e_T 57 (e_L 57 (2, e_nof, 6, 3)) (e_L 60 (0, ei_if1 0 65 63, 0, 0)))) (e_T 64 (e_T 63 (e_L 63 (0, ei_push (0, 0) 64, 0, 0)) (e_L 64 (1, e_nof, 1, 0))) (e_T 65 (e_L 65 (0, ei_load 0 2 66, 0, 0)) (e_L 66 (0, ei_getf eft elay 11 2 69, 0, 0)))))) (e_T 76 (e_T 71 (e_T 69 (e_L 69 (0, ei_load 1 0 70, 0, 0)) (e_T 70 (e_L 70 (0, ei_aald elay 71, 0, 0)) (e_L 71 (0, ei_getf eft elay 0 5 74, 0, 0)))) (e_T 74 (e_L 74 (0, ei_load 2 0 75, 0, 0)) (e_T 75 (e_L 75 (0, ei_stk ef_dup2 76, 0, 0)) (e_L 76 (0, ei_ald elay false 77, 0, 0))))) (e_T 79 (e_T 77 (e_L 77 (0, ei_push (0, 1) 78, 0, 0)) (e_T 78 (e_L 78 (0, ei_load 3 0 79, 0, 0)) (e_L 79 (0, ei_bin (eB (fun x y => x <<< (y &&& 31))) 80, 0, 0)))) (e_T 81 (e_T 80 (e_L 80 (0, ei_bin (eB (fun x y => x ||| y)) 81, 0, 0)) (e_L 81 (0, ei_ast elay false 82, 0, 0))) (e_T 82 (e_L 82 (0, ei_push (0, 1) 83, 0, 0)) (e_L 83 (1, e_nof, 1, 0)))))))
set_option maxRecDepth 20000 in
set_option maxHeartbeats 4000000 in
theorem te_199_26_ok : ∀ pc, e_EOq eft cls elay eI n_199 pc (te_199_26 pc) :=
  (e_Tok2
  (e_Tok2
  (e_Tok2
  (e_Tok2
  (e_Lok (e_rt (I := eI) (k := 1) ⟨(x_dk dn_199_0_1_ok 1 rfl), rfl⟩))
  (e_Tok2
  (e_Lok (ld_aload_n_0 (x_dk dn_199_0_1_ok 2 rfl)))
  (e_Lok (lk_11_27g ho_199 (x_dk dn_199_0_1_ok 3 rfl)))))
  (e_Tok2
  (e_Lok (ld_iload_n_1 (x_dk dn_199_0_1_ok 4 rfl)))
  (e_Tok2
  (e_Lok (e_st (I := eI) (er_aaload (x_dk dn_199_0_1_ok 5 rfl)) nx_aald))
  (e_Lok (ld_iload_n_2 (x_dk dn_199_0_1_ok 6 rfl))))))
  (e_Tok2
  (e_Tok2
  (e_Lok (ld_iload_n_3 (x_dk dn_199_0_1_ok 7 rfl)))
  (e_Tok2
  (e_Lok (lk_11_152 ho_199 (x_dk dn_199_0_1_ok 8 rfl)))
  (e_Lok (e_st (I := eI) (er_ifeq (off := 5) (tg := 65) (x_dk dn_199_0_1_ok 9 rfl) (by decide)) nx_if1))))
  (e_Tok2
  (e_Tok2
  (e_Lok (ps_iconst_0 (x_dk dn_199_0_1_ok 10 rfl)))
  (e_Lok (e_rt (I := eI) (k := 1) ⟨(x_dk dn_199_0_1_ok 11 rfl), rfl⟩)))
  (e_Tok2
  (e_Lok (ld_aload_n_0 (x_dk dn_199_0_1_ok 12 rfl)))
  (e_Lok (lk_11_27g ho_199 (x_dk dn_199_0_1_ok 13 rfl)))))))
  (e_Tok2
  (e_Tok2
  (e_Tok2
  (e_Lok (ld_iload_n_1 (x_dk dn_199_0_1_ok 14 rfl)))
  (e_Tok2
  (e_Lok (e_st (I := eI) (er_aaload (x_dk dn_199_0_1_ok 15 rfl)) nx_aald))
  (e_Lok (lk_11_155g ho_199 (x_dk dn_199_0_1_ok 16 rfl)))))
  (e_Tok2
  (e_Lok (ld_iload_n_2 (x_dk dn_199_0_1_ok 17 rfl)))
  (e_Tok2
  (e_Lok (e_st (I := eI) (er_dup2 (x_dk dn_199_0_1_ok 18 rfl)) (nx_stk bf_dup2)))
  (e_Lok (sm_iaload (x_dk dn_199_0_1_ok 19 rfl))))))
  (e_Tok2
  (e_Tok2
  (e_Lok (ps_iconst_1 (x_dk dn_199_0_1_ok 20 rfl)))
  (e_Tok2
  (e_Lok (ld_iload_n_3 (x_dk dn_199_0_1_ok 21 rfl)))
  (e_Lok (e_st (I := eI) (er_ishl (x_dk dn_199_0_1_ok 22 rfl)) nx_bin))))
  (e_Tok2
  (e_Tok2
  (e_Lok (e_st (I := eI) (er_ior (x_dk dn_199_0_1_ok 23 rfl)) nx_bin))
  (e_Lok (sm_iastore (x_dk dn_199_0_1_ok 24 rfl))))
  (e_Tok2
  (e_Lok (ps_iconst_1 (x_dk dn_199_0_2_ok 0 rfl)))
  (e_Lok (e_rt (I := eI) (k := 1) ⟨(x_dk dn_199_0_2_ok 1 rfl), rfl⟩)))))))
def te_199 : Nat → eE := (e_T 46 te_199_0 te_199_26)
theorem te_199_ok : ∀ pc, e_EOq eft cls elay eI n_199 pc (te_199 pc) := (e_Tok2 (te_199_0_ok) (te_199_26_ok))
theorem ho_200 : (xm_y n_200).cls = "RobotCellHouse" := rfl
def dn_200_0_0 : List (Nat × Instr × Nat) := [(0, .iload_n 1, 1), (1, .iload_n 2, 1), (2, .invokestatic 138, 3), (5, .ifCond .eq 12, 3), (8, .iload_n 3, 1), (9, .iconst 0, 1), (10, .iconst 3, 1), (11, .invokestatic 82, 3), (14, .ifCond .ne 5, 3), (17, .iconst (-1), 1), (18, .ireturn, 1), (19, .iload 4, 2), (21, .iconst 0, 1), (22, .sipush 16000, 3), (25, .invokestatic 82, 3), (28, .ifCond .eq 15, 3), (31, .iload 5, 2), (33, .iconst 0, 1), (34, .sipush 2000, 3), (37, .invokestatic 82, 3), (40, .ifCond .ne 5, 3), (43, .iconst (-1), 1), (44, .ireturn, 1), (45, .iload_n 1, 1), (46, .iload 4, 2)]
set_option maxRecDepth 20000 in
theorem dn_200_0_0_ok : dn_200_0_0.all (fun q => decide (decode (xm_b n_200) q.1 = .ok (q.2.1, q.2.2))) = true := xa_g_ok (by decide +kernel)
def dn_200_0_1 : List (Nat × Instr × Nat) := [(48, .iload_n 3, 1), (49, .invokestatic 158, 3), (52, .imul, 1), (53, .iadd, 1), (54, .iload_n 2, 1), (55, .iload 4, 2), (57, .iload_n 3, 1), (58, .invokestatic 164, 3), (61, .imul, 1), (62, .iadd, 1), (63, .invokestatic 138, 3), (66, .ifCond .ne 5, 3), (69, .iconst (-1), 1), (70, .ireturn, 1), (71, .aload_n 0, 1), (72, .getfield 91, 3), (75, .ifCond .eq 6, 3), (78, .bipush (-2), 2), (80, .ireturn, 1), (81, .aload_n 0, 1), (82, .getfield 37, 3), (85, .getfield 167, 3), (88, .iconst 4, 1), (89, .if_icmp .lt 6, 3), (92, .bipush (-3), 2)]
set_option maxRecDepth 20000 in
theorem dn_200_0_1_ok : dn_200_0_1.all (fun q => decide (decode (xm_b n_200) q.1 = .ok (q.2.1, q.2.2))) = true := xa_g_ok (by decide +kernel)
def dn_200_0_2 : List (Nat × Instr × Nat) := [(94, .ireturn, 1), (95, .aload_n 0, 1), (96, .getfield 37, 3), (99, .iload_n 1, 1), (100, .iload_n 2, 1), (101, .iload_n 3, 1), (102, .iload 4, 2), (104, .iload 5, 2), (106, .invokevirtual 170, 3), (109, .ireturn, 1)]
set_option maxRecDepth 20000 in
theorem dn_200_0_2_ok : dn_200_0_2.all (fun q => decide (decode (xm_b n_200) q.1 = .ok (q.2.1, q.2.2))) = true := xa_g_ok (by decide +kernel)
def te_200_0 : Nat → eE := (e_T 25 (e_T 10 (e_T 2 (e_T 0 (e_L 0 (0, ei_load 1 0 1, 0, 0)) (e_T 1 (e_L 1 (0, ei_load 2 0 2, 0, 0)) (e_L 2 (2, e_nof, 243, 2)))) (e_T 8 (e_T 5 (e_L 5 (0, ei_if1 0 17 8, 0, 0)) (e_L 8 (0, ei_load 3 0 9, 0, 0))) (e_T 9 (e_L 9 (0, ei_push (0, 0) 10, 0, 0)) (e_L 10 (0, ei_push (0, 3) 11, 0, 0))))) (e_T 18 (e_T 14 (e_T 11 (e_L 11 (2, e_nof, 242, 3)) (e_L 14 (0, ei_if1 1 19 17, 0, 0))) (e_T 17 (e_L 17 (0, ei_push (0, (-1)) 18, 0, 0)) (e_L 18 (1, e_nof, 1, 0)))) (e_T 21 (e_T 19 (e_L 19 (0, ei_load 4 0 21, 0, 0)) (e_L 21 (0, ei_push (0, 0) 22, 0, 0))) (e_T 22 (e_L 22 (0, ei_push (0, 16000) 25, 0, 0)) (e_L 25 (2, e_nof, 242, 3)))))) (e_T 43 (e_T 33 (e_T 28 (e_L 28 (0, ei_if1 0 43 31, 0, 0)) (e_T 31 (e_L 31 (0, ei_load 5 0 33, 0, 0)) (e_L 33 (0, ei_push (0, 0) 34, 0, 0)))) (e_T 37 (e_T 34 (e_L 34 (0, ei_push (0, 2000) 37, 0, 0)) (e_L 37 (2, e_nof, 242, 3))) (e_T 40 (e_L 40 (0, ei_if1 1 45 43, 0, 0)) (e_L 43 (0, ei_push (0, (-1)) 44, 0, 0))))) (e_T 48 (e_T 45 (e_T 44 (e_L 44 (1, e_nof, 1, 0)) (e_L 45 (0, ei_load 1 0 46, 0, 0))) (e_T 46 (e_L 46 (0, ei_load 4 0 48, 0, 0)) (e_L 48 (0, ei_load 3 0 49, 0, 0)))) (e_T 52 (e_T 49 (e_L 49 (2, e_nof, 73, 1)) (e_L 52 (0, ei_bin eF_mul 53, 0, 0))) (e_T 53 (e_L 53 (0, ei_bin eF_add 54, 0, 0)) (e_L 54 (0, ei_load 2 0 55, 0, 0)))))))
set_option maxRecDepth 20000 in
set_option maxHeartbeats 4000000 in
theorem te_200_0_ok : ∀ pc, e_EOq eft cls elay eI n_200 pc (te_200_0 pc) :=
  (e_Tok2
  (e_Tok2
  (e_Tok2
  (e_Tok2
  (e_Lok (ld_iload_n_1 (x_dk dn_200_0_0_ok 0 rfl)))
  (e_Tok2
  (e_Lok (ld_iload_n_2 (x_dk dn_200_0_0_ok 1 rfl)))
  (e_Lok (lk_11_138 ho_200 (x_dk dn_200_0_0_ok 2 rfl)))))
  (e_Tok2
  (e_Tok2
  (e_Lok (e_st (I := eI) (er_ifeq (off := 12) (tg := 17) (x_dk dn_200_0_0_ok 3 rfl) (by decide)) nx_if1))
  (e_Lok (ld_iload_n_3 (x_dk dn_200_0_0_ok 4 rfl))))
  (e_Tok2
  (e_Lok (ps_iconst_0 (x_dk dn_200_0_0_ok 5 rfl)))
  (e_Lok (ps_iconst_3 (x_dk dn_200_0_0_ok 6 rfl))))))
  (e_Tok2
  (e_Tok2
  (e_Tok2
  (e_Lok (lk_11_82 ho_200 (x_dk dn_200_0_0_ok 7 rfl)))
  (e_Lok (e_st (I := eI) (er_ifne (off := 5) (tg := 19) (x_dk dn_200_0_0_ok 8 rfl) (by decide)) nx_if1)))
  (e_Tok2
  (e_Lok (ps_iconst_m1 (x_dk dn_200_0_0_ok 9 rfl)))
  (e_Lok (e_rt (I := eI) (k := 1) ⟨(x_dk dn_200_0_0_ok 10 rfl), rfl⟩))))
  (e_Tok2
  (e_Tok2
  (e_Lok (ld_iload_4 (x_dk dn_200_0_0_ok 11 rfl)))
  (e_Lok (ps_iconst_0 (x_dk dn_200_0_0_ok 12 rfl))))
  (e_Tok2
  (e_Lok (ps_sipush_16000 (x_dk dn_200_0_0_ok 13 rfl)))
  (e_Lok (lk_11_82 ho_200 (x_dk dn_200_0_0_ok 14 rfl)))))))
  (e_Tok2
  (e_Tok2
  (e_Tok2
  (e_Lok (e_st (I := eI) (er_ifeq (off := 15) (tg := 43) (x_dk dn_200_0_0_ok 15 rfl) (by decide)) nx_if1))
  (e_Tok2
  (e_Lok (ld_iload_5 (x_dk dn_200_0_0_ok 16 rfl)))
  (e_Lok (ps_iconst_0 (x_dk dn_200_0_0_ok 17 rfl)))))
  (e_Tok2
  (e_Tok2
  (e_Lok (ps_sipush_2000 (x_dk dn_200_0_0_ok 18 rfl)))
  (e_Lok (lk_11_82 ho_200 (x_dk dn_200_0_0_ok 19 rfl))))
  (e_Tok2
  (e_Lok (e_st (I := eI) (er_ifne (off := 5) (tg := 45) (x_dk dn_200_0_0_ok 20 rfl) (by decide)) nx_if1))
  (e_Lok (ps_iconst_m1 (x_dk dn_200_0_0_ok 21 rfl))))))
  (e_Tok2
  (e_Tok2
  (e_Tok2
  (e_Lok (e_rt (I := eI) (k := 1) ⟨(x_dk dn_200_0_0_ok 22 rfl), rfl⟩))
  (e_Lok (ld_iload_n_1 (x_dk dn_200_0_0_ok 23 rfl))))
  (e_Tok2
  (e_Lok (ld_iload_4 (x_dk dn_200_0_0_ok 24 rfl)))
  (e_Lok (ld_iload_n_3 (x_dk dn_200_0_1_ok 0 rfl)))))
  (e_Tok2
  (e_Tok2
  (e_Lok (lk_11_158 ho_200 (x_dk dn_200_0_1_ok 1 rfl)))
  (e_Lok (sm_imul (x_dk dn_200_0_1_ok 2 rfl))))
  (e_Tok2
  (e_Lok (sm_iadd (x_dk dn_200_0_1_ok 3 rfl)))
  (e_Lok (ld_iload_n_2 (x_dk dn_200_0_1_ok 4 rfl))))))))
def te_200_30 : Nat → eE := (e_T 81 (e_T 66 (e_T 58 (e_T 55 (e_L 55 (0, ei_load 4 0 57, 0, 0)) (e_T 57 (e_L 57 (0, ei_load 3 0 58, 0, 0)) (e_L 58 (2, e_nof, 74, 1)))) (e_T 62 (e_T 61 (e_L 61 (0, ei_bin eF_mul 62, 0, 0)) (e_L 62 (0, ei_bin eF_add 63, 0, 0))) (e_T 63 (e_L 63 (2, e_nof, 243, 2)) (e_L 66 (0, ei_if1 1 71 69, 0, 0))))) (e_T 72 (e_T 70 (e_T 69 (e_L 69 (0, ei_push (0, (-1)) 70, 0, 0)) (e_L 70 (1, e_nof, 1, 0))) (e_T 71 (e_L 71 (0, ei_load 0 2 72, 0, 0)) (e_L 72 (0, ei_getf eft elay 11 13 75, 0, 0)))) (e_T 78 (e_T 75 (e_L 75 (0, ei_if1 0 81 78, 0, 0)) (e_L 78 (0, ei_push (0, (-2)) 80, 0, 0))) (e_T 80 (e_L 80 (1, e_nof, 1, 0)) (e_L 81 (0, ei_load 0 2 82, 0, 0)))))) (e_T 95 (e_T 88 (e_T 82 (e_L 82 (0, ei_getf eft elay 11 4 85, 0, 0)) (e_T 85 (e_L 85 (0, ei_getf eft elay 4 0 88, 0, 0)) (e_L 88 (0, ei_push (0, 4) 89, 0, 0)))) (e_T 92 (e_T 89 (e_L 89 (0, ei_if2 2 95 92, 0, 0)) (e_L 92 (0, ei_push (0, (-3)) 94, 0, 0))) (e_T 94 (e_L 94 (1, e_nof, 1, 0)) (e_L 95 (0, ei_load 0 2 96, 0, 0))))) (e_T 101 (e_T 99 (e_T 96 (e_L 96 (0, ei_getf eft elay 11 4 99, 0, 0)) (e_L 99 (0, ei_load 1 0 100, 0, 0))) (e_T 100 (e_L 100 (0, ei_load 2 0 101, 0, 0)) (e_L 101 (0, ei_load 3 0 102, 0, 0)))) (e_T 104 (e_T 102 (e_L 102 (0, ei_load 4 0 104, 0, 0)) (e_L 104 (0, ei_load 5 0 106, 0, 0))) (e_T 106 (e_L 106 (2, e_nof, 75, 6)) (e_L 109 (1, e_nof, 1, 0)))))))
set_option maxRecDepth 20000 in
set_option maxHeartbeats 4000000 in
theorem te_200_30_ok : ∀ pc, e_EOq eft cls elay eI n_200 pc (te_200_30 pc) :=
  (e_Tok2
  (e_Tok2
  (e_Tok2
  (e_Tok2
  (e_Lok (ld_iload_4 (x_dk dn_200_0_1_ok 5 rfl)))
  (e_Tok2
  (e_Lok (ld_iload_n_3 (x_dk dn_200_0_1_ok 6 rfl)))
  (e_Lok (lk_11_164 ho_200 (x_dk dn_200_0_1_ok 7 rfl)))))
  (e_Tok2
  (e_Tok2
  (e_Lok (sm_imul (x_dk dn_200_0_1_ok 8 rfl)))
  (e_Lok (sm_iadd (x_dk dn_200_0_1_ok 9 rfl))))
  (e_Tok2
  (e_Lok (lk_11_138 ho_200 (x_dk dn_200_0_1_ok 10 rfl)))
  (e_Lok (e_st (I := eI) (er_ifne (off := 5) (tg := 71) (x_dk dn_200_0_1_ok 11 rfl) (by decide)) nx_if1)))))
  (e_Tok2
  (e_Tok2
  (e_Tok2
  (e_Lok (ps_iconst_m1 (x_dk dn_200_0_1_ok 12 rfl)))
  (e_Lok (e_rt (I := eI) (k := 1) ⟨(x_dk dn_200_0_1_ok 13 rfl), rfl⟩)))
  (e_Tok2
  (e_Lok (ld_aload_n_0 (x_dk dn_200_0_1_ok 14 rfl)))
  (e_Lok (lk_11_91g ho_200 (x_dk dn_200_0_1_ok 15 rfl)))))
  (e_Tok2
  (e_Tok2
  (e_Lok (e_st (I := eI) (er_ifeq (off := 6) (tg := 81) (x_dk dn_200_0_1_ok 16 rfl) (by decide)) nx_if1))
  (e_Lok (ps_bipush_m2 (x_dk dn_200_0_1_ok 17 rfl))))
  (e_Tok2
  (e_Lok (e_rt (I := eI) (k := 1) ⟨(x_dk dn_200_0_1_ok 18 rfl), rfl⟩))
  (e_Lok (ld_aload_n_0 (x_dk dn_200_0_1_ok 19 rfl)))))))
  (e_Tok2
  (e_Tok2
  (e_Tok2
  (e_Lok (lk_11_37g ho_200 (x_dk dn_200_0_1_ok 20 rfl)))
  (e_Tok2
  (e_Lok (lk_11_167g ho_200 (x_dk dn_200_0_1_ok 21 rfl)))
  (e_Lok (ps_iconst_4 (x_dk dn_200_0_1_ok 22 rfl)))))
  (e_Tok2
  (e_Tok2
  (e_Lok (e_st (I := eI) (er_icmplt (off := 6) (tg := 95) (x_dk dn_200_0_1_ok 23 rfl) (by decide)) nx_if2))
  (e_Lok (ps_bipush_m3 (x_dk dn_200_0_1_ok 24 rfl))))
  (e_Tok2
  (e_Lok (e_rt (I := eI) (k := 1) ⟨(x_dk dn_200_0_2_ok 0 rfl), rfl⟩))
  (e_Lok (ld_aload_n_0 (x_dk dn_200_0_2_ok 1 rfl))))))
  (e_Tok2
  (e_Tok2
  (e_Tok2
  (e_Lok (lk_11_37g ho_200 (x_dk dn_200_0_2_ok 2 rfl)))
  (e_Lok (ld_iload_n_1 (x_dk dn_200_0_2_ok 3 rfl))))
  (e_Tok2
  (e_Lok (ld_iload_n_2 (x_dk dn_200_0_2_ok 4 rfl)))
  (e_Lok (ld_iload_n_3 (x_dk dn_200_0_2_ok 5 rfl)))))
  (e_Tok2
  (e_Tok2
  (e_Lok (ld_iload_4 (x_dk dn_200_0_2_ok 6 rfl)))
  (e_Lok (ld_iload_5 (x_dk dn_200_0_2_ok 7 rfl))))
  (e_Tok2
  (e_Lok (lk_11_170 ho_200 (x_dk dn_200_0_2_ok 8 rfl)))
  (e_Lok (e_rt (I := eI) (k := 1) ⟨(x_dk dn_200_0_2_ok 9 rfl), rfl⟩)))))))
def te_200 : Nat → eE := (e_T 54 te_200_0 te_200_30)
theorem te_200_ok : ∀ pc, e_EOq eft cls elay eI n_200 pc (te_200 pc) := (e_Tok2 (te_200_0_ok) (te_200_30_ok))
theorem ho_201 : (xm_y n_201).cls = "RobotCellHouse" := rfl
def dn_201_0_0 : List (Nat × Instr × Nat) := [(0, .aload_n 0, 1), (1, .iload_n 1, 1), (2, .invokevirtual 173, 3), (5, .ifCond .eq 13, 3), (8, .iload_n 2, 1), (9, .iconst 0, 1), (10, .bipush 100, 2), (12, .invokestatic 82, 3), (15, .ifCond .ne 5, 3), (18, .iconst (-1), 1), (19, .ireturn, 1), (20, .aload_n 0, 1), (21, .getfield 91, 3), (24, .ifCond .eq 6, 3), (27, .bipush (-2), 2), (29, .ireturn, 1), (30, .aload_n 0, 1), (31, .getfield 37, 3), (34, .getfield 176, 3), (37, .iload_n 1, 1), (38, .iaload, 1), (39, .istore_n 3, 1), (40, .aload_n 0, 1), (41, .getfield 37, 3), (44, .getfield 176, 3)]
set_option maxRecDepth 20000 in
theorem dn_201_0_0_ok : dn_201_0_0.all (fun q => decide (decode (xm_b n_201) q.1 = .ok (q.2.1, q.2.2))) = true := xa_g_ok (by decide +kernel)
def dn_201_0_1 : List (Nat × Instr × Nat) := [(47, .iload_n 1, 1), (48, .iload_n 2, 1), (49, .iastore, 1), (50, .iload_n 3, 1), (51, .ireturn, 1)]
set_option maxRecDepth 20000 in
theorem dn_201_0_1_ok : dn_201_0_1.all (fun q => decide (decode (xm_b n_201) q.1 = .ok (q.2.1, q.2.2))) = true := xa_g_ok (by decide +kernel)
def te_201_0 : Nat → eE := (e_T 27 (e_T 10 (e_T 2 (e_T 0 (e_L 0 (0, ei_load 0 2 1, 0, 0)) (e_T 1 (e_L 1 (0, ei_load 1 0 2, 0, 0)) (e_L 2 (2, e_nof, 248, 2)))) (e_T 8 (e_T 5 (e_L 5 (0, ei_if1 0 18 8, 0, 0)) (e_L 8 (0, ei_load 2 0 9, 0, 0))) (e_T 9 (e_L 9 (0, ei_push (0, 0) 10, 0, 0)) (e_L 10 (0, ei_push (0, 100) 12, 0, 0))))) (e_T 19 (e_T 15 (e_T 12 (e_L 12 (2, e_nof, 242, 3)) (e_L 15 (0, ei_if1 1 20 18, 0, 0))) (e_T 18 (e_L 18 (0, ei_push (0, (-1)) 19, 0, 0)) (e_L 19 (1, e_nof, 1, 0)))) (e_T 21 (e_T 20 (e_L 20 (0, ei_load 0 2 21, 0, 0)) (e_L 21 (0, ei_getf eft elay 11 13 24, 0, 0))) (e_T 24 (e_L 24 (0, ei_if1 0 30 27, 0, 0)) (e_L 27 (0, ei_push (0, (-2)) 29, 0, 0)))))) (e_T 39 (e_T 31 (e_T 29 (e_L 29 (1, e_nof, 1, 0)) (e_T 30 (e_L 30 (0, ei_load 0 2 31, 0, 0)) (e_L 31 (0, ei_getf eft elay 11 4 34, 0, 0)))) (e_T 37 (e_T 34 (e_L 34 (0, ei_getf eft elay 4 3 37, 0, 0)) (e_L 37 (0, ei_load 1 0 38, 0, 0))) (e_T 38 (e_L 38 (0, ei_ald elay false 39, 0, 0)) (e_L 39 (0, ei_stor 3 0 40, 0, 0))))) (e_T 47 (e_T 41 (e_T 40 (e_L 40 (0, ei_load 0 2 41, 0, 0)) (e_L 41 (0, ei_getf eft elay 11 4 44, 0, 0))) (e_T 44 (e_L 44 (0, ei_getf eft elay 4 3 47, 0, 0)) (e_L 47 (0, ei_load 1 0 48, 0, 0)))) (e_T 49 (e_T 48 (e_L 48 (0, ei_load 2 0 49, 0, 0)) (e_L 49 (0, ei_ast elay false 50, 0, 0))) (e_T 50 (e_L 50 (0, ei_load 3 0 51, 0, 0)) (e_L 51 (1, e_nof, 1, 0)))))))
set_option maxRecDepth 20000 in
set_option maxHeartbeats 4000000 in
theorem te_201_0_ok : ∀ pc, e_EOq eft cls elay eI n_201 pc (te_201_0 pc) :=
  (e_Tok2
  (e_Tok2
  (e_Tok2
  (e_Tok2
  (e_Lok (ld_aload_n_0 (x_dk dn_201_0_0_ok 0 rfl)))
  (e_Tok2
  (e_Lok (ld_iload_n_1 (x_dk dn_201_0_0_ok 1 rfl)))
  (e_Lok (lk_11_173 ho_201 (x_dk dn_201_0_0_ok 2 rfl)))))
  (e_Tok2
  (e_Tok2
  (e_Lok (e_st (I := eI) (er_ifeq (off := 13) (tg := 18) (x_dk dn_201_0_0_ok 3 rfl) (by decide)) nx_if1))
  (e_Lok (ld_iload_n_2 (x_dk dn_201_0_0_ok 4 rfl))))
  (e_Tok2
  (e_Lok (ps_iconst_0 (x_dk dn_201_0_0_ok 5 rfl)))
  (e_Lok (ps_bipush_100 (x_dk dn_201_0_0_ok 6 rfl))))))
  (e_Tok2
  (e_Tok2
  (e_Tok2
  (e_Lok (lk_11_82 ho_201 (x_dk dn_201_0_0_ok 7 rfl)))
  (e_Lok (e_st (I := eI) (er_ifne (off := 5) (tg := 20) (x_dk dn_201_0_0_ok 8 rfl) (by decide)) nx_if1)))
  (e_Tok2
  (e_Lok (ps_iconst_m1 (x_dk dn_201_0_0_ok 9 rfl)))
  (e_Lok (e_rt (I := eI) (k := 1) ⟨(x_dk dn_201_0_0_ok 10 rfl), rfl⟩))))
  (e_Tok2
  (e_Tok2
  (e_Lok (ld_aload_n_0 (x_dk dn_201_0_0_ok 11 rfl)))
  (e_Lok (lk_11_91g ho_201 (x_dk dn_201_0_0_ok 12 rfl))))
  (e_Tok2
  (e_Lok (e_st (I := eI) (er_ifeq (off := 6) (tg := 30) (x_dk dn_201_0_0_ok 13 rfl) (by decide)) nx_if1))
  (e_Lok (ps_bipush_m2 (x_dk dn_201_0_0_ok 14 rfl)))))))
  (e_Tok2
  (e_Tok2
  (e_Tok2
  (e_Lok (e_rt (I := eI) (k := 1) ⟨(x_dk dn_201_0_0_ok 15 rfl), rfl⟩))
  (e_Tok2
  (e_Lok (ld_aload_n_0 (x_dk dn_201_0_0_ok 16 rfl)))
  (e_Lok (lk_11_37g ho_201 (x_dk dn_201_0_0_ok 17 rfl)))))
  (e_Tok2
  (e_Tok2
  (e_Lok (lk_11_176g ho_201 (x_dk dn_201_0_0_ok 18 rfl)))
  (e_Lok (ld_iload_n_1 (x_dk dn_201_0_0_ok 19 rfl))))
  (e_Tok2
  (e_Lok (sm_iaload (x_dk dn_201_0_0_ok 20 rfl)))
  (e_Lok (e_st (I := eI) (er_istore_n (i := 3) (x_dk dn_201_0_0_ok 21 rfl) (by decide +kernel)) nx_stor)))))
  (e_Tok2
  (e_Tok2
  (e_Tok2
  (e_Lok (ld_aload_n_0 (x_dk dn_201_0_0_ok 22 rfl)))
  (e_Lok (lk_11_37g ho_201 (x_dk dn_201_0_0_ok 23 rfl))))
  (e_Tok2
  (e_Lok (lk_11_176g ho_201 (x_dk dn_201_0_0_ok 24 rfl)))
  (e_Lok (ld_iload_n_1 (x_dk dn_201_0_1_ok 0 rfl)))))
  (e_Tok2
  (e_Tok2
  (e_Lok (ld_iload_n_2 (x_dk dn_201_0_1_ok 1 rfl)))
  (e_Lok (sm_iastore (x_dk dn_201_0_1_ok 2 rfl))))
  (e_Tok2
  (e_Lok (ld_iload_n_3 (x_dk dn_201_0_1_ok 3 rfl)))
  (e_Lok (e_rt (I := eI) (k := 1) ⟨(x_dk dn_201_0_1_ok 4 rfl), rfl⟩)))))))
def te_201 : Nat → eE := te_201_0
theorem te_201_ok : ∀ pc, e_EOq eft cls elay eI n_201 pc (te_201 pc) := te_201_0_ok
theorem ho_202 : (xm_y n_202).cls = "RobotCellHouse" := rfl
def dn_202_0_0 : List (Nat × Instr × Nat) := [(0, .aload_n 0, 1), (1, .iload_n 1, 1), (2, .invokevirtual 173, 3), (5, .ifCond .eq 20, 3), (8, .iload_n 2, 1), (9, .invokestatic 178, 3), (12, .ifCond .eq 13, 3), (15, .iload_n 3, 1), (16, .ifCond .lt 9, 3), (19, .iload 4, 2), (21, .iload_n 3, 1), (22, .if_icmp .ge 5, 3), (25, .iconst (-1), 1), (26, .ireturn, 1), (27, .aload_n 0, 1), (28, .getfield 91, 3), (31, .ifCond .eq 6, 3), (34, .bipush (-2), 2), (36, .ireturn, 1), (37, .aload_n 0, 1), (38, .getfield 37, 3), (41, .getfield 181, 3), (44, .iload_n 1, 1), (45, .iload_n 2, 1), (46, .iastore, 1)]
set_option maxRecDepth 20000 in
theorem dn_202_0_0_ok : dn_202_0_0.all (fun q => decide (decode (xm_b n_202) q.1 = .ok (q.2.1, q.2.2))) = true := xa_g_ok (by decide +kernel)
def dn_202_0_1 : List (Nat × Instr × Nat) := [(47, .aload_n 0, 1), (48, .getfield 37, 3), (51, .getfield 184, 3), (54, .iload_n 1, 1), (55, .iload_n 3, 1), (56, .iastore, 1), (57, .aload_n 0, 1), (58, .getfield 37, 3), (61, .getfield 187, 3), (64, .iload_n 1, 1), (65, .iload 4, 2), (67, .iastore, 1), (68, .iconst 0, 1), (69, .ireturn, 1)]
set_option maxRecDepth 20000 in
theorem dn_202_0_1_ok : dn_202_0_1.all (fun q => decide (decode (xm_b n_202) q.1 = .ok (q.2.1, q.2.2))) = true := xa_g_ok (by decide +kernel)
def te_202_0 : Nat → eE := (e_T 36 (e_T 16 (e_T 5 (e_T 1 (e_T 0 (e_L 0 (0, ei_load 0 2 1, 0, 0)) (e_L 1 (0, ei_load 1 0 2, 0, 0))) (e_T 2 (e_L 2 (2, e_nof, 248, 2)) (e_L 5 (0, ei_if1 0 25 8, 0, 0)))) (e_T 9 (e_T 8 (e_L 8 (0, ei_load 2 0 9, 0, 0)) (e_L 9 (2, e_nof, 245, 1))) (e_T 12 (e_L 12 (0, ei_if1 0 25 15, 0, 0)) (e_T 15 (e_L 15 (0, ei_load 3 0 16, 0, 0)) (e_L 16 (0, ei_if1 2 25 19, 0, 0)))))) (e_T 26 (e_T 21 (e_T 19 (e_L 19 (0, ei_load 4 0 21, 0, 0)) (e_L 21 (0, ei_load 3 0 22, 0, 0))) (e_T 22 (e_L 22 (0, ei_if2 3 27 25, 0, 0)) (e_T 25 (e_L 25 (0, ei_push (0, (-1)) 26, 0, 0)) (e_L 26 (1, e_nof, 1, 0))))) (e_T 28 (e_T 27 (e_L 27 (0, ei_load 0 2 28, 0, 0)) (e_L 28 (0, ei_getf eft elay 11 13 31, 0, 0))) (e_T 31 (e_L 31 (0, ei_if1 0 37 34, 0, 0)) (e_T 34 (e_L 34 (0, ei_push (0, (-2)) 36, 0, 0)) (e_L 36 (1, e_nof, 1, 0))))))) (e_T 54 (e_T 45 (e_T 38 (e_T 37 (e_L 37 (0, ei_load 0 2 38, 0, 0)) (e_L 38 (0, ei_getf eft elay 11 4 41, 0, 0))) (e_T 41 (e_L 41 (0, ei_getf eft elay 4 4 44, 0, 0)) (e_T 44 (e_L 44 (0, ei_load 1 0 45, 0, 0)) (e_L 45 (0, ei_load 2 0 46, 0, 0))))) (e_T 47 (e_T 46 (e_L 46 (0, ei_ast elay false 47, 0, 0)) (e_L 47 (0, ei_load 0 2 48, 0, 0))) (e_T 48 (e_L 48 (0, ei_getf eft elay 11 4 51, 0, 0)) (e_T 51 (e_L 51 (0, ei_getf eft elay 4 5 54, 0, 0)) (e_L 54 (0, ei_load 1 0 55, 0, 0)))))) (e_T 61 (e_T 56 (e_T 55 (e_L 55 (0, ei_load 3 0 56, 0, 0)) (e_L 56 (0, ei_ast elay false 57, 0, 0))) (e_T 57 (e_L 57 (0, ei_load 0 2 58, 0, 0)) (e_T 58 (e_L 58 (0, ei_getf eft elay 11 4 61, 0, 0)) (e_L 61 (0, ei_getf eft elay 4 6 64, 0, 0))))) (e_T 65 (e_T 64 (e_L 64 (0, ei_load 1 0 65, 0, 0)) (e_L 65 (0, ei_load 4 0 67, 0, 0))) (e_T 67 (e_L 67 (0, ei_ast elay false 68, 0, 0)) (e_T 68 (e_L 68 (0, ei_push (0, 0) 69, 0, 0)) (e_L 69 (1, e_nof, 1, 0))))))))
set_option maxRecDepth 20000 in
set_option maxHeartbeats 4000000 in
theorem te_202_0_ok : ∀ pc, e_EOq eft cls elay eI n_202 pc (te_202_0 pc) :=
  (e_Tok2
  (e_Tok2
  (e_Tok2
  (e_Tok2
  (e_Tok2
  (e_Lok (ld_aload_n_0 (x_dk dn_202_0_0_ok 0 rfl)))
  (e_Lok (ld_iload_n_1 (x_dk dn_202_0_0_ok 1 rfl))))
  (e_Tok2
  (e_Lok (lk_11_173 ho_202 (x_dk dn_202_0_0_ok 2 rfl)))
  (e_Lok (e_st (I := eI) (er_ifeq (off := 20) (tg := 25) (x_dk dn_202_0_0_ok 3 rfl) (by decide)) nx_if1))))
  (e_Tok2
  (e_Tok2
  (e_Lok (ld_iload_n_2 (x_dk dn_202_0_0_ok 4 rfl)))
  (e_Lok (lk_11_178 ho_202 (x_dk dn_202_0_0_ok 5 rfl))))
  (e_Tok2
  (e_Lok (e_st (I := eI) (er_ifeq (off := 13) (tg := 25) (x_dk dn_202_0_0_ok 6 rfl) (by decide)) nx_if1))
  (e_Tok2
  (e_Lok (ld_iload_n_3 (x_dk dn_202_0_0_ok 7 rfl)))
  (e_Lok (e_st (I := eI) (er_iflt (off := 9) (tg := 25) (x_dk dn_202_0_0_ok 8 rfl) (by decide)) nx_if1))))))
  (e_Tok2
  (e_Tok2
  (e_Tok2
  (e_Lok (ld_iload_4 (x_dk dn_202_0_0_ok 9 rfl)))
  (e_Lok (ld_iload_n_3 (x_dk dn_202_0_0_ok 10 rfl))))
  (e_Tok2
  (e_Lok (e_st (I := eI) (er_icmpge (off := 5) (tg := 27) (x_dk dn_202_0_0_ok 11 rfl) (by decide)) nx_if2))
  (e_Tok2
  (e_Lok (ps_iconst_m1 (x_dk dn_202_0_0_ok 12 rfl)))
  (e_Lok (e_rt (I := eI) (k := 1) ⟨(x_dk dn_202_0_0_ok 13 rfl), rfl⟩)))))
  (e_Tok2
  (e_Tok2
  (e_Lok (ld_aload_n_0 (x_dk dn_202_0_0_ok 14 rfl)))
  (e_Lok (lk_11_91g ho_202 (x_dk dn_202_0_0_ok 15 rfl))))
  (e_Tok2
  (e_Lok (e_st (I := eI) (er_ifeq (off := 6) (tg := 37) (x_dk dn_202_0_0_ok 16 rfl) (by decide)) nx_if1))
  (e_Tok2
  (e_Lok (ps_bipush_m2 (x_dk dn_202_0_0_ok 17 rfl)))
  (e_Lok (e_rt (I := eI) (k := 1) ⟨(x_dk dn_202_0_0_ok 18 rfl), rfl⟩)))))))
  (e_Tok2
  (e_Tok2
  (e_Tok2
  (e_Tok2
  (e_Lok (ld_aload_n_0 (x_dk dn_202_0_0_ok 19 rfl)))
  (e_Lok (lk_11_37g ho_202 (x_dk dn_202_0_0_ok 20 rfl))))
  (e_Tok2
  (e_Lok (lk_11_181g ho_202 (x_dk dn_202_0_0_ok 21 rfl)))
  (e_Tok2
  (e_Lok (ld_iload_n_1 (x_dk dn_202_0_0_ok 22 rfl)))
  (e_Lok (ld_iload_n_2 (x_dk dn_202_0_0_ok 23 rfl))))))
  (e_Tok2
  (e_Tok2
  (e_Lok (sm_iastore (x_dk dn_202_0_0_ok 24 rfl)))
  (e_Lok (ld_aload_n_0 (x_dk dn_202_0_1_ok 0 rfl))))
  (e_Tok2
  (e_Lok (lk_11_37g ho_202 (x_dk dn_202_0_1_ok 1 rfl)))
  (e_Tok2
  (e_Lok (lk_11_184g ho_202 (x_dk dn_202_0_1_ok 2 rfl)))
  (e_Lok (ld_iload_n_1 (x_dk dn_202_0_1_ok 3 rfl)))))))
  (e_Tok2
  (e_Tok2
  (e_Tok2
  (e_Lok (ld_iload_n_3 (x_dk dn_202_0_1_ok 4 rfl)))
  (e_Lok (sm_iastore (x_dk dn_202_0_1_ok 5 rfl))))
  (e_Tok2
  (e_Lok (ld_aload_n_0 (x_dk dn_202_0_1_ok 6 rfl)))
  (e_Tok2
  (e_Lok (lk_11_37g ho_202 (x_dk dn_202_0_1_ok 7 rfl)))
  (e_Lok (lk_11_187g ho_202 (x_dk dn_202_0_1_ok 8 rfl))))))
  (e_Tok2
  (e_Tok2
  (e_Lok (ld_iload_n_1 (x_dk dn_202_0_1_ok 9 rfl)))
  (e_Lok (ld_iload_4 (x_dk dn_202_0_1_ok 10 rfl))))
  (e_Tok2
  (e_Lok (sm_iastore (x_dk dn_202_0_1_ok 11 rfl)))
  (e_Tok2
  (e_Lok (ps_iconst_0 (x_dk dn_202_0_1_ok 12 rfl)))
  (e_Lok (e_rt (I := eI) (k := 1) ⟨(x_dk dn_202_0_1_ok 13 rfl), rfl⟩))))))))
def te_202 : Nat → eE := te_202_0
theorem te_202_ok : ∀ pc, e_EOq eft cls elay eI n_202 pc (te_202 pc) := te_202_0_ok
end
