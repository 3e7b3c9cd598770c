noncomputable section
theorem ho_203 : (xm_y n_203).cls = "RobotCellHouse" := rfl
def dn_203_0_0 : List (Nat × Instr × Nat) := [(0, .aload_n 0, 1), (1, .iload_n 1, 1), (2, .invokevirtual 173, 3), (5, .ifCond .eq 31, 3), (8, .iload_n 2, 1), (9, .iconst 0, 1), (10, .aload_n 0, 1), (11, .getfield 37, 3), (14, .getfield 190, 3), (17, .iload_n 1, 1), (18, .iaload, 1), (19, .invokestatic 82, 3), (22, .ifCond .eq 14, 3), (25, .iload_n 3, 1), (26, .iconst 0, 1), (27, .sipush 800, 3), (30, .invokestatic 82, 3), (33, .ifCond .ne 5, 3), (36, .iconst (-1), 1), (37, .ireturn, 1), (38, .aload_n 0, 1), (39, .getfield 91, 3), (42, .ifCond .eq 6, 3), (45, .bipush (-2), 2), (47, .ireturn, 1)]
set_option maxRecDepth 20000 in
theorem dn_203_0_0_ok : dn_203_0_0.all (fun q => decide (decode (xm_b n_203) q.1 = .ok (q.2.1, q.2.2))) = true := xa_g_ok (by decide +kernel)
def dn_203_0_1 : List (Nat × Instr × Nat) := [(48, .aload_n 0, 1), (49, .getfield 37, 3), (52, .iload_n 1, 1), (53, .iload_n 2, 1), (54, .iconst 0, 1), (55, .iconst 0, 1), (56, .iload_n 3, 1), (57, .invokevirtual 192, 3), (60, .ireturn, 1)]
set_option maxRecDepth 20000 in
theorem dn_203_0_1_ok : dn_203_0_1.all (fun q => decide (decode (xm_b n_203) q.1 = .ok (q.2.1, q.2.2))) = true := xa_g_ok (by decide +kernel)
def te_203_0 : Nat → eE := (e_T 30 (e_T 11 (e_T 5 (e_T 1 (e_T 0 (e_L 0 (0, ei_load 0 2 1, 0, 0)) (e_L 1 (0, ei_load 1 0 2, 0, 0))) (e_T 2 (e_L 2 (2, e_nof, 248, 2)) (e_L 5 (0, ei_if1 0 36 8, 0, 0)))) (e_T 9 (e_T 8 (e_L 8 (0, ei_load 2 0 9, 0, 0)) (e_L 9 (0, ei_push (0, 0) 10, 0, 0))) (e_T 10 (e_L 10 (0, ei_load 0 2 11, 0, 0)) (e_L 11 (0, ei_getf eft elay 11 4 14, 0, 0))))) (e_T 19 (e_T 17 (e_T 14 (e_L 14 (0, ei_getf eft elay 4 2 17, 0, 0)) (e_L 17 (0, ei_load 1 0 18, 0, 0))) (e_T 18 (e_L 18 (0, ei_ald elay false 19, 0, 0)) (e_L 19 (2, e_nof, 242, 3)))) (e_T 25 (e_T 22 (e_L 22 (0, ei_if1 0 36 25, 0, 0)) (e_L 25 (0, ei_load 3 0 26, 0, 0))) (e_T 26 (e_L 26 (0, ei_push (0, 0) 27, 0, 0)) (e_T 27 (e_L 27 (0, ei_push (0, 800) 30, 0, 0)) (e_L 30 (2, e_nof, 242, 3))))))) (e_T 47 (e_T 38 (e_T 36 (e_T 33 (e_L 33 (0, ei_if1 1 38 36, 0, 0)) (e_L 36 (0, ei_push (0, (-1)) 37, 0, 0))) (e_T 37 (e_L 37 (1, e_nof, 1, 0)) (e_L 38 (0, ei_load 0 2 39, 0, 0)))) (e_T 42 (e_T 39 (e_L 39 (0, ei_getf eft elay 11 13 42, 0, 0)) (e_L 42 (0, ei_if1 0 48 45, 0, 0))) (e_T 45 (e_L 45 (0, ei_push (0, (-2)) 47, 0, 0)) (e_L 47 (1, e_nof, 1, 0))))) (e_T 53 (e_T 49 (e_T 48 (e_L 48 (0, ei_load 0 2 49, 0, 0)) (e_L 49 (0, ei_getf eft elay 11 4 52, 0, 0))) (e_T 52 (e_L 52 (0, ei_load 1 0 53, 0, 0)) (e_L 53 (0, ei_load 2 0 54, 0, 0)))) (e_T 55 (e_T 54 (e_L 54 (0, ei_push (0, 0) 55, 0, 0)) (e_L 55 (0, ei_push (0, 0) 56, 0, 0))) (e_T 56 (e_L 56 (0, ei_load 3 0 57, 0, 0)) (e_T 57 (e_L 57 (2, e_nof, 76, 6)) (e_L 60 (1, e_nof, 1, 0))))))))
set_option maxRecDepth 20000 in
set_option maxHeartbeats 4000000 in
theorem te_203_0_ok : ∀ pc, e_EOq eft cls elay eI n_203 pc (te_203_0 pc) :=
  (e_Tok2
  (e_Tok2
  (e_Tok2
  (e_Tok2
  (e_Tok2
  (e_Lok (ld_aload_n_0 (x_dk dn_203_0_0_ok 0 rfl)))
  (e_Lok (ld_iload_n_1 (x_dk dn_203_0_0_ok 1 rfl))))
  (e_Tok2
  (e_Lok (lk_11_173 ho_203 (x_dk dn_203_0_0_ok 2 rfl)))
  (e_Lok (e_st (I := eI) (er_ifeq (off := 31) (tg := 36) (x_dk dn_203_0_0_ok 3 rfl) (by decide)) nx_if1))))
  (e_Tok2
  (e_Tok2
  (e_Lok (ld_iload_n_2 (x_dk dn_203_0_0_ok 4 rfl)))
  (e_Lok (ps_iconst_0 (x_dk dn_203_0_0_ok 5 rfl))))
  (e_Tok2
  (e_Lok (ld_aload_n_0 (x_dk dn_203_0_0_ok 6 rfl)))
  (e_Lok (lk_11_37g ho_203 (x_dk dn_203_0_0_ok 7 rfl))))))
  (e_Tok2
  (e_Tok2
  (e_Tok2
  (e_Lok (lk_11_190g ho_203 (x_dk dn_203_0_0_ok 8 rfl)))
  (e_Lok (ld_iload_n_1 (x_dk dn_203_0_0_ok 9 rfl))))
  (e_Tok2
  (e_Lok (sm_iaload (x_dk dn_203_0_0_ok 10 rfl)))
  (e_Lok (lk_11_82 ho_203 (x_dk dn_203_0_0_ok 11 rfl)))))
  (e_Tok2
  (e_Tok2
  (e_Lok (e_st (I := eI) (er_ifeq (off := 14) (tg := 36) (x_dk dn_203_0_0_ok 12 rfl) (by decide)) nx_if1))
  (e_Lok (ld_iload_n_3 (x_dk dn_203_0_0_ok 13 rfl))))
  (e_Tok2
  (e_Lok (ps_iconst_0 (x_dk dn_203_0_0_ok 14 rfl)))
  (e_Tok2
  (e_Lok (ps_sipush_800 (x_dk dn_203_0_0_ok 15 rfl)))
  (e_Lok (lk_11_82 ho_203 (x_dk dn_203_0_0_ok 16 rfl))))))))
  (e_Tok2
  (e_Tok2
  (e_Tok2
  (e_Tok2
  (e_Lok (e_st (I := eI) (er_ifne (off := 5) (tg := 38) (x_dk dn_203_0_0_ok 17 rfl) (by decide)) nx_if1))
  (e_Lok (ps_iconst_m1 (x_dk dn_203_0_0_ok 18 rfl))))
  (e_Tok2
  (e_Lok (e_rt (I := eI) (k := 1) ⟨(x_dk dn_203_0_0_ok 19 rfl), rfl⟩))
  (e_Lok (ld_aload_n_0 (x_dk dn_203_0_0_ok 20 rfl)))))
  (e_Tok2
  (e_Tok2
  (e_Lok (lk_11_91g ho_203 (x_dk dn_203_0_0_ok 21 rfl)))
  (e_Lok (e_st (I := eI) (er_ifeq (off := 6) (tg := 48) (x_dk dn_203_0_0_ok 22 rfl) (by decide)) nx_if1)))
  (e_Tok2
  (e_Lok (ps_bipush_m2 (x_dk dn_203_0_0_ok 23 rfl)))
  (e_Lok (e_rt (I := eI) (k := 1) ⟨(x_dk dn_203_0_0_ok 24 rfl), rfl⟩)))))
  (e_Tok2
  (e_Tok2
  (e_Tok2
  (e_Lok (ld_aload_n_0 (x_dk dn_203_0_1_ok 0 rfl)))
  (e_Lok (lk_11_37g ho_203 (x_dk dn_203_0_1_ok 1 rfl))))
  (e_Tok2
  (e_Lok (ld_iload_n_1 (x_dk dn_203_0_1_ok 2 rfl)))
  (e_Lok (ld_iload_n_2 (x_dk dn_203_0_1_ok 3 rfl)))))
  (e_Tok2
  (e_Tok2
  (e_Lok (ps_iconst_0 (x_dk dn_203_0_1_ok 4 rfl)))
  (e_Lok (ps_iconst_0 (x_dk dn_203_0_1_ok 5 rfl))))
  (e_Tok2
  (e_Lok (ld_iload_n_3 (x_dk dn_203_0_1_ok 6 rfl)))
  (e_Tok2
  (e_Lok (lk_11_192 ho_203 (x_dk dn_203_0_1_ok 7 rfl)))
  (e_Lok (e_rt (I := eI) (k := 1) ⟨(x_dk dn_203_0_1_ok 8 rfl), rfl⟩))))))))
def te_203 : Nat → eE := te_203_0
theorem te_203_ok : ∀ pc, e_EOq eft cls elay eI n_203 pc (te_203 pc) := te_203_0_ok
theorem ho_204 : (xm_y n_204).cls = "RobotCellHouse" := rfl
def dn_204_0_0 : List (Nat × Instr × Nat) := [(0, .iload_n 1, 1), (1, .iload_n 2, 1), (2, .invokestatic 138, 3), (5, .ifCond .eq 14, 3), (8, .iload_n 3, 1), (9, .iconst 0, 1), (10, .sipush 800, 3), (13, .invokestatic 82, 3), (16, .ifCond .ne 5, 3), (19, .iconst (-1), 1), (20, .ireturn, 1), (21, .aload_n 0, 1), (22, .getfield 91, 3), (25, .ifCond .eq 6, 3), (28, .bipush (-2), 2), (30, .ireturn, 1), (31, .aload_n 0, 1), (32, .getfield 37, 3), (35, .bipush 8, 2), (37, .iconst 0, 1), (38, .iload_n 1, 1), (39, .iload_n 2, 1), (40, .iload_n 3, 1), (41, .invokevirtual 192, 3), (44, .ireturn, 1)]
set_option maxRecDepth 20000 in
theorem dn_204_0_0_ok : dn_204_0_0.all (fun q => decide (decode (xm_b n_204) q.1 = .ok (q.2.1, q.2.2))) = true := xa_g_ok (by decide +kernel)
def te_204_0 : Nat → eE := (e_T 21 (e_T 9 (e_T 2 (e_T 0 (e_L 0 (0, ei_load 1 0 1, 0, 0)) (e_T 1 (e_L 1 (0, ei_load 2 0 2, 0, 0)) (e_L 2 (2, e_nof, 243, 2)))) (e_T 5 (e_L 5 (0, ei_if1 0 19 8, 0, 0)) (e_T 8 (e_L 8 (0, ei_load 3 0 9, 0, 0)) (e_L 9 (0, ei_push (0, 0) 10, 0, 0))))) (e_T 16 (e_T 10 (e_L 10 (0, ei_push (0, 800) 13, 0, 0)) (e_T 13 (e_L 13 (2, e_nof, 242, 3)) (e_L 16 (0, ei_if1 1 21 19, 0, 0)))) (e_T 19 (e_L 19 (0, ei_push (0, (-1)) 20, 0, 0)) (e_T 20 (e_L 20 (1, e_nof, 1, 0)) (e_L 21 (0, ei_load 0 2 22, 0, 0)))))) (e_T 32 (e_T 28 (e_T 22 (e_L 22 (0, ei_getf eft elay 11 13 25, 0, 0)) (e_T 25 (e_L 25 (0, ei_if1 0 31 28, 0, 0)) (e_L 28 (0, ei_push (0, (-2)) 30, 0, 0)))) (e_T 30 (e_L 30 (1, e_nof, 1, 0)) (e_T 31 (e_L 31 (0, ei_load 0 2 32, 0, 0)) (e_L 32 (0, ei_getf eft elay 11 4 35, 0, 0))))) (e_T 38 (e_T 35 (e_L 35 (0, ei_push (0, 8) 37, 0, 0)) (e_T 37 (e_L 37 (0, ei_push (0, 0) 38, 0, 0)) (e_L 38 (0, ei_load 1 0 39, 0, 0)))) (e_T 40 (e_T 39 (e_L 39 (0, ei_load 2 0 40, 0, 0)) (e_L 40 (0, ei_load 3 0 41, 0, 0))) (e_T 41 (e_L 41 (2, e_nof, 76, 6)) (e_L 44 (1, e_nof, 1, 0)))))))
set_option maxRecDepth 20000 in
set_option maxHeartbeats 4000000 in
theorem te_204_0_ok : ∀ pc, e_EOq eft cls elay eI n_204 pc (te_204_0 pc) :=
  (e_Tok2
  (e_Tok2
  (e_Tok2
  (e_Tok2
  (e_Lok (ld_iload_n_1 (x_dk dn_204_0_0_ok 0 rfl)))
  (e_Tok2
  (e_Lok (ld_iload_n_2 (x_dk dn_204_0_0_ok 1 rfl)))
  (e_Lok (lk_11_138 ho_204 (x_dk dn_204_0_0_ok 2 rfl)))))
  (e_Tok2
  (e_Lok (e_st (I := eI) (er_ifeq (off := 14) (tg := 19) (x_dk dn_204_0_0_ok 3 rfl) (by decide)) nx_if1))
  (e_Tok2
  (e_Lok (ld_iload_n_3 (x_dk dn_204_0_0_ok 4 rfl)))
  (e_Lok (ps_iconst_0 (x_dk dn_204_0_0_ok 5 rfl))))))
  (e_Tok2
  (e_Tok2
  (e_Lok (ps_sipush_800 (x_dk dn_204_0_0_ok 6 rfl)))
  (e_Tok2
  (e_Lok (lk_11_82 ho_204 (x_dk dn_204_0_0_ok 7 rfl)))
  (e_Lok (e_st (I := eI) (er_ifne (off := 5) (tg := 21) (x_dk dn_204_0_0_ok 8 rfl) (by decide)) nx_if1))))
  (e_Tok2
  (e_Lok (ps_iconst_m1 (x_dk dn_204_0_0_ok 9 rfl)))
  (e_Tok2
  (e_Lok (e_rt (I := eI) (k := 1) ⟨(x_dk dn_204_0_0_ok 10 rfl), rfl⟩))
  (e_Lok (ld_aload_n_0 (x_dk dn_204_0_0_ok 11 rfl)))))))
  (e_Tok2
  (e_Tok2
  (e_Tok2
  (e_Lok (lk_11_91g ho_204 (x_dk dn_204_0_0_ok 12 rfl)))
  (e_Tok2
  (e_Lok (e_st (I := eI) (er_ifeq (off := 6) (tg := 31) (x_dk dn_204_0_0_ok 13 rfl) (by decide)) nx_if1))
  (e_Lok (ps_bipush_m2 (x_dk dn_204_0_0_ok 14 rfl)))))
  (e_Tok2
  (e_Lok (e_rt (I := eI) (k := 1) ⟨(x_dk dn_204_0_0_ok 15 rfl), rfl⟩))
  (e_Tok2
  (e_Lok (ld_aload_n_0 (x_dk dn_204_0_0_ok 16 rfl)))
  (e_Lok (lk_11_37g ho_204 (x_dk dn_204_0_0_ok 17 rfl))))))
  (e_Tok2
  (e_Tok2
  (e_Lok (ps_bipush_8 (x_dk dn_204_0_0_ok 18 rfl)))
  (e_Tok2
  (e_Lok (ps_iconst_0 (x_dk dn_204_0_0_ok 19 rfl)))
  (e_Lok (ld_iload_n_1 (x_dk dn_204_0_0_ok 20 rfl)))))
  (e_Tok2
  (e_Tok2
  (e_Lok (ld_iload_n_2 (x_dk dn_204_0_0_ok 21 rfl)))
  (e_Lok (ld_iload_n_3 (x_dk dn_204_0_0_ok 22 rfl))))
  (e_Tok2
  (e_Lok (lk_11_192 ho_204 (x_dk dn_204_0_0_ok 23 rfl)))
  (e_Lok (e_rt (I := eI) (k := 1) ⟨(x_dk dn_204_0_0_ok 24 rfl), rfl⟩)))))))
def te_204 : Nat → eE := te_204_0
theorem te_204_ok : ∀ pc, e_EOq eft cls elay eI n_204 pc (te_204 pc) := te_204_0_ok
theorem ho_205 : (xm_y n_205).cls = "RobotCellHouse" := rfl
def dn_205_0_0 : List (Nat × Instr × Nat) := [(0, .aload_n 0, 1), (1, .iload_n 1, 1), (2, .invokevirtual 103, 3), (5, .ifCond .eq 15, 3), (8, .iload_n 2, 1), (9, .iload_n 3, 1), (10, .iload 4, 2), (12, .iload 5, 2), (14, .invokestatic 145, 3), (17, .ifCond .ne 5, 3), (20, .iconst (-1), 1), (21, .ireturn, 1), (22, .aload_n 0, 1), (23, .getfield 91, 3), (26, .ifCond .eq 6, 3), (29, .bipush (-2), 2), (31, .ireturn, 1), (32, .aload_n 0, 1), (33, .getfield 46, 3), (36, .iload_n 1, 1), (37, .iload_n 2, 1), (38, .iload_n 3, 1), (39, .iload 4, 2), (41, .iload 5, 2), (43, .invokevirtual 195, 3)]
set_option maxRecDepth 20000 in
theorem dn_205_0_0_ok : dn_205_0_0.all (fun q => decide (decode (xm_b n_205) q.1 = .ok (q.2.1, q.2.2))) = true := xa_g_ok (by decide +kernel)
def dn_205_0_1 : List (Nat × Instr × Nat) := [(46, .ireturn, 1)]
set_option maxRecDepth 20000 in
theorem dn_205_0_1_ok : dn_205_0_1.all (fun q => decide (decode (xm_b n_205) q.1 = .ok (q.2.1, q.2.2))) = true := xa_g_ok (by decide +kernel)
def te_205_0 : Nat → eE := (e_T 22 (e_T 9 (e_T 2 (e_T 0 (e_L 0 (0, ei_load 0 2 1, 0, 0)) (e_T 1 (e_L 1 (0, ei_load 1 0 2, 0, 0)) (e_L 2 (2, e_nof, 246, 2)))) (e_T 5 (e_L 5 (0, ei_if1 0 20 8, 0, 0)) (e_T 8 (e_L 8 (0, ei_load 2 0 9, 0, 0)) (e_L 9 (0, ei_load 3 0 10, 0, 0))))) (e_T 14 (e_T 10 (e_L 10 (0, ei_load 4 0 12, 0, 0)) (e_T 12 (e_L 12 (0, ei_load 5 0 14, 0, 0)) (e_L 14 (2, e_nof, 244, 4)))) (e_T 20 (e_T 17 (e_L 17 (0, ei_if1 1 22 20, 0, 0)) (e_L 20 (0, ei_push (0, (-1)) 21, 0, 0))) (e_T 21 (e_L 21 (1, e_nof, 1, 0)) (e_L 22 (0, ei_load 0 2 23, 0, 0)))))) (e_T 33 (e_T 29 (e_T 23 (e_L 23 (0, ei_getf eft elay 11 13 26, 0, 0)) (e_T 26 (e_L 26 (0, ei_if1 0 32 29, 0, 0)) (e_L 29 (0, ei_push (0, (-2)) 31, 0, 0)))) (e_T 31 (e_L 31 (1, e_nof, 1, 0)) (e_T 32 (e_L 32 (0, ei_load 0 2 33, 0, 0)) (e_L 33 (0, ei_getf eft elay 11 6 36, 0, 0))))) (e_T 38 (e_T 36 (e_L 36 (0, ei_load 1 0 37, 0, 0)) (e_T 37 (e_L 37 (0, ei_load 2 0 38, 0, 0)) (e_L 38 (0, ei_load 3 0 39, 0, 0)))) (e_T 41 (e_T 39 (e_L 39 (0, ei_load 4 0 41, 0, 0)) (e_L 41 (0, ei_load 5 0 43, 0, 0))) (e_T 43 (e_L 43 (2, e_nof, 168, 6)) (e_L 46 (1, e_nof, 1, 0)))))))
set_option maxRecDepth 20000 in
set_option maxHeartbeats 4000000 in
theorem te_205_0_ok : ∀ pc, e_EOq eft cls elay eI n_205 pc (te_205_0 pc) :=
  (e_Tok2
  (e_Tok2
  (e_Tok2
  (e_Tok2
  (e_Lok (ld_aload_n_0 (x_dk dn_205_0_0_ok 0 rfl)))
  (e_Tok2
  (e_Lok (ld_iload_n_1 (x_dk dn_205_0_0_ok 1 rfl)))
  (e_Lok (lk_11_103 ho_205 (x_dk dn_205_0_0_ok 2 rfl)))))
  (e_Tok2
  (e_Lok (e_st (I := eI) (er_ifeq (off := 15) (tg := 20) (x_dk dn_205_0_0_ok 3 rfl) (by decide)) nx_if1))
  (e_Tok2
  (e_Lok (ld_iload_n_2 (x_dk dn_205_0_0_ok 4 rfl)))
  (e_Lok (ld_iload_n_3 (x_dk dn_205_0_0_ok 5 rfl))))))
  (e_Tok2
  (e_Tok2
  (e_Lok (ld_iload_4 (x_dk dn_205_0_0_ok 6 rfl)))
  (e_Tok2
  (e_Lok (ld_iload_5 (x_dk dn_205_0_0_ok 7 rfl)))
  (e_Lok (lk_11_145 ho_205 (x_dk dn_205_0_0_ok 8 rfl)))))
  (e_Tok2
  (e_Tok2
  (e_Lok (e_st (I := eI) (er_ifne (off := 5) (tg := 22) (x_dk dn_205_0_0_ok 9 rfl) (by decide)) nx_if1))
  (e_Lok (ps_iconst_m1 (x_dk dn_205_0_0_ok 10 rfl))))
  (e_Tok2
  (e_Lok (e_rt (I := eI) (k := 1) ⟨(x_dk dn_205_0_0_ok 11 rfl), rfl⟩))
  (e_Lok (ld_aload_n_0 (x_dk dn_205_0_0_ok 12 rfl)))))))
  (e_Tok2
  (e_Tok2
  (e_Tok2
  (e_Lok (lk_11_91g ho_205 (x_dk dn_205_0_0_ok 13 rfl)))
  (e_Tok2
  (e_Lok (e_st (I := eI) (er_ifeq (off := 6) (tg := 32) (x_dk dn_205_0_0_ok 14 rfl) (by decide)) nx_if1))
  (e_Lok (ps_bipush_m2 (x_dk dn_205_0_0_ok 15 rfl)))))
  (e_Tok2
  (e_Lok (e_rt (I := eI) (k := 1) ⟨(x_dk dn_205_0_0_ok 16 rfl), rfl⟩))
  (e_Tok2
  (e_Lok (ld_aload_n_0 (x_dk dn_205_0_0_ok 17 rfl)))
  (e_Lok (lk_11_46g ho_205 (x_dk dn_205_0_0_ok 18 rfl))))))
  (e_Tok2
  (e_Tok2
  (e_Lok (ld_iload_n_1 (x_dk dn_205_0_0_ok 19 rfl)))
  (e_Tok2
  (e_Lok (ld_iload_n_2 (x_dk dn_205_0_0_ok 20 rfl)))
  (e_Lok (ld_iload_n_3 (x_dk dn_205_0_0_ok 21 rfl)))))
  (e_Tok2
  (e_Tok2
  (e_Lok (ld_iload_4 (x_dk dn_205_0_0_ok 22 rfl)))
  (e_Lok (ld_iload_5 (x_dk dn_205_0_0_ok 23 rfl))))
  (e_Tok2
  (e_Lok (lk_11_195 ho_205 (x_dk dn_205_0_0_ok 24 rfl)))
  (e_Lok (e_rt (I := eI) (k := 1) ⟨(x_dk dn_205_0_1_ok 0 rfl), rfl⟩)))))))
def te_205 : Nat → eE := te_205_0
theorem te_205_ok : ∀ pc, e_EOq eft cls elay eI n_205 pc (te_205 pc) := te_205_0_ok
theorem ho_206 : (xm_y n_206).cls = "RobotCellHouse" := rfl
def dn_206_0_0 : List (Nat × Instr × Nat) := [(0, .iload_n 1, 1), (1, .iconst 0, 1), (2, .aload_n 0, 1), (3, .getfield 46, 3), (6, .getfield 198, 3), (9, .iconst 1, 1), (10, .isub, 1), (11, .invokestatic 82, 3), (14, .ifCond .eq 14, 3), (17, .iload_n 2, 1), (18, .iconst (-1), 1), (19, .sipush 32000, 3), (22, .invokestatic 82, 3), (25, .ifCond .ne 5, 3), (28, .iconst (-1), 1), (29, .ireturn, 1), (30, .aload_n 0, 1), (31, .getfield 91, 3), (34, .ifCond .eq 6, 3), (37, .bipush (-2), 2), (39, .ireturn, 1), (40, .aload_n 0, 1), (41, .getfield 46, 3), (44, .getfield 201, 3), (47, .iload_n 1, 1)]
set_option maxRecDepth 20000 in
theorem dn_206_0_0_ok : dn_206_0_0.all (fun q => decide (decode (xm_b n_206) q.1 = .ok (q.2.1, q.2.2))) = true := xa_g_ok (by decide +kernel)
def dn_206_0_1 : List (Nat × Instr × Nat) := [(48, .iaload, 1), (49, .istore_n 3, 1), (50, .aload_n 0, 1), (51, .getfield 46, 3), (54, .getfield 201, 3), (57, .iload_n 1, 1), (58, .iload_n 2, 1), (59, .iastore, 1), (60, .iload_n 3, 1), (61, .ireturn, 1)]
set_option maxRecDepth 20000 in
theorem dn_206_0_1_ok : dn_206_0_1.all (fun q => decide (decode (xm_b n_206) q.1 = .ok (q.2.1, q.2.2))) = true := xa_g_ok (by decide +kernel)
def te_206_0 : Nat → eE := (e_T 30 (e_T 11 (e_T 3 (e_T 1 (e_T 0 (e_L 0 (0, ei_load 1 0 1, 0, 0)) (e_L 1 (0, ei_push (0, 0) 2, 0, 0))) (e_T 2 (e_L 2 (0, ei_load 0 2 3, 0, 0)) (e_L 3 (0, ei_getf eft elay 11 6 6, 0, 0)))) (e_T 9 (e_T 6 (e_L 6 (0, ei_getf eft elay 9 1 9, 0, 0)) (e_L 9 (0, ei_push (0, 1) 10, 0, 0))) (e_T 10 (e_L 10 (0, ei_bin eF_sub 11, 0, 0)) (e_L 11 (2, e_nof, 242, 3))))) (e_T 19 (e_T 17 (e_T 14 (e_L 14 (0, ei_if1 0 28 17, 0, 0)) (e_L 17 (0, ei_load 2 0 18, 0, 0))) (e_T 18 (e_L 18 (0, ei_push (0, (-1)) 19, 0, 0)) (e_L 19 (0, ei_push (0, 32000) 22, 0, 0)))) (e_T 25 (e_T 22 (e_L 22 (2, e_nof, 242, 3)) (e_L 25 (0, ei_if1 1 30 28, 0, 0))) (e_T 28 (e_L 28 (0, ei_push (0, (-1)) 29, 0, 0)) (e_T 29 (e_L 29 (1, e_nof, 1, 0)) (e_L 30 (0, ei_load 0 2 31, 0, 0))))))) (e_T 48 (e_T 39 (e_T 34 (e_T 31 (e_L 31 (0, ei_getf eft elay 11 13 34, 0, 0)) (e_L 34 (0, ei_if1 0 40 37, 0, 0))) (e_T 37 (e_L 37 (0, ei_push (0, (-2)) 39, 0, 0)) (e_L 39 (1, e_nof, 1, 0)))) (e_T 41 (e_T 40 (e_L 40 (0, ei_load 0 2 41, 0, 0)) (e_L 41 (0, ei_getf eft elay 11 6 44, 0, 0))) (e_T 44 (e_L 44 (0, ei_getf eft elay 9 8 47, 0, 0)) (e_T 47 (e_L 47 (0, ei_load 1 0 48, 0, 0)) (e_L 48 (0, ei_ald elay false 49, 0, 0)))))) (e_T 54 (e_T 50 (e_T 49 (e_L 49 (0, ei_stor 3 0 50, 0, 0)) (e_L 50 (0, ei_load 0 2 51, 0, 0))) (e_T 51 (e_L 51 (0, ei_getf eft elay 11 6 54, 0, 0)) (e_L 54 (0, ei_getf eft elay 9 8 57, 0, 0)))) (e_T 58 (e_T 57 (e_L 57 (0, ei_load 1 0 58, 0, 0)) (e_L 58 (0, ei_load 2 0 59, 0, 0))) (e_T 59 (e_L 59 (0, ei_ast elay false 60, 0, 0)) (e_T 60 (e_L 60 (0, ei_load 3 0 61, 0, 0)) (e_L 61 (1, e_nof, 1, 0))))))))
set_option maxRecDepth 20000 in
set_option maxHeartbeats 4000000 in
theorem te_206_0_ok : ∀ pc, e_EOq eft cls elay eI n_206 pc (te_206_0 pc) :=
  (e_Tok2
  (e_Tok2
  (e_Tok2
  (e_Tok2
  (e_Tok2
  (e_Lok (ld_iload_n_1 (x_dk dn_206_0_0_ok 0 rfl)))
  (e_Lok (ps_iconst_0 (x_dk dn_206_0_0_ok 1 rfl))))
  (e_Tok2
  (e_Lok (ld_aload_n_0 (x_dk dn_206_0_0_ok 2 rfl)))
  (e_Lok (lk_11_46g ho_206 (x_dk dn_206_0_0_ok 3 rfl)))))
  (e_Tok2
  (e_Tok2
  (e_Lok (lk_11_198g ho_206 (x_dk dn_206_0_0_ok 4 rfl)))
  (e_Lok (ps_iconst_1 (x_dk dn_206_0_0_ok 5 rfl))))
  (e_Tok2
  (e_Lok (sm_isub (x_dk dn_206_0_0_ok 6 rfl)))
  (e_Lok (lk_11_82 ho_206 (x_dk dn_206_0_0_ok 7 rfl))))))
  (e_Tok2
  (e_Tok2
  (e_Tok2
  (e_Lok (e_st (I := eI) (er_ifeq (off := 14) (tg := 28) (x_dk dn_206_0_0_ok 8 rfl) (by decide)) nx_if1))
  (e_Lok (ld_iload_n_2 (x_dk dn_206_0_0_ok 9 rfl))))
  (e_Tok2
  (e_Lok (ps_iconst_m1 (x_dk dn_206_0_0_ok 10 rfl)))
  (e_Lok (ps_sipush_32000 (x_dk dn_206_0_0_ok 11 rfl)))))
  (e_Tok2
  (e_Tok2
  (e_Lok (lk_11_82 ho_206 (x_dk dn_206_0_0_ok 12 rfl)))
  (e_Lok (e_st (I := eI) (er_ifne (off := 5) (tg := 30) (x_dk dn_206_0_0_ok 13 rfl) (by decide)) nx_if1)))
  (e_Tok2
  (e_Lok (ps_iconst_m1 (x_dk dn_206_0_0_ok 14 rfl)))
  (e_Tok2
  (e_Lok (e_rt (I := eI) (k := 1) ⟨(x_dk dn_206_0_0_ok 15 rfl), rfl⟩))
  (e_Lok (ld_aload_n_0 (x_dk dn_206_0_0_ok 16 rfl))))))))
  (e_Tok2
  (e_Tok2
  (e_Tok2
  (e_Tok2
  (e_Lok (lk_11_91g ho_206 (x_dk dn_206_0_0_ok 17 rfl)))
  (e_Lok (e_st (I := eI) (er_ifeq (off := 6) (tg := 40) (x_dk dn_206_0_0_ok 18 rfl) (by decide)) nx_if1)))
  (e_Tok2
  (e_Lok (ps_bipush_m2 (x_dk dn_206_0_0_ok 19 rfl)))
  (e_Lok (e_rt (I := eI) (k := 1) ⟨(x_dk dn_206_0_0_ok 20 rfl), rfl⟩))))
  (e_Tok2
  (e_Tok2
  (e_Lok (ld_aload_n_0 (x_dk dn_206_0_0_ok 21 rfl)))
  (e_Lok (lk_11_46g ho_206 (x_dk dn_206_0_0_ok 22 rfl))))
  (e_Tok2
  (e_Lok (lk_11_201g ho_206 (x_dk dn_206_0_0_ok 23 rfl)))
  (e_Tok2
  (e_Lok (ld_iload_n_1 (x_dk dn_206_0_0_ok 24 rfl)))
  (e_Lok (sm_iaload (x_dk dn_206_0_1_ok 0 rfl)))))))
  (e_Tok2
  (e_Tok2
  (e_Tok2
  (e_Lok (e_st (I := eI) (er_istore_n (i := 3) (x_dk dn_206_0_1_ok 1 rfl) (by decide +kernel)) nx_stor))
  (e_Lok (ld_aload_n_0 (x_dk dn_206_0_1_ok 2 rfl))))
  (e_Tok2
  (e_Lok (lk_11_46g ho_206 (x_dk dn_206_0_1_ok 3 rfl)))
  (e_Lok (lk_11_201g ho_206 (x_dk dn_206_0_1_ok 4 rfl)))))
  (e_Tok2
  (e_Tok2
  (e_Lok (ld_iload_n_1 (x_dk dn_206_0_1_ok 5 rfl)))
  (e_Lok (ld_iload_n_2 (x_dk dn_206_0_1_ok 6 rfl))))
  (e_Tok2
  (e_Lok (sm_iastore (x_dk dn_206_0_1_ok 7 rfl)))
  (e_Tok2
  (e_Lok (ld_iload_n_3 (x_dk dn_206_0_1_ok 8 rfl)))
  (e_Lok (e_rt (I := eI) (k := 1) ⟨(x_dk dn_206_0_1_ok 9 rfl), rfl⟩))))))))
def te_206 : Nat → eE := te_206_0
theorem te_206_ok : ∀ pc, e_EOq eft cls elay eI n_206 pc (te_206 pc) := te_206_0_ok
theorem ho_207 : (xm_y n_207).cls = "RobotCellHouse" := rfl
def dn_207_0_0 : List (Nat × Instr × Nat) := [(0, .iload_n 1, 1), (1, .iconst 0, 1), (2, .sipush 1000, 3), (5, .invokestatic 82, 3), (8, .ifCond .ne 5, 3), (11, .iconst (-1), 1), (12, .ireturn, 1), (13, .aload_n 0, 1), (14, .getfield 91, 3), (17, .ifCond .eq 6, 3), (20, .bipush (-2), 2), (22, .ireturn, 1), (23, .aload_n 0, 1), (24, .getfield 42, 3), (27, .getfield 204, 3), (30, .bipush 8, 2), (32, .if_icmp .lt 6, 3), (35, .bipush (-3), 2), (37, .ireturn, 1), (38, .aload_n 0, 1), (39, .getfield 42, 3), (42, .getfield 207, 3), (45, .aload_n 0, 1), (46, .getfield 42, 3), (49, .getfield 204, 3)]
set_option maxRecDepth 20000 in
theorem dn_207_0_0_ok : dn_207_0_0.all (fun q => decide (decode (xm_b n_207) q.1 = .ok (q.2.1, q.2.2))) = true := xa_g_ok (by decide +kernel)
def dn_207_0_1 : List (Nat × Instr × Nat) := [(52, .iload_n 1, 1), (53, .iastore, 1), (54, .aload_n 0, 1), (55, .getfield 42, 3), (58, .dup, 1), (59, .getfield 204, 3), (62, .iconst 1, 1), (63, .iadd, 1), (64, .putfield 204, 3), (67, .aload_n 0, 1), (68, .getfield 42, 3), (71, .getfield 204, 3), (74, .iconst 1, 1), (75, .isub, 1), (76, .ireturn, 1)]
set_option maxRecDepth 20000 in
theorem dn_207_0_1_ok : dn_207_0_1.all (fun q => decide (decode (xm_b n_207) q.1 = .ok (q.2.1, q.2.2))) = true := xa_g_ok (by decide +kernel)
def te_207_0 : Nat → eE := (e_T 38 (e_T 17 (e_T 8 (e_T 1 (e_T 0 (e_L 0 (0, ei_load 1 0 1, 0, 0)) (e_L 1 (0, ei_push (0, 0) 2, 0, 0))) (e_T 2 (e_L 2 (0, ei_push (0, 1000) 5, 0, 0)) (e_T 5 (e_L 5 (2, e_nof, 242, 3)) (e_L 8 (0, ei_if1 1 13 11, 0, 0))))) (e_T 12 (e_T 11 (e_L 11 (0, ei_push (0, (-1)) 12, 0, 0)) (e_L 12 (1, e_nof, 1, 0))) (e_T 13 (e_L 13 (0, ei_load 0 2 14, 0, 0)) (e_T 14 (e_L 14 (0, ei_getf eft elay 11 13 17, 0, 0)) (e_L 17 (0, ei_if1 0 23 20, 0, 0)))))) (e_T 27 (e_T 22 (e_T 20 (e_L 20 (0, ei_push (0, (-2)) 22, 0, 0)) (e_L 22 (1, e_nof, 1, 0))) (e_T 23 (e_L 23 (0, ei_load 0 2 24, 0, 0)) (e_T 24 (e_L 24 (0, ei_getf eft elay 11 5 27, 0, 0)) (e_L 27 (0, ei_getf eft elay 2 2 30, 0, 0))))) (e_T 32 (e_T 30 (e_L 30 (0, ei_push (0, 8) 32, 0, 0)) (e_L 32 (0, ei_if2 2 38 35, 0, 0))) (e_T 35 (e_L 35 (0, ei_push (0, (-3)) 37, 0, 0)) (e_T 37 (e_L 37 (1, e_nof, 1, 0)) (e_L 38 (0, ei_load 0 2 39, 0, 0))))))) (e_T 58 (e_T 49 (e_T 42 (e_T 39 (e_L 39 (0, ei_getf eft elay 11 5 42, 0, 0)) (e_L 42 (0, ei_getf eft elay 2 9 45, 0, 0))) (e_T 45 (e_L 45 (0, ei_load 0 2 46, 0, 0)) (e_T 46 (e_L 46 (0, ei_getf eft elay 11 5 49, 0, 0)) (e_L 49 (0, ei_getf eft elay 2 2 52, 0, 0))))) (e_T 53 (e_T 52 (e_L 52 (0, ei_load 1 0 53, 0, 0)) (e_L 53 (0, ei_ast elay false 54, 0, 0))) (e_T 54 (e_L 54 (0, ei_load 0 2 55, 0, 0)) (e_T 55 (e_L 55 (0, ei_getf eft elay 11 5 58, 0, 0)) (e_L 58 (0, ei_stk ef_dup 59, 0, 0)))))) (e_T 67 (e_T 62 (e_T 59 (e_L 59 (0, ei_getf eft elay 2 2 62, 0, 0)) (e_L 62 (0, ei_push (0, 1) 63, 0, 0))) (e_T 63 (e_L 63 (0, ei_bin eF_add 64, 0, 0)) (e_T 64 (e_L 64 (0, ei_putf eft elay 2 2 0 67, 0, 0)) (e_L 67 (0, ei_load 0 2 68, 0, 0))))) (e_T 71 (e_T 68 (e_L 68 (0, ei_getf eft elay 11 5 71, 0, 0)) (e_L 71 (0, ei_getf eft elay 2 2 74, 0, 0))) (e_T 74 (e_L 74 (0, ei_push (0, 1) 75, 0, 0)) (e_T 75 (e_L 75 (0, ei_bin eF_sub 76, 0, 0)) (e_L 76 (1, e_nof, 1, 0))))))))
set_option maxRecDepth 20000 in
set_option maxHeartbeats 4000000 in
theorem te_207_0_ok : ∀ pc, e_EOq eft cls elay eI n_207 pc (te_207_0 pc) :=
  (e_Tok2
  (e_Tok2
  (e_Tok2
  (e_Tok2
  (e_Tok2
  (e_Lok (ld_iload_n_1 (x_dk dn_207_0_0_ok 0 rfl)))
  (e_Lok (ps_iconst_0 (x_dk dn_207_0_0_ok 1 rfl))))
  (e_Tok2
  (e_Lok (ps_sipush_1000 (x_dk dn_207_0_0_ok 2 rfl)))
  (e_Tok2
  (e_Lok (lk_11_82 ho_207 (x_dk dn_207_0_0_ok 3 rfl)))
  (e_Lok (e_st (I := eI) (er_ifne (off := 5) (tg := 13) (x_dk dn_207_0_0_ok 4 rfl) (by decide)) nx_if1)))))
  (e_Tok2
  (e_Tok2
  (e_Lok (ps_iconst_m1 (x_dk dn_207_0_0_ok 5 rfl)))
  (e_Lok (e_rt (I := eI) (k := 1) ⟨(x_dk dn_207_0_0_ok 6 rfl), rfl⟩)))
  (e_Tok2
  (e_Lok (ld_aload_n_0 (x_dk dn_207_0_0_ok 7 rfl)))
  (e_Tok2
  (e_Lok (lk_11_91g ho_207 (x_dk dn_207_0_0_ok 8 rfl)))
  (e_Lok (e_st (I := eI) (er_ifeq (off := 6) (tg := 23) (x_dk dn_207_0_0_ok 9 rfl) (by decide)) nx_if1))))))
  (e_Tok2
  (e_Tok2
  (e_Tok2
  (e_Lok (ps_bipush_m2 (x_dk dn_207_0_0_ok 10 rfl)))
  (e_Lok (e_rt (I := eI) (k := 1) ⟨(x_dk dn_207_0_0_ok 11 rfl), rfl⟩)))
  (e_Tok2
  (e_Lok (ld_aload_n_0 (x_dk dn_207_0_0_ok 12 rfl)))
  (e_Tok2
  (e_Lok (lk_11_42g ho_207 (x_dk dn_207_0_0_ok 13 rfl)))
  (e_Lok (lk_11_204g ho_207 (x_dk dn_207_0_0_ok 14 rfl))))))
  (e_Tok2
  (e_Tok2
  (e_Lok (ps_bipush_8 (x_dk dn_207_0_0_ok 15 rfl)))
  (e_Lok (e_st (I := eI) (er_icmplt (off := 6) (tg := 38) (x_dk dn_207_0_0_ok 16 rfl) (by decide)) nx_if2)))
  (e_Tok2
  (e_Lok (ps_bipush_m3 (x_dk dn_207_0_0_ok 17 rfl)))
  (e_Tok2
  (e_Lok (e_rt (I := eI) (k := 1) ⟨(x_dk dn_207_0_0_ok 18 rfl), rfl⟩))
  (e_Lok (ld_aload_n_0 (x_dk dn_207_0_0_ok 19 rfl))))))))
  (e_Tok2
  (e_Tok2
  (e_Tok2
  (e_Tok2
  (e_Lok (lk_11_42g ho_207 (x_dk dn_207_0_0_ok 20 rfl)))
  (e_Lok (lk_11_207g ho_207 (x_dk dn_207_0_0_ok 21 rfl))))
  (e_Tok2
  (e_Lok (ld_aload_n_0 (x_dk dn_207_0_0_ok 22 rfl)))
  (e_Tok2
  (e_Lok (lk_11_42g ho_207 (x_dk dn_207_0_0_ok 23 rfl)))
  (e_Lok (lk_11_204g ho_207 (x_dk dn_207_0_0_ok 24 rfl))))))
  (e_Tok2
  (e_Tok2
  (e_Lok (ld_iload_n_1 (x_dk dn_207_0_1_ok 0 rfl)))
  (e_Lok (sm_iastore (x_dk dn_207_0_1_ok 1 rfl))))
  (e_Tok2
  (e_Lok (ld_aload_n_0 (x_dk dn_207_0_1_ok 2 rfl)))
  (e_Tok2
  (e_Lok (lk_11_42g ho_207 (x_dk dn_207_0_1_ok 3 rfl)))
  (e_Lok (e_st (I := eI) (er_dup (x_dk dn_207_0_1_ok 4 rfl)) (nx_stk bf_dup)))))))
  (e_Tok2
  (e_Tok2
  (e_Tok2
  (e_Lok (lk_11_204g ho_207 (x_dk dn_207_0_1_ok 5 rfl)))
  (e_Lok (ps_iconst_1 (x_dk dn_207_0_1_ok 6 rfl))))
  (e_Tok2
  (e_Lok (sm_iadd (x_dk dn_207_0_1_ok 7 rfl)))
  (e_Tok2
  (e_Lok (lk_11_204p ho_207 (x_dk dn_207_0_1_ok 8 rfl)))
  (e_Lok (ld_aload_n_0 (x_dk dn_207_0_1_ok 9 rfl))))))
  (e_Tok2
  (e_Tok2
  (e_Lok (lk_11_42g ho_207 (x_dk dn_207_0_1_ok 10 rfl)))
  (e_Lok (lk_11_204g ho_207 (x_dk dn_207_0_1_ok 11 rfl))))
  (e_Tok2
  (e_Lok (ps_iconst_1 (x_dk dn_207_0_1_ok 12 rfl)))
  (e_Tok2
  (e_Lok (sm_isub (x_dk dn_207_0_1_ok 13 rfl)))
  (e_Lok (e_rt (I := eI) (k := 1) ⟨(x_dk dn_207_0_1_ok 14 rfl), rfl⟩))))))))
def te_207 : Nat → eE := te_207_0
theorem te_207_ok : ∀ pc, e_EOq eft cls elay eI n_207 pc (te_207 pc) := te_207_0_ok
theorem ho_208 : (xm_y n_208).cls = "RobotCellHouse" := rfl
def dn_208_0_0 : List (Nat × Instr × Nat) := [(0, .iload_n 1, 1), (1, .iconst 0, 1), (2, .bipush 7, 2), (4, .invokestatic 82, 3), (7, .ifCond .ne 5, 3), (10, .iconst (-1), 1), (11, .ireturn, 1), (12, .aload_n 0, 1), (13, .getfield 91, 3), (16, .ifCond .eq 6, 3), (19, .bipush (-2), 2), (21, .ireturn, 1), (22, .aload_n 0, 1), (23, .getfield 42, 3), (26, .getfield 210, 3), (29, .iload_n 1, 1), (30, .iload_n 2, 1), (31, .bastore, 1), (32, .iconst 0, 1), (33, .ireturn, 1)]
set_option maxRecDepth 20000 in
theorem dn_208_0_0_ok : dn_208_0_0.all (fun q => decide (decode (xm_b n_208) q.1 = .ok (q.2.1, q.2.2))) = true := xa_g_ok (by decide +kernel)
def te_208_0 : Nat → eE := (e_T 16 (e_T 7 (e_T 1 (e_T 0 (e_L 0 (0, ei_load 1 0 1, 0, 0)) (e_L 1 (0, ei_push (0, 0) 2, 0, 0))) (e_T 2 (e_L 2 (0, ei_push (0, 7) 4, 0, 0)) (e_T 4 (e_L 4 (2, e_nof, 242, 3)) (e_L 7 (0, ei_if1 1 12 10, 0, 0))))) (e_T 11 (e_T 10 (e_L 10 (0, ei_push (0, (-1)) 11, 0, 0)) (e_L 11 (1, e_nof, 1, 0))) (e_T 12 (e_L 12 (0, ei_load 0 2 13, 0, 0)) (e_T 13 (e_L 13 (0, ei_getf eft elay 11 13 16, 0, 0)) (e_L 16 (0, ei_if1 0 22 19, 0, 0)))))) (e_T 26 (e_T 21 (e_T 19 (e_L 19 (0, ei_push (0, (-2)) 21, 0, 0)) (e_L 21 (1, e_nof, 1, 0))) (e_T 22 (e_L 22 (0, ei_load 0 2 23, 0, 0)) (e_T 23 (e_L 23 (0, ei_getf eft elay 11 5 26, 0, 0)) (e_L 26 (0, ei_getf eft elay 2 10 29, 0, 0))))) (e_T 30 (e_T 29 (e_L 29 (0, ei_load 1 0 30, 0, 0)) (e_L 30 (0, ei_load 2 0 31, 0, 0))) (e_T 31 (e_L 31 (0, ei_ast elay true 32, 0, 0)) (e_T 32 (e_L 32 (0, ei_push (0, 0) 33, 0, 0)) (e_L 33 (1, e_nof, 1, 0)))))))
set_option maxRecDepth 20000 in
set_option maxHeartbeats 4000000 in
theorem te_208_0_ok : ∀ pc, e_EOq eft cls elay eI n_208 pc (te_208_0 pc) :=
  (e_Tok2
  (e_Tok2
  (e_Tok2
  (e_Tok2
  (e_Lok (ld_iload_n_1 (x_dk dn_208_0_0_ok 0 rfl)))
  (e_Lok (ps_iconst_0 (x_dk dn_208_0_0_ok 1 rfl))))
  (e_Tok2
  (e_Lok (ps_bipush_7 (x_dk dn_208_0_0_ok 2 rfl)))
  (e_Tok2
  (e_Lok (lk_11_82 ho_208 (x_dk dn_208_0_0_ok 3 rfl)))
  (e_Lok (e_st (I := eI) (er_ifne (off := 5) (tg := 12) (x_dk dn_208_0_0_ok 4 rfl) (by decide)) nx_if1)))))
  (e_Tok2
  (e_Tok2
  (e_Lok (ps_iconst_m1 (x_dk dn_208_0_0_ok 5 rfl)))
  (e_Lok (e_rt (I := eI) (k := 1) ⟨(x_dk dn_208_0_0_ok 6 rfl), rfl⟩)))
  (e_Tok2
  (e_Lok (ld_aload_n_0 (x_dk dn_208_0_0_ok 7 rfl)))
  (e_Tok2
  (e_Lok (lk_11_91g ho_208 (x_dk dn_208_0_0_ok 8 rfl)))
  (e_Lok (e_st (I := eI) (er_ifeq (off := 6) (tg := 22) (x_dk dn_208_0_0_ok 9 rfl) (by decide)) nx_if1))))))
  (e_Tok2
  (e_Tok2
  (e_Tok2
  (e_Lok (ps_bipush_m2 (x_dk dn_208_0_0_ok 10 rfl)))
  (e_Lok (e_rt (I := eI) (k := 1) ⟨(x_dk dn_208_0_0_ok 11 rfl), rfl⟩)))
  (e_Tok2
  (e_Lok (ld_aload_n_0 (x_dk dn_208_0_0_ok 12 rfl)))
  (e_Tok2
  (e_Lok (lk_11_42g ho_208 (x_dk dn_208_0_0_ok 13 rfl)))
  (e_Lok (lk_11_210g ho_208 (x_dk dn_208_0_0_ok 14 rfl))))))
  (e_Tok2
  (e_Tok2
  (e_Lok (ld_iload_n_1 (x_dk dn_208_0_0_ok 15 rfl)))
  (e_Lok (ld_iload_n_2 (x_dk dn_208_0_0_ok 16 rfl))))
  (e_Tok2
  (e_Lok (e_st (I := eI) (er_bastore (x_dk dn_208_0_0_ok 17 rfl)) nx_ast))
  (e_Tok2
  (e_Lok (ps_iconst_0 (x_dk dn_208_0_0_ok 18 rfl)))
  (e_Lok (e_rt (I := eI) (k := 1) ⟨(x_dk dn_208_0_0_ok 19 rfl), rfl⟩)))))))
def te_208 : Nat → eE := te_208_0
theorem te_208_ok : ∀ pc, e_EOq eft cls elay eI n_208 pc (te_208 pc) := te_208_0_ok
theorem ho_209 : (xm_y n_209).cls = "RobotCellHouse" := rfl
def dn_209_0_0 : List (Nat × Instr × Nat) := [(0, .iload_n 1, 1), (1, .invokestatic 178, 3), (4, .ifCond .eq 10, 3), (7, .iload_n 2, 1), (8, .invokestatic 178, 3), (11, .ifCond .ne 5, 3), (14, .iconst (-1), 1), (15, .ireturn, 1), (16, .aload_n 0, 1), (17, .getfield 91, 3), (20, .ifCond .ne 15, 3), (23, .aload_n 0, 1), (24, .getfield 32, 3), (27, .iload_n 1, 1), (28, .iload_n 2, 1), (29, .invokevirtual 214, 3), (32, .ifCond .ne 6, 3), (35, .bipush (-2), 2), (37, .ireturn, 1), (38, .aload_n 0, 1), (39, .getfield 32, 3), (42, .iload_n 1, 1), (43, .iload_n 2, 1), (44, .iload_n 3, 1), (45, .invokevirtual 219, 3)]
set_option maxRecDepth 20000 in
theorem dn_209_0_0_ok : dn_209_0_0.all (fun q => decide (decode (xm_b n_209) q.1 = .ok (q.2.1, q.2.2))) = true := xa_g_ok (by decide +kernel)
def dn_209_0_1 : List (Nat × Instr × Nat) := [(48, .iconst 0, 1), (49, .ireturn, 1)]
set_option maxRecDepth 20000 in
theorem dn_209_0_1_ok : dn_209_0_1.all (fun q => decide (decode (xm_b n_209) q.1 = .ok (q.2.1, q.2.2))) = true := xa_g_ok (by decide +kernel)
def te_209_0 : Nat → eE := (e_T 24 (e_T 11 (e_T 4 (e_T 0 (e_L 0 (0, ei_load 1 0 1, 0, 0)) (e_T 1 (e_L 1 (2, e_nof, 245, 1)) (e_L 4 (0, ei_if1 0 14 7, 0, 0)))) (e_T 7 (e_L 7 (0, ei_load 2 0 8, 0, 0)) (e_T 8 (e_L 8 (2, e_nof, 245, 1)) (e_L 11 (0, ei_if1 1 16 14, 0, 0))))) (e_T 16 (e_T 14 (e_L 14 (0, ei_push (0, (-1)) 15, 0, 0)) (e_T 15 (e_L 15 (1, e_nof, 1, 0)) (e_L 16 (0, ei_load 0 2 17, 0, 0)))) (e_T 20 (e_T 17 (e_L 17 (0, ei_getf eft elay 11 13 20, 0, 0)) (e_L 20 (0, ei_if1 1 35 23, 0, 0))) (e_T 23 (e_L 23 (0, ei_load 0 2 24, 0, 0)) (e_L 24 (0, ei_getf eft elay 11 3 27, 0, 0)))))) (e_T 38 (e_T 29 (e_T 27 (e_L 27 (0, ei_load 1 0 28, 0, 0)) (e_T 28 (e_L 28 (0, ei_load 2 0 29, 0, 0)) (e_L 29 (2, e_nof, 111, 3)))) (e_T 35 (e_T 32 (e_L 32 (0, ei_if1 1 38 35, 0, 0)) (e_L 35 (0, ei_push (0, (-2)) 37, 0, 0))) (e_T 37 (e_L 37 (1, e_nof, 1, 0)) (e_L 38 (0, ei_load 0 2 39, 0, 0))))) (e_T 43 (e_T 39 (e_L 39 (0, ei_getf eft elay 11 3 42, 0, 0)) (e_T 42 (e_L 42 (0, ei_load 1 0 43, 0, 0)) (e_L 43 (0, ei_load 2 0 44, 0, 0)))) (e_T 45 (e_T 44 (e_L 44 (0, ei_load 3 0 45, 0, 0)) (e_L 45 (2, e_nof, 112, 4))) (e_T 48 (e_L 48 (0, ei_push (0, 0) 49, 0, 0)) (e_L 49 (1, e_nof, 1, 0)))))))
set_option maxRecDepth 20000 in
set_option maxHeartbeats 4000000 in
theorem te_209_0_ok : ∀ pc, e_EOq eft cls elay eI n_209 pc (te_209_0 pc) :=
  (e_Tok2
  (e_Tok2
  (e_Tok2
  (e_Tok2
  (e_Lok (ld_iload_n_1 (x_dk dn_209_0_0_ok 0 rfl)))
  (e_Tok2
  (e_Lok (lk_11_178 ho_209 (x_dk dn_209_0_0_ok 1 rfl)))
  (e_Lok (e_st (I := eI) (er_ifeq (off := 10) (tg := 14) (x_dk dn_209_0_0_ok 2 rfl) (by decide)) nx_if1))))
  (e_Tok2
  (e_Lok (ld_iload_n_2 (x_dk dn_209_0_0_ok 3 rfl)))
  (e_Tok2
  (e_Lok (lk_11_178 ho_209 (x_dk dn_209_0_0_ok 4 rfl)))
  (e_Lok (e_st (I := eI) (er_ifne (off := 5) (tg := 16) (x_dk dn_209_0_0_ok 5 rfl) (by decide)) nx_if1)))))
  (e_Tok2
  (e_Tok2
  (e_Lok (ps_iconst_m1 (x_dk dn_209_0_0_ok 6 rfl)))
  (e_Tok2
  (e_Lok (e_rt (I := eI) (k := 1) ⟨(x_dk dn_209_0_0_ok 7 rfl), rfl⟩))
  (e_Lok (ld_aload_n_0 (x_dk dn_209_0_0_ok 8 rfl)))))
  (e_Tok2
  (e_Tok2
  (e_Lok (lk_11_91g ho_209 (x_dk dn_209_0_0_ok 9 rfl)))
  (e_Lok (e_st (I := eI) (er_ifne (off := 15) (tg := 35) (x_dk dn_209_0_0_ok 10 rfl) (by decide)) nx_if1)))
  (e_Tok2
  (e_Lok (ld_aload_n_0 (x_dk dn_209_0_0_ok 11 rfl)))
  (e_Lok (lk_11_32g ho_209 (x_dk dn_209_0_0_ok 12 rfl)))))))
  (e_Tok2
  (e_Tok2
  (e_Tok2
  (e_Lok (ld_iload_n_1 (x_dk dn_209_0_0_ok 13 rfl)))
  (e_Tok2
  (e_Lok (ld_iload_n_2 (x_dk dn_209_0_0_ok 14 rfl)))
  (e_Lok (lk_11_214 ho_209 (x_dk dn_209_0_0_ok 15 rfl)))))
  (e_Tok2
  (e_Tok2
  (e_Lok (e_st (I := eI) (er_ifne (off := 6) (tg := 38) (x_dk dn_209_0_0_ok 16 rfl) (by decide)) nx_if1))
  (e_Lok (ps_bipush_m2 (x_dk dn_209_0_0_ok 17 rfl))))
  (e_Tok2
  (e_Lok (e_rt (I := eI) (k := 1) ⟨(x_dk dn_209_0_0_ok 18 rfl), rfl⟩))
  (e_Lok (ld_aload_n_0 (x_dk dn_209_0_0_ok 19 rfl))))))
  (e_Tok2
  (e_Tok2
  (e_Lok (lk_11_32g ho_209 (x_dk dn_209_0_0_ok 20 rfl)))
  (e_Tok2
  (e_Lok (ld_iload_n_1 (x_dk dn_209_0_0_ok 21 rfl)))
  (e_Lok (ld_iload_n_2 (x_dk dn_209_0_0_ok 22 rfl)))))
  (e_Tok2
  (e_Tok2
  (e_Lok (ld_iload_n_3 (x_dk dn_209_0_0_ok 23 rfl)))
  (e_Lok (lk_11_219 ho_209 (x_dk dn_209_0_0_ok 24 rfl))))
  (e_Tok2
  (e_Lok (ps_iconst_0 (x_dk dn_209_0_1_ok 0 rfl)))
  (e_Lok (e_rt (I := eI) (k := 1) ⟨(x_dk dn_209_0_1_ok 1 rfl), rfl⟩)))))))
def te_209 : Nat → eE := te_209_0
theorem te_209_ok : ∀ pc, e_EOq eft cls elay eI n_209 pc (te_209 pc) := te_209_0_ok
theorem ho_210 : (xm_y n_210).cls = "RobotCellHouse" := rfl
def dn_210_0_0 : List (Nat × Instr × Nat) := [(0, .aload_n 0, 1), (1, .iload_n 1, 1), (2, .invokevirtual 103, 3), (5, .ifCond .ne 5, 3), (8, .iconst (-1), 1), (9, .ireturn, 1), (10, .aload_n 0, 1), (11, .getfield 91, 3), (14, .ifCond .eq 6, 3), (17, .bipush (-2), 2), (19, .ireturn, 1), (20, .aload_n 0, 1), (21, .getfield 10, 3), (24, .invokevirtual 223, 3), (27, .aload_n 0, 1), (28, .getfield 10, 3), (31, .iconst 0, 1), (32, .putfield 74, 3), (35, .aload_n 0, 1), (36, .getfield 10, 3), (39, .getfield 226, 3), (42, .ifCond .eq 14, 3), (45, .bipush (-10), 2), (47, .aload_n 0, 1), (48, .getfield 10, 3)]
set_option maxRecDepth 20000 in
theorem dn_210_0_0_ok : dn_210_0_0.all (fun q => decide (decode (xm_b n_210) q.1 = .ok (q.2.1, q.2.2))) = true := xa_g_ok (by decide +kernel)
def dn_210_0_1 : List (Nat × Instr × Nat) := [(51, .getfield 229, 3), (54, .isub, 1), (55, .ireturn, 1), (56, .aload_n 0, 1), (57, .getfield 10, 3), (60, .aload_n 0, 1), (61, .getfield 27, 3), (64, .iload_n 1, 1), (65, .aaload, 1), (66, .aload_n 0, 1), (67, .getfield 10, 3), (70, .getfield 232, 3), (73, .invokevirtual 236, 3), (76, .putfield 232, 3), (79, .aload_n 0, 1), (80, .getfield 27, 3), (83, .iload_n 1, 1), (84, .aaload, 1), (85, .getfield 240, 3), (88, .getfield 241, 3), (91, .ireturn, 1)]
set_option maxRecDepth 20000 in
theorem dn_210_0_1_ok : dn_210_0_1.all (fun q => decide (decode (xm_b n_210) q.1 = .ok (q.2.1, q.2.2))) = true := xa_g_ok (by decide +kernel)
def te_210_0 : Nat → eE := (e_T 19 (e_T 8 (e_T 1 (e_T 0 (e_L 0 (0, ei_load 0 2 1, 0, 0)) (e_L 1 (0, ei_load 1 0 2, 0, 0))) (e_T 2 (e_L 2 (2, e_nof, 246, 2)) (e_T 5 (e_L 5 (0, ei_if1 1 10 8, 0, 0)) (e_L 8 (0, ei_push (0, (-1)) 9, 0, 0))))) (e_T 11 (e_T 9 (e_L 9 (1, e_nof, 1, 0)) (e_T 10 (e_L 10 (0, ei_load 0 2 11, 0, 0)) (e_L 11 (0, ei_getf eft elay 11 13 14, 0, 0)))) (e_T 14 (e_L 14 (0, ei_if1 0 20 17, 0, 0)) (e_T 17 (e_L 17 (0, ei_push (0, (-2)) 19, 0, 0)) (e_L 19 (1, e_nof, 1, 0)))))) (e_T 31 (e_T 24 (e_T 20 (e_L 20 (0, ei_load 0 2 21, 0, 0)) (e_T 21 (e_L 21 (0, ei_getf eft elay 11 0 24, 0, 0)) (e_L 24 (2, e_nof, 119, 1)))) (e_T 27 (e_L 27 (0, ei_load 0 2 28, 0, 0)) (e_T 28 (e_L 28 (0, ei_getf eft elay 11 0 31, 0, 0)) (e_L 31 (0, ei_push (0, 0) 32, 0, 0))))) (e_T 36 (e_T 32 (e_L 32 (0, ei_putf eft elay 8 0 0 35, 0, 0)) (e_T 35 (e_L 35 (0, ei_load 0 2 36, 0, 0)) (e_L 36 (0, ei_getf eft elay 11 0 39, 0, 0)))) (e_T 39 (e_L 39 (0, ei_getf eft elay 8 1 42, 0, 0)) (e_T 42 (e_L 42 (0, ei_if1 0 56 45, 0, 0)) (e_L 45 (0, ei_push (0, (-10)) 47, 0, 0)))))))
set_option maxRecDepth 20000 in
set_option maxHeartbeats 4000000 in
theorem te_210_0_ok : ∀ pc, e_EOq eft cls elay eI n_210 pc (te_210_0 pc) :=
  (e_Tok2
  (e_Tok2
  (e_Tok2
  (e_Tok2
  (e_Lok (ld_aload_n_0 (x_dk dn_210_0_0_ok 0 rfl)))
  (e_Lok (ld_iload_n_1 (x_dk dn_210_0_0_ok 1 rfl))))
  (e_Tok2
  (e_Lok (lk_11_103 ho_210 (x_dk dn_210_0_0_ok 2 rfl)))
  (e_Tok2
  (e_Lok (e_st (I := eI) (er_ifne (off := 5) (tg := 10) (x_dk dn_210_0_0_ok 3 rfl) (by decide)) nx_if1))
  (e_Lok (ps_iconst_m1 (x_dk dn_210_0_0_ok 4 rfl))))))
  (e_Tok2
  (e_Tok2
  (e_Lok (e_rt (I := eI) (k := 1) ⟨(x_dk dn_210_0_0_ok 5 rfl), rfl⟩))
  (e_Tok2
  (e_Lok (ld_aload_n_0 (x_dk dn_210_0_0_ok 6 rfl)))
  (e_Lok (lk_11_91g ho_210 (x_dk dn_210_0_0_ok 7 rfl)))))
  (e_Tok2
  (e_Lok (e_st (I := eI) (er_ifeq (off := 6) (tg := 20) (x_dk dn_210_0_0_ok 8 rfl) (by decide)) nx_if1))
  (e_Tok2
  (e_Lok (ps_bipush_m2 (x_dk dn_210_0_0_ok 9 rfl)))
  (e_Lok (e_rt (I := eI) (k := 1) ⟨(x_dk dn_210_0_0_ok 10 rfl), rfl⟩))))))
  (e_Tok2
  (e_Tok2
  (e_Tok2
  (e_Lok (ld_aload_n_0 (x_dk dn_210_0_0_ok 11 rfl)))
  (e_Tok2
  (e_Lok (lk_11_10g ho_210 (x_dk dn_210_0_0_ok 12 rfl)))
  (e_Lok (lk_11_223 ho_210 (x_dk dn_210_0_0_ok 13 rfl)))))
  (e_Tok2
  (e_Lok (ld_aload_n_0 (x_dk dn_210_0_0_ok 14 rfl)))
  (e_Tok2
  (e_Lok (lk_11_10g ho_210 (x_dk dn_210_0_0_ok 15 rfl)))
  (e_Lok (ps_iconst_0 (x_dk dn_210_0_0_ok 16 rfl))))))
  (e_Tok2
  (e_Tok2
  (e_Lok (lk_11_74p ho_210 (x_dk dn_210_0_0_ok 17 rfl)))
  (e_Tok2
  (e_Lok (ld_aload_n_0 (x_dk dn_210_0_0_ok 18 rfl)))
  (e_Lok (lk_11_10g ho_210 (x_dk dn_210_0_0_ok 19 rfl)))))
  (e_Tok2
  (e_Lok (lk_11_226g ho_210 (x_dk dn_210_0_0_ok 20 rfl)))
  (e_Tok2
  (e_Lok (e_st (I := eI) (er_ifeq (off := 14) (tg := 56) (x_dk dn_210_0_0_ok 21 rfl) (by decide)) nx_if1))
  (e_Lok (ps_bipush_m10 (x_dk dn_210_0_0_ok 22 rfl))))))))
def te_210_23 : Nat → eE := (e_T 65 (e_T 55 (e_T 48 (e_T 47 (e_L 47 (0, ei_load 0 2 48, 0, 0)) (e_L 48 (0, ei_getf eft elay 11 0 51, 0, 0))) (e_T 51 (e_L 51 (0, ei_getf eft elay 8 2 54, 0, 0)) (e_T 54 (e_L 54 (0, ei_bin eF_sub 55, 0, 0)) (e_L 55 (1, e_nof, 1, 0))))) (e_T 60 (e_T 56 (e_L 56 (0, ei_load 0 2 57, 0, 0)) (e_T 57 (e_L 57 (0, ei_getf eft elay 11 0 60, 0, 0)) (e_L 60 (0, ei_load 0 2 61, 0, 0)))) (e_T 61 (e_L 61 (0, ei_getf eft elay 11 2 64, 0, 0)) (e_T 64 (e_L 64 (0, ei_load 1 0 65, 0, 0)) (e_L 65 (0, ei_aald elay 66, 0, 0)))))) (e_T 79 (e_T 70 (e_T 66 (e_L 66 (0, ei_load 0 2 67, 0, 0)) (e_T 67 (e_L 67 (0, ei_getf eft elay 11 0 70, 0, 0)) (e_L 70 (0, ei_getf eft elay 8 3 73, 0, 0)))) (e_T 73 (e_L 73 (2, e_nof, 4, 2)) (e_T 76 (e_L 76 (0, ei_putf eft elay 8 3 2 79, 0, 0)) (e_L 79 (0, ei_load 0 2 80, 0, 0))))) (e_T 84 (e_T 80 (e_L 80 (0, ei_getf eft elay 11 2 83, 0, 0)) (e_T 83 (e_L 83 (0, ei_load 1 0 84, 0, 0)) (e_L 84 (0, ei_aald elay 85, 0, 0)))) (e_T 85 (e_L 85 (0, ei_getf eft elay 0 7 88, 0, 0)) (e_T 88 (e_L 88 (0, ei_getf eft elay 1 1 91, 0, 0)) (e_L 91 (1, e_nof, 1, 0)))))))
set_option maxRecDepth 20000 in
set_option maxHeartbeats 4000000 in
theorem te_210_23_ok : ∀ pc, e_EOq eft cls elay eI n_210 pc (te_210_23 pc) :=
  (e_Tok2
  (e_Tok2
  (e_Tok2
  (e_Tok2
  (e_Lok (ld_aload_n_0 (x_dk dn_210_0_0_ok 23 rfl)))
  (e_Lok (lk_11_10g ho_210 (x_dk dn_210_0_0_ok 24 rfl))))
  (e_Tok2
  (e_Lok (lk_11_229g ho_210 (x_dk dn_210_0_1_ok 0 rfl)))
  (e_Tok2
  (e_Lok (sm_isub (x_dk dn_210_0_1_ok 1 rfl)))
  (e_Lok (e_rt (I := eI) (k := 1) ⟨(x_dk dn_210_0_1_ok 2 rfl), rfl⟩)))))
  (e_Tok2
  (e_Tok2
  (e_Lok (ld_aload_n_0 (x_dk dn_210_0_1_ok 3 rfl)))
  (e_Tok2
  (e_Lok (lk_11_10g ho_210 (x_dk dn_210_0_1_ok 4 rfl)))
  (e_Lok (ld_aload_n_0 (x_dk dn_210_0_1_ok 5 rfl)))))
  (e_Tok2
  (e_Lok (lk_11_27g ho_210 (x_dk dn_210_0_1_ok 6 rfl)))
  (e_Tok2
  (e_Lok (ld_iload_n_1 (x_dk dn_210_0_1_ok 7 rfl)))
  (e_Lok (e_st (I := eI) (er_aaload (x_dk dn_210_0_1_ok 8 rfl)) nx_aald))))))
  (e_Tok2
  (e_Tok2
  (e_Tok2
  (e_Lok (ld_aload_n_0 (x_dk dn_210_0_1_ok 9 rfl)))
  (e_Tok2
  (e_Lok (lk_11_10g ho_210 (x_dk dn_210_0_1_ok 10 rfl)))
  (e_Lok (lk_11_232g ho_210 (x_dk dn_210_0_1_ok 11 rfl)))))
  (e_Tok2
  (e_Lok (lk_11_236 ho_210 (x_dk dn_210_0_1_ok 12 rfl)))
  (e_Tok2
  (e_Lok (lk_11_232p ho_210 (x_dk dn_210_0_1_ok 13 rfl)))
  (e_Lok (ld_aload_n_0 (x_dk dn_210_0_1_ok 14 rfl))))))
  (e_Tok2
  (e_Tok2
  (e_Lok (lk_11_27g ho_210 (x_dk dn_210_0_1_ok 15 rfl)))
  (e_Tok2
  (e_Lok (ld_iload_n_1 (x_dk dn_210_0_1_ok 16 rfl)))
  (e_Lok (e_st (I := eI) (er_aaload (x_dk dn_210_0_1_ok 17 rfl)) nx_aald))))
  (e_Tok2
  (e_Lok (lk_11_240g ho_210 (x_dk dn_210_0_1_ok 18 rfl)))
  (e_Tok2
  (e_Lok (lk_11_241g ho_210 (x_dk dn_210_0_1_ok 19 rfl)))
  (e_Lok (e_rt (I := eI) (k := 1) ⟨(x_dk dn_210_0_1_ok 20 rfl), rfl⟩)))))))
def te_210 : Nat → eE := (e_T 45 te_210_0 te_210_23)
theorem te_210_ok : ∀ pc, e_EOq eft cls elay eI n_210 pc (te_210 pc) := (e_Tok2 (te_210_0_ok) (te_210_23_ok))
theorem ho_211 : (xm_y n_211).cls = "RobotCellHouse" := rfl
def dn_211_0_0 : List (Nat × Instr × Nat) := [(0, .iload_n 1, 1), (1, .iconst 0, 1), (2, .iconst 1, 1), (3, .invokestatic 82, 3), (6, .ifCond .eq 13, 3), (9, .aload_n 0, 1), (10, .getfield 10, 3), (13, .getfield 226, 3), (16, .ifCond .ge 5, 3), (19, .iconst (-1), 1), (20, .ireturn, 1), (21, .aload_n 0, 1), (22, .getfield 91, 3), (25, .ifCond .eq 6, 3), (28, .bipush (-2), 2), (30, .ireturn, 1), (31, .iload_n 1, 1), (32, .ifCond .ne 13, 3), (35, .aload_n 0, 1), (36, .getfield 10, 3), (39, .getfield 226, 3), (42, .goto 10, 3), (45, .aload_n 0, 1), (46, .getfield 10, 3), (49, .getfield 229, 3)]
set_option maxRecDepth 20000 in
theorem dn_211_0_0_ok : dn_211_0_0.all (fun q => decide (decode (xm_b n_211) q.1 = .ok (q.2.1, q.2.2))) = true := xa_g_ok (by decide +kernel)
def dn_211_0_1 : List (Nat × Instr × Nat) := [(52, .ireturn, 1)]
set_option maxRecDepth 20000 in
theorem dn_211_0_1_ok : dn_211_0_1.all (fun q => decide (decode (xm_b n_211) q.1 = .ok (q.2.1, q.2.2))) = true := xa_g_ok (by decide +kernel)
def te_211_0 : Nat → eE := (e_T 22 (e_T 9 (e_T 2 (e_T 0 (e_L 0 (0, ei_load 1 0 1, 0, 0)) (e_T 1 (e_L 1 (0, ei_push (0, 0) 2, 0, 0)) (e_L 2 (0, ei_push (0, 1) 3, 0, 0)))) (e_T 3 (e_L 3 (2, e_nof, 242, 3)) (e_T 6 (e_L 6 (0, ei_if1 0 19 9, 0, 0)) (e_L 9 (0, ei_load 0 2 10, 0, 0))))) (e_T 16 (e_T 10 (e_L 10 (0, ei_getf eft elay 11 0 13, 0, 0)) (e_T 13 (e_L 13 (0, ei_getf eft elay 8 1 16, 0, 0)) (e_L 16 (0, ei_if1 3 21 19, 0, 0)))) (e_T 20 (e_T 19 (e_L 19 (0, ei_push (0, (-1)) 20, 0, 0)) (e_L 20 (1, e_nof, 1, 0))) (e_T 21 (e_L 21 (0, ei_load 0 2 22, 0, 0)) (e_L 22 (0, ei_getf eft elay 11 13 25, 0, 0)))))) (e_T 35 (e_T 30 (e_T 25 (e_L 25 (0, ei_if1 0 31 28, 0, 0)) (e_T 28 (e_L 28 (0, ei_push (0, (-2)) 30, 0, 0)) (e_L 30 (1, e_nof, 1, 0)))) (e_T 31 (e_L 31 (0, ei_load 1 0 32, 0, 0)) (e_T 32 (e_L 32 (0, ei_if1 1 45 35, 0, 0)) (e_L 35 (0, ei_load 0 2 36, 0, 0))))) (e_T 42 (e_T 36 (e_L 36 (0, ei_getf eft elay 11 0 39, 0, 0)) (e_T 39 (e_L 39 (0, ei_getf eft elay 8 1 42, 0, 0)) (e_L 42 (0, ei_goto 52, 0, 0)))) (e_T 46 (e_T 45 (e_L 45 (0, ei_load 0 2 46, 0, 0)) (e_L 46 (0, ei_getf eft elay 11 0 49, 0, 0))) (e_T 49 (e_L 49 (0, ei_getf eft elay 8 2 52, 0, 0)) (e_L 52 (1, e_nof, 1, 0)))))))
set_option maxRecDepth 20000 in
set_option maxHeartbeats 4000000 in
theorem te_211_0_ok : ∀ pc, e_EOq eft cls elay eI n_211 pc (te_211_0 pc) :=
  (e_Tok2
  (e_Tok2
  (e_Tok2
  (e_Tok2
  (e_Lok (ld_iload_n_1 (x_dk dn_211_0_0_ok 0 rfl)))
  (e_Tok2
  (e_Lok (ps_iconst_0 (x_dk dn_211_0_0_ok 1 rfl)))
  (e_Lok (ps_iconst_1 (x_dk dn_211_0_0_ok 2 rfl)))))
  (e_Tok2
  (e_Lok (lk_11_82 ho_211 (x_dk dn_211_0_0_ok 3 rfl)))
  (e_Tok2
  (e_Lok (e_st (I := eI) (er_ifeq (off := 13) (tg := 19) (x_dk dn_211_0_0_ok 4 rfl) (by decide)) nx_if1))
  (e_Lok (ld_aload_n_0 (x_dk dn_211_0_0_ok 5 rfl))))))
  (e_Tok2
  (e_Tok2
  (e_Lok (lk_11_10g ho_211 (x_dk dn_211_0_0_ok 6 rfl)))
  (e_Tok2
  (e_Lok (lk_11_226g ho_211 (x_dk dn_211_0_0_ok 7 rfl)))
  (e_Lok (e_st (I := eI) (er_ifge (off := 5) (tg := 21) (x_dk dn_211_0_0_ok 8 rfl) (by decide)) nx_if1))))
  (e_Tok2
  (e_Tok2
  (e_Lok (ps_iconst_m1 (x_dk dn_211_0_0_ok 9 rfl)))
  (e_Lok (e_rt (I := eI) (k := 1) ⟨(x_dk dn_211_0_0_ok 10 rfl), rfl⟩)))
  (e_Tok2
  (e_Lok (ld_aload_n_0 (x_dk dn_211_0_0_ok 11 rfl)))
  (e_Lok (lk_11_91g ho_211 (x_dk dn_211_0_0_ok 12 rfl)))))))
  (e_Tok2
  (e_Tok2
  (e_Tok2
  (e_Lok (e_st (I := eI) (er_ifeq (off := 6) (tg := 31) (x_dk dn_211_0_0_ok 13 rfl) (by decide)) nx_if1))
  (e_Tok2
  (e_Lok (ps_bipush_m2 (x_dk dn_211_0_0_ok 14 rfl)))
  (e_Lok (e_rt (I := eI) (k := 1) ⟨(x_dk dn_211_0_0_ok 15 rfl), rfl⟩))))
  (e_Tok2
  (e_Lok (ld_iload_n_1 (x_dk dn_211_0_0_ok 16 rfl)))
  (e_Tok2
  (e_Lok (e_st (I := eI) (er_ifne (off := 13) (tg := 45) (x_dk dn_211_0_0_ok 17 rfl) (by decide)) nx_if1))
  (e_Lok (ld_aload_n_0 (x_dk dn_211_0_0_ok 18 rfl))))))
  (e_Tok2
  (e_Tok2
  (e_Lok (lk_11_10g ho_211 (x_dk dn_211_0_0_ok 19 rfl)))
  (e_Tok2
  (e_Lok (lk_11_226g ho_211 (x_dk dn_211_0_0_ok 20 rfl)))
  (e_Lok (e_st (I := eI) (er_goto (off := 10) (tg := 52) (x_dk dn_211_0_0_ok 21 rfl) (by decide)) nx_goto))))
  (e_Tok2
  (e_Tok2
  (e_Lok (ld_aload_n_0 (x_dk dn_211_0_0_ok 22 rfl)))
  (e_Lok (lk_11_10g ho_211 (x_dk dn_211_0_0_ok 23 rfl))))
  (e_Tok2
  (e_Lok (lk_11_229g ho_211 (x_dk dn_211_0_0_ok 24 rfl)))
  (e_Lok (e_rt (I := eI) (k := 1) ⟨(x_dk dn_211_0_1_ok 0 rfl), rfl⟩)))))))
def te_211 : Nat → eE := te_211_0
theorem te_211_ok : ∀ pc, e_EOq eft cls elay eI n_211 pc (te_211 pc) := te_211_0_ok
theorem ho_212 : (xm_y n_212).cls = "RobotCellHouse" := rfl
def dn_212_0_0 : List (Nat × Instr × Nat) := [(0, .aload_n 0, 1), (1, .getfield 91, 3), (4, .ifCond .eq 6, 3), (7, .bipush (-2), 2), (9, .ireturn, 1), (10, .aload_n 0, 1), (11, .iconst 1, 1), (12, .putfield 91, 3), (15, .aload_n 0, 1), (16, .iconst 0, 1), (17, .putfield 246, 3), (20, .aload_n 0, 1), (21, .invokevirtual 249, 3), (24, .aload_n 0, 1), (25, .getfield 94, 3), (28, .ireturn, 1)]
set_option maxRecDepth 20000 in
theorem dn_212_0_0_ok : dn_212_0_0.all (fun q => decide (decode (xm_b n_212) q.1 = .ok (q.2.1, q.2.2))) = true := xa_g_ok (by decide +kernel)
def te_212_0 : Nat → eE := (e_T 12 (e_T 7 (e_T 1 (e_T 0 (e_L 0 (0, ei_load 0 2 1, 0, 0)) (e_L 1 (0, ei_getf eft elay 11 13 4, 0, 0))) (e_T 4 (e_L 4 (0, ei_if1 0 10 7, 0, 0)) (e_L 7 (0, ei_push (0, (-2)) 9, 0, 0)))) (e_T 10 (e_T 9 (e_L 9 (1, e_nof, 1, 0)) (e_L 10 (0, ei_load 0 2 11, 0, 0))) (e_T 11 (e_L 11 (0, ei_push (0, 1) 12, 0, 0)) (e_L 12 (0, ei_putf eft elay 11 13 1 15, 0, 0))))) (e_T 20 (e_T 16 (e_T 15 (e_L 15 (0, ei_load 0 2 16, 0, 0)) (e_L 16 (0, ei_push (0, 0) 17, 0, 0))) (e_T 17 (e_L 17 (0, ei_putf eft elay 11 12 0 20, 0, 0)) (e_L 20 (0, ei_load 0 2 21, 0, 0)))) (e_T 24 (e_T 21 (e_L 21 (2, e_nof, 252, 1)) (e_L 24 (0, ei_load 0 2 25, 0, 0))) (e_T 25 (e_L 25 (0, ei_getf eft elay 11 11 28, 0, 0)) (e_L 28 (1, e_nof, 1, 0))))))
set_option maxRecDepth 20000 in
set_option maxHeartbeats 4000000 in
theorem te_212_0_ok : ∀ pc, e_EOq eft cls elay eI n_212 pc (te_212_0 pc) :=
  (e_Tok2
  (e_Tok2
  (e_Tok2
  (e_Tok2
  (e_Lok (ld_aload_n_0 (x_dk dn_212_0_0_ok 0 rfl)))
  (e_Lok (lk_11_91g ho_212 (x_dk dn_212_0_0_ok 1 rfl))))
  (e_Tok2
  (e_Lok (e_st (I := eI) (er_ifeq (off := 6) (tg := 10) (x_dk dn_212_0_0_ok 2 rfl) (by decide)) nx_if1))
  (e_Lok (ps_bipush_m2 (x_dk dn_212_0_0_ok 3 rfl)))))
  (e_Tok2
  (e_Tok2
  (e_Lok (e_rt (I := eI) (k := 1) ⟨(x_dk dn_212_0_0_ok 4 rfl), rfl⟩))
  (e_Lok (ld_aload_n_0 (x_dk dn_212_0_0_ok 5 rfl))))
  (e_Tok2
  (e_Lok (ps_iconst_1 (x_dk dn_212_0_0_ok 6 rfl)))
  (e_Lok (lk_11_91p ho_212 (x_dk dn_212_0_0_ok 7 rfl))))))
  (e_Tok2
  (e_Tok2
  (e_Tok2
  (e_Lok (ld_aload_n_0 (x_dk dn_212_0_0_ok 8 rfl)))
  (e_Lok (ps_iconst_0 (x_dk dn_212_0_0_ok 9 rfl))))
  (e_Tok2
  (e_Lok (lk_11_246p ho_212 (x_dk dn_212_0_0_ok 10 rfl)))
  (e_Lok (ld_aload_n_0 (x_dk dn_212_0_0_ok 11 rfl)))))
  (e_Tok2
  (e_Tok2
  (e_Lok (lk_11_249 ho_212 (x_dk dn_212_0_0_ok 12 rfl)))
  (e_Lok (ld_aload_n_0 (x_dk dn_212_0_0_ok 13 rfl))))
  (e_Tok2
  (e_Lok (lk_11_94g ho_212 (x_dk dn_212_0_0_ok 14 rfl)))
  (e_Lok (e_rt (I := eI) (k := 1) ⟨(x_dk dn_212_0_0_ok 15 rfl), rfl⟩))))))
def te_212 : Nat → eE := te_212_0
theorem te_212_ok : ∀ pc, e_EOq eft cls elay eI n_212 pc (te_212 pc) := te_212_0_ok
theorem ho_213 : (xm_y n_213).cls = "RobotCellHouse" := rfl
def dn_213_0_0 : List (Nat × Instr × Nat) := [(0, .aload_n 0, 1), (1, .iload_n 1, 1), (2, .invokevirtual 103, 3), (5, .ifCond .eq 25, 3), (8, .iload_n 2, 1), (9, .iconst 0, 1), (10, .aload_n 0, 1), (11, .getfield 27, 3), (14, .iload_n 1, 1), (15, .aaload, 1), (16, .getfield 240, 3), (19, .getfield 241, 3), (22, .iconst 1, 1), (23, .isub, 1), (24, .invokestatic 82, 3), (27, .ifCond .ne 5, 3), (30, .iconst (-1), 1), (31, .ireturn, 1), (32, .aload_n 0, 1), (33, .getfield 91, 3), (36, .ifCond .ne 6, 3), (39, .bipush (-2), 2), (41, .ireturn, 1), (42, .aload_n 0, 1), (43, .getfield 19, 3)]
set_option maxRecDepth 20000 in
theorem dn_213_0_0_ok : dn_213_0_0.all (fun q => decide (decode (xm_b n_213) q.1 = .ok (q.2.1, q.2.2))) = true := xa_g_ok (by decide +kernel)
def dn_213_0_1 : List (Nat × Instr × Nat) := [(46, .invokevirtual 252, 3), (49, .ifCond .ge 6, 3), (52, .bipush (-3), 2), (54, .ireturn, 1), (55, .aload_n 0, 1), (56, .iconst 0, 1), (57, .iload_n 1, 1), (58, .iload_n 2, 1), (59, .iconst 0, 1), (60, .invokevirtual 255, 3), (63, .ireturn, 1)]
set_option maxRecDepth 20000 in
theorem dn_213_0_1_ok : dn_213_0_1.all (fun q => decide (decode (xm_b n_213) q.1 = .ok (q.2.1, q.2.2))) = true := xa_g_ok (by decide +kernel)
def te_213_0 : Nat → eE := (e_T 31 (e_T 14 (e_T 5 (e_T 1 (e_T 0 (e_L 0 (0, ei_load 0 2 1, 0, 0)) (e_L 1 (0, ei_load 1 0 2, 0, 0))) (e_T 2 (e_L 2 (2, e_nof, 246, 2)) (e_L 5 (0, ei_if1 0 30 8, 0, 0)))) (e_T 9 (e_T 8 (e_L 8 (0, ei_load 2 0 9, 0, 0)) (e_L 9 (0, ei_push (0, 0) 10, 0, 0))) (e_T 10 (e_L 10 (0, ei_load 0 2 11, 0, 0)) (e_T 11 (e_L 11 (0, ei_getf eft elay 11 2 14, 0, 0)) (e_L 14 (0, ei_load 1 0 15, 0, 0)))))) (e_T 22 (e_T 16 (e_T 15 (e_L 15 (0, ei_aald elay 16, 0, 0)) (e_L 16 (0, ei_getf eft elay 0 7 19, 0, 0))) (e_T 19 (e_L 19 (0, ei_getf eft elay 1 1 22, 0, 0)) (e_L 22 (0, ei_push (0, 1) 23, 0, 0)))) (e_T 24 (e_T 23 (e_L 23 (0, ei_bin eF_sub 24, 0, 0)) (e_L 24 (2, e_nof, 242, 3))) (e_T 27 (e_L 27 (0, ei_if1 1 32 30, 0, 0)) (e_T 30 (e_L 30 (0, ei_push (0, (-1)) 31, 0, 0)) (e_L 31 (1, e_nof, 1, 0))))))) (e_T 49 (e_T 39 (e_T 33 (e_T 32 (e_L 32 (0, ei_load 0 2 33, 0, 0)) (e_L 33 (0, ei_getf eft elay 11 13 36, 0, 0))) (e_T 36 (e_L 36 (0, ei_if1 1 42 39, 0, 0)) (e_L 39 (0, ei_push (0, (-2)) 41, 0, 0)))) (e_T 42 (e_T 41 (e_L 41 (1, e_nof, 1, 0)) (e_L 42 (0, ei_load 0 2 43, 0, 0))) (e_T 43 (e_L 43 (0, ei_getf eft elay 11 1 46, 0, 0)) (e_T 46 (e_L 46 (2, e_nof, 36, 1)) (e_L 49 (0, ei_if1 3 55 52, 0, 0)))))) (e_T 56 (e_T 54 (e_T 52 (e_L 52 (0, ei_push (0, (-3)) 54, 0, 0)) (e_L 54 (1, e_nof, 1, 0))) (e_T 55 (e_L 55 (0, ei_load 0 2 56, 0, 0)) (e_L 56 (0, ei_push (0, 0) 57, 0, 0)))) (e_T 58 (e_T 57 (e_L 57 (0, ei_load 1 0 58, 0, 0)) (e_L 58 (0, ei_load 2 0 59, 0, 0))) (e_T 59 (e_L 59 (0, ei_push (0, 0) 60, 0, 0)) (e_T 60 (e_L 60 (2, e_nof, 255, 5)) (e_L 63 (1, e_nof, 1, 0))))))))
set_option maxRecDepth 20000 in
set_option maxHeartbeats 4000000 in
theorem te_213_0_ok : ∀ pc, e_EOq eft cls elay eI n_213 pc (te_213_0 pc) :=
  (e_Tok2
  (e_Tok2
  (e_Tok2
  (e_Tok2
  (e_Tok2
  (e_Lok (ld_aload_n_0 (x_dk dn_213_0_0_ok 0 rfl)))
  (e_Lok (ld_iload_n_1 (x_dk dn_213_0_0_ok 1 rfl))))
  (e_Tok2
  (e_Lok (lk_11_103 ho_213 (x_dk dn_213_0_0_ok 2 rfl)))
  (e_Lok (e_st (I := eI) (er_ifeq (off := 25) (tg := 30) (x_dk dn_213_0_0_ok 3 rfl) (by decide)) nx_if1))))
  (e_Tok2
  (e_Tok2
  (e_Lok (ld_iload_n_2 (x_dk dn_213_0_0_ok 4 rfl)))
  (e_Lok (ps_iconst_0 (x_dk dn_213_0_0_ok 5 rfl))))
  (e_Tok2
  (e_Lok (ld_aload_n_0 (x_dk dn_213_0_0_ok 6 rfl)))
  (e_Tok2
  (e_Lok (lk_11_27g ho_213 (x_dk dn_213_0_0_ok 7 rfl)))
  (e_Lok (ld_iload_n_1 (x_dk dn_213_0_0_ok 8 rfl)))))))
  (e_Tok2
  (e_Tok2
  (e_Tok2
  (e_Lok (e_st (I := eI) (er_aaload (x_dk dn_213_0_0_ok 9 rfl)) nx_aald))
  (e_Lok (lk_11_240g ho_213 (x_dk dn_213_0_0_ok 10 rfl))))
  (e_Tok2
  (e_Lok (lk_11_241g ho_213 (x_dk dn_213_0_0_ok 11 rfl)))
  (e_Lok (ps_iconst_1 (x_dk dn_213_0_0_ok 12 rfl)))))
  (e_Tok2
  (e_Tok2
  (e_Lok (sm_isub (x_dk dn_213_0_0_ok 13 rfl)))
  (e_Lok (lk_11_82 ho_213 (x_dk dn_213_0_0_ok 14 rfl))))
  (e_Tok2
  (e_Lok (e_st (I := eI) (er_ifne (off := 5) (tg := 32) (x_dk dn_213_0_0_ok 15 rfl) (by decide)) nx_if1))
  (e_Tok2
  (e_Lok (ps_iconst_m1 (x_dk dn_213_0_0_ok 16 rfl)))
  (e_Lok (e_rt (I := eI) (k := 1) ⟨(x_dk dn_213_0_0_ok 17 rfl), rfl⟩)))))))
  (e_Tok2
  (e_Tok2
  (e_Tok2
  (e_Tok2
  (e_Lok (ld_aload_n_0 (x_dk dn_213_0_0_ok 18 rfl)))
  (e_Lok (lk_11_91g ho_213 (x_dk dn_213_0_0_ok 19 rfl))))
  (e_Tok2
  (e_Lok (e_st (I := eI) (er_ifne (off := 6) (tg := 42) (x_dk dn_213_0_0_ok 20 rfl) (by decide)) nx_if1))
  (e_Lok (ps_bipush_m2 (x_dk dn_213_0_0_ok 21 rfl)))))
  (e_Tok2
  (e_Tok2
  (e_Lok (e_rt (I := eI) (k := 1) ⟨(x_dk dn_213_0_0_ok 22 rfl), rfl⟩))
  (e_Lok (ld_aload_n_0 (x_dk dn_213_0_0_ok 23 rfl))))
  (e_Tok2
  (e_Lok (lk_11_19g ho_213 (x_dk dn_213_0_0_ok 24 rfl)))
  (e_Tok2
  (e_Lok (lk_11_252 ho_213 (x_dk dn_213_0_1_ok 0 rfl)))
  (e_Lok (e_st (I := eI) (er_ifge (off := 6) (tg := 55) (x_dk dn_213_0_1_ok 1 rfl) (by decide)) nx_if1))))))
  (e_Tok2
  (e_Tok2
  (e_Tok2
  (e_Lok (ps_bipush_m3 (x_dk dn_213_0_1_ok 2 rfl)))
  (e_Lok (e_rt (I := eI) (k := 1) ⟨(x_dk dn_213_0_1_ok 3 rfl), rfl⟩)))
  (e_Tok2
  (e_Lok (ld_aload_n_0 (x_dk dn_213_0_1_ok 4 rfl)))
  (e_Lok (ps_iconst_0 (x_dk dn_213_0_1_ok 5 rfl)))))
  (e_Tok2
  (e_Tok2
  (e_Lok (ld_iload_n_1 (x_dk dn_213_0_1_ok 6 rfl)))
  (e_Lok (ld_iload_n_2 (x_dk dn_213_0_1_ok 7 rfl))))
  (e_Tok2
  (e_Lok (ps_iconst_0 (x_dk dn_213_0_1_ok 8 rfl)))
  (e_Tok2
  (e_Lok (lk_11_255 ho_213 (x_dk dn_213_0_1_ok 9 rfl)))
  (e_Lok (e_rt (I := eI) (k := 1) ⟨(x_dk dn_213_0_1_ok 10 rfl), rfl⟩))))))))
def te_213 : Nat → eE := te_213_0
theorem te_213_ok : ∀ pc, e_EOq eft cls elay eI n_213 pc (te_213 pc) := te_213_0_ok
theorem ho_214 : (xm_y n_214).cls = "RobotCellHouse" := rfl
def dn_214_0_0 : List (Nat × Instr × Nat) := [(0, .iload_n 1, 1), (1, .iconst 1, 1), (2, .sipush 1000, 3), (5, .invokestatic 82, 3), (8, .ifCond .ne 5, 3), (11, .iconst (-1), 1), (12, .ireturn, 1), (13, .aload_n 0, 1), (14, .getfield 91, 3), (17, .ifCond .ne 6, 3), (20, .bipush (-2), 2), (22, .ireturn, 1), (23, .iload_n 1, 1), (24, .sipush 6000, 3), (27, .aload_n 0, 1), (28, .getfield 42, 3), (31, .getfield 86, 3), (34, .isub, 1), (35, .invokestatic 258, 3), (38, .istore_n 2, 1), (39, .iload_n 2, 1), (40, .ifCond .le 10, 3), (43, .aload_n 0, 1), (44, .invokevirtual 264, 3), (47, .ifCond .ne 6, 3)]
set_option maxRecDepth 20000 in
theorem dn_214_0_0_ok : dn_214_0_0.all (fun q => decide (decode (xm_b n_214) q.1 = .ok (q.2.1, q.2.2))) = true := xa_g_ok (by decide +kernel)
def dn_214_0_1 : List (Nat × Instr × Nat) := [(50, .bipush (-3), 2), (52, .ireturn, 1), (53, .aload_n 0, 1), (54, .iconst 1, 1), (55, .iload_n 2, 1), (56, .iconst 0, 1), (57, .iconst 0, 1), (58, .invokevirtual 268, 3), (61, .iconst 0, 1), (62, .istore_n 3, 1), (63, .iload_n 3, 1), (64, .iload_n 2, 1), (65, .if_icmp .ge 13, 3), (68, .aload_n 0, 1), (69, .invokevirtual 271, 3), (72, .iinc 3 1, 3), (75, .goto (-12), 3), (78, .iload_n 2, 1), (79, .ireturn, 1)]
set_option maxRecDepth 20000 in
theorem dn_214_0_1_ok : dn_214_0_1.all (fun q => decide (decode (xm_b n_214) q.1 = .ok (q.2.1, q.2.2))) = true := xa_g_ok (by decide +kernel)
def te_214_0 : Nat → eE := (e_T 20 (e_T 8 (e_T 1 (e_T 0 (e_L 0 (0, ei_load 1 0 1, 0, 0)) (e_L 1 (0, ei_push (0, 1) 2, 0, 0))) (e_T 2 (e_L 2 (0, ei_push (0, 1000) 5, 0, 0)) (e_T 5 (e_L 5 (2, e_nof, 242, 3)) (e_L 8 (0, ei_if1 1 13 11, 0, 0))))) (e_T 13 (e_T 11 (e_L 11 (0, ei_push (0, (-1)) 12, 0, 0)) (e_T 12 (e_L 12 (1, e_nof, 1, 0)) (e_L 13 (0, ei_load 0 2 14, 0, 0)))) (e_T 14 (e_L 14 (0, ei_getf eft elay 11 13 17, 0, 0)) (e_T 17 (e_L 17 (0, ei_if1 1 23 20, 0, 0)) (e_L 20 (0, ei_push (0, (-2)) 22, 0, 0)))))) (e_T 28 (e_T 23 (e_T 22 (e_L 22 (1, e_nof, 1, 0)) (e_L 23 (0, ei_load 1 0 24, 0, 0))) (e_T 24 (e_L 24 (0, ei_push (0, 6000) 27, 0, 0)) (e_T 27 (e_L 27 (0, ei_load 0 2 28, 0, 0)) (e_L 28 (0, ei_getf eft elay 11 5 31, 0, 0))))) (e_T 35 (e_T 31 (e_L 31 (0, ei_getf eft elay 2 0 34, 0, 0)) (e_T 34 (e_L 34 (0, ei_bin eF_sub 35, 0, 0)) (e_L 35 (0, ei_m2 eM_min 38, 0, 0)))) (e_T 38 (e_L 38 (0, ei_stor 2 0 39, 0, 0)) (e_T 39 (e_L 39 (0, ei_load 2 0 40, 0, 0)) (e_L 40 (0, ei_if1 5 50 43, 0, 0)))))))
set_option maxRecDepth 20000 in
set_option maxHeartbeats 4000000 in
theorem te_214_0_ok : ∀ pc, e_EOq eft cls elay eI n_214 pc (te_214_0 pc) :=
  (e_Tok2
  (e_Tok2
  (e_Tok2
  (e_Tok2
  (e_Lok (ld_iload_n_1 (x_dk dn_214_0_0_ok 0 rfl)))
  (e_Lok (ps_iconst_1 (x_dk dn_214_0_0_ok 1 rfl))))
  (e_Tok2
  (e_Lok (ps_sipush_1000 (x_dk dn_214_0_0_ok 2 rfl)))
  (e_Tok2
  (e_Lok (lk_11_82 ho_214 (x_dk dn_214_0_0_ok 3 rfl)))
  (e_Lok (e_st (I := eI) (er_ifne (off := 5) (tg := 13) (x_dk dn_214_0_0_ok 4 rfl) (by decide)) nx_if1)))))
  (e_Tok2
  (e_Tok2
  (e_Lok (ps_iconst_m1 (x_dk dn_214_0_0_ok 5 rfl)))
  (e_Tok2
  (e_Lok (e_rt (I := eI) (k := 1) ⟨(x_dk dn_214_0_0_ok 6 rfl), rfl⟩))
  (e_Lok (ld_aload_n_0 (x_dk dn_214_0_0_ok 7 rfl)))))
  (e_Tok2
  (e_Lok (lk_11_91g ho_214 (x_dk dn_214_0_0_ok 8 rfl)))
  (e_Tok2
  (e_Lok (e_st (I := eI) (er_ifne (off := 6) (tg := 23) (x_dk dn_214_0_0_ok 9 rfl) (by decide)) nx_if1))
  (e_Lok (ps_bipush_m2 (x_dk dn_214_0_0_ok 10 rfl)))))))
  (e_Tok2
  (e_Tok2
  (e_Tok2
  (e_Lok (e_rt (I := eI) (k := 1) ⟨(x_dk dn_214_0_0_ok 11 rfl), rfl⟩))
  (e_Lok (ld_iload_n_1 (x_dk dn_214_0_0_ok 12 rfl))))
  (e_Tok2
  (e_Lok (ps_sipush_6000 (x_dk dn_214_0_0_ok 13 rfl)))
  (e_Tok2
  (e_Lok (ld_aload_n_0 (x_dk dn_214_0_0_ok 14 rfl)))
  (e_Lok (lk_11_42g ho_214 (x_dk dn_214_0_0_ok 15 rfl))))))
  (e_Tok2
  (e_Tok2
  (e_Lok (lk_11_86g ho_214 (x_dk dn_214_0_0_ok 16 rfl)))
  (e_Tok2
  (e_Lok (sm_isub (x_dk dn_214_0_0_ok 17 rfl)))
  (e_Lok (e_st (I := eI) (er_min (ix := 258) (in_t7 (List.mem_of_getElem? (i := 46) rfl) rfl) (in_t5 (List.mem_of_getElem? (i := 187) rfl) rfl) (in_t1 (List.mem_of_getElem? (i := 15) rfl) rfl) (in_t5 (List.mem_of_getElem? (i := 188) rfl) rfl) (x_dk dn_214_0_0_ok 18 rfl)) nx_m2))))
  (e_Tok2
  (e_Lok (e_st (I := eI) (er_istore_n (i := 2) (x_dk dn_214_0_0_ok 19 rfl) (by decide +kernel)) nx_stor))
  (e_Tok2
  (e_Lok (ld_iload_n_2 (x_dk dn_214_0_0_ok 20 rfl)))
  (e_Lok (e_st (I := eI) (er_ifle (off := 10) (tg := 50) (x_dk dn_214_0_0_ok 21 rfl) (by decide)) nx_if1)))))))
def te_214_22 : Nat → eE := (e_T 58 (e_T 52 (e_T 44 (e_T 43 (e_L 43 (0, ei_load 0 2 44, 0, 0)) (e_L 44 (2, e_nof, 253, 1))) (e_T 47 (e_L 47 (0, ei_if1 1 53 50, 0, 0)) (e_T 50 (e_L 50 (0, ei_push (0, (-3)) 52, 0, 0)) (e_L 52 (1, e_nof, 1, 0))))) (e_T 55 (e_T 53 (e_L 53 (0, ei_load 0 2 54, 0, 0)) (e_T 54 (e_L 54 (0, ei_push (0, 1) 55, 0, 0)) (e_L 55 (0, ei_load 2 0 56, 0, 0)))) (e_T 56 (e_L 56 (0, ei_push (0, 0) 57, 0, 0)) (e_T 57 (e_L 57 (0, ei_push (0, 0) 58, 0, 0)) (e_L 58 (2, e_nof, 254, 5)))))) (e_T 65 (e_T 62 (e_T 61 (e_L 61 (0, ei_push (0, 0) 62, 0, 0)) (e_L 62 (0, ei_stor 3 0 63, 0, 0))) (e_T 63 (e_L 63 (0, ei_load 3 0 64, 0, 0)) (e_T 64 (e_L 64 (0, ei_load 2 0 65, 0, 0)) (e_L 65 (0, ei_if2 3 78 68, 0, 0))))) (e_T 72 (e_T 68 (e_L 68 (0, ei_load 0 2 69, 0, 0)) (e_T 69 (e_L 69 (2, e_nof, 259, 1)) (e_L 72 (0, ei_inc 3 1 75, 0, 0)))) (e_T 75 (e_L 75 (0, ei_goto 63, 0, 0)) (e_T 78 (e_L 78 (0, ei_load 2 0 79, 0, 0)) (e_L 79 (1, e_nof, 1, 0)))))))
set_option maxRecDepth 20000 in
set_option maxHeartbeats 4000000 in
theorem te_214_22_ok : ∀ pc, e_EOq eft cls elay eI n_214 pc (te_214_22 pc) :=
  (e_Tok2
  (e_Tok2
  (e_Tok2
  (e_Tok2
  (e_Lok (ld_aload_n_0 (x_dk dn_214_0_0_ok 22 rfl)))
  (e_Lok (lk_11_264 ho_214 (x_dk dn_214_0_0_ok 23 rfl))))
  (e_Tok2
  (e_Lok (e_st (I := eI) (er_ifne (off := 6) (tg := 53) (x_dk dn_214_0_0_ok 24 rfl) (by decide)) nx_if1))
  (e_Tok2
  (e_Lok (ps_bipush_m3 (x_dk dn_214_0_1_ok 0 rfl)))
  (e_Lok (e_rt (I := eI) (k := 1) ⟨(x_dk dn_214_0_1_ok 1 rfl), rfl⟩)))))
  (e_Tok2
  (e_Tok2
  (e_Lok (ld_aload_n_0 (x_dk dn_214_0_1_ok 2 rfl)))
  (e_Tok2
  (e_Lok (ps_iconst_1 (x_dk dn_214_0_1_ok 3 rfl)))
  (e_Lok (ld_iload_n_2 (x_dk dn_214_0_1_ok 4 rfl)))))
  (e_Tok2
  (e_Lok (ps_iconst_0 (x_dk dn_214_0_1_ok 5 rfl)))
  (e_Tok2
  (e_Lok (ps_iconst_0 (x_dk dn_214_0_1_ok 6 rfl)))
  (e_Lok (lk_11_268 ho_214 (x_dk dn_214_0_1_ok 7 rfl)))))))
  (e_Tok2
  (e_Tok2
  (e_Tok2
  (e_Lok (ps_iconst_0 (x_dk dn_214_0_1_ok 8 rfl)))
  (e_Lok (e_st (I := eI) (er_istore_n (i := 3) (x_dk dn_214_0_1_ok 9 rfl) (by decide +kernel)) nx_stor)))
  (e_Tok2
  (e_Lok (ld_iload_n_3 (x_dk dn_214_0_1_ok 10 rfl)))
  (e_Tok2
  (e_Lok (ld_iload_n_2 (x_dk dn_214_0_1_ok 11 rfl)))
  (e_Lok (e_st (I := eI) (er_icmpge (off := 13) (tg := 78) (x_dk dn_214_0_1_ok 12 rfl) (by decide)) nx_if2)))))
  (e_Tok2
  (e_Tok2
  (e_Lok (ld_aload_n_0 (x_dk dn_214_0_1_ok 13 rfl)))
  (e_Tok2
  (e_Lok (lk_11_271 ho_214 (x_dk dn_214_0_1_ok 14 rfl)))
  (e_Lok (e_st (I := eI) (er_iinc (i := 3) (n := 1) (x_dk dn_214_0_1_ok 15 rfl) (by decide +kernel) (by decide)) nx_inc))))
  (e_Tok2
  (e_Lok (e_st (I := eI) (er_goto (off := (-12)) (tg := 63) (x_dk dn_214_0_1_ok 16 rfl) (by decide)) nx_goto))
  (e_Tok2
  (e_Lok (ld_iload_n_2 (x_dk dn_214_0_1_ok 17 rfl)))
  (e_Lok (e_rt (I := eI) (k := 1) ⟨(x_dk dn_214_0_1_ok 18 rfl), rfl⟩)))))))
def te_214 : Nat → eE := (e_T 40 te_214_0 te_214_22)
theorem te_214_ok : ∀ pc, e_EOq eft cls elay eI n_214 pc (te_214 pc) := (e_Tok2 (te_214_0_ok) (te_214_22_ok))
theorem ho_215 : (xm_y n_215).cls = "RobotCellHouse" := rfl
def dn_215_0_0 : List (Nat × Instr × Nat) := [(0, .iload_n 1, 1), (1, .invokestatic 178, 3), (4, .ifCond .ne 5, 3), (7, .iconst (-1), 1), (8, .ireturn, 1), (9, .aload_n 0, 1), (10, .getfield 91, 3), (13, .ifCond .ne 6, 3), (16, .bipush (-2), 2), (18, .ireturn, 1), (19, .aload_n 0, 1), (20, .iconst 2, 1), (21, .iload_n 1, 1), (22, .iload_n 2, 1), (23, .iconst 0, 1), (24, .invokevirtual 255, 3), (27, .ireturn, 1)]
set_option maxRecDepth 20000 in
theorem dn_215_0_0_ok : dn_215_0_0.all (fun q => decide (decode (xm_b n_215) q.1 = .ok (q.2.1, q.2.2))) = true := xa_g_ok (by decide +kernel)
def te_215_0 : Nat → eE := (e_T 13 (e_T 7 (e_T 1 (e_T 0 (e_L 0 (0, ei_load 1 0 1, 0, 0)) (e_L 1 (2, e_nof, 245, 1))) (e_T 4 (e_L 4 (0, ei_if1 1 9 7, 0, 0)) (e_L 7 (0, ei_push (0, (-1)) 8, 0, 0)))) (e_T 9 (e_T 8 (e_L 8 (1, e_nof, 1, 0)) (e_L 9 (0, ei_load 0 2 10, 0, 0))) (e_T 10 (e_L 10 (0, ei_getf eft elay 11 13 13, 0, 0)) (e_L 13 (0, ei_if1 1 19 16, 0, 0))))) (e_T 20 (e_T 18 (e_T 16 (e_L 16 (0, ei_push (0, (-2)) 18, 0, 0)) (e_L 18 (1, e_nof, 1, 0))) (e_T 19 (e_L 19 (0, ei_load 0 2 20, 0, 0)) (e_L 20 (0, ei_push (0, 2) 21, 0, 0)))) (e_T 22 (e_T 21 (e_L 21 (0, ei_load 1 0 22, 0, 0)) (e_L 22 (0, ei_load 2 0 23, 0, 0))) (e_T 23 (e_L 23 (0, ei_push (0, 0) 24, 0, 0)) (e_T 24 (e_L 24 (2, e_nof, 255, 5)) (e_L 27 (1, e_nof, 1, 0)))))))
set_option maxRecDepth 20000 in
set_option maxHeartbeats 4000000 in
theorem te_215_0_ok : ∀ pc, e_EOq eft cls elay eI n_215 pc (te_215_0 pc) :=
  (e_Tok2
  (e_Tok2
  (e_Tok2
  (e_Tok2
  (e_Lok (ld_iload_n_1 (x_dk dn_215_0_0_ok 0 rfl)))
  (e_Lok (lk_11_178 ho_215 (x_dk dn_215_0_0_ok 1 rfl))))
  (e_Tok2
  (e_Lok (e_st (I := eI) (er_ifne (off := 5) (tg := 9) (x_dk dn_215_0_0_ok 2 rfl) (by decide)) nx_if1))
  (e_Lok (ps_iconst_m1 (x_dk dn_215_0_0_ok 3 rfl)))))
  (e_Tok2
  (e_Tok2
  (e_Lok (e_rt (I := eI) (k := 1) ⟨(x_dk dn_215_0_0_ok 4 rfl), rfl⟩))
  (e_Lok (ld_aload_n_0 (x_dk dn_215_0_0_ok 5 rfl))))
  (e_Tok2
  (e_Lok (lk_11_91g ho_215 (x_dk dn_215_0_0_ok 6 rfl)))
  (e_Lok (e_st (I := eI) (er_ifne (off := 6) (tg := 19) (x_dk dn_215_0_0_ok 7 rfl) (by decide)) nx_if1)))))
  (e_Tok2
  (e_Tok2
  (e_Tok2
  (e_Lok (ps_bipush_m2 (x_dk dn_215_0_0_ok 8 rfl)))
  (e_Lok (e_rt (I := eI) (k := 1) ⟨(x_dk dn_215_0_0_ok 9 rfl), rfl⟩)))
  (e_Tok2
  (e_Lok (ld_aload_n_0 (x_dk dn_215_0_0_ok 10 rfl)))
  (e_Lok (ps_iconst_2 (x_dk dn_215_0_0_ok 11 rfl)))))
  (e_Tok2
  (e_Tok2
  (e_Lok (ld_iload_n_1 (x_dk dn_215_0_0_ok 12 rfl)))
  (e_Lok (ld_iload_n_2 (x_dk dn_215_0_0_ok 13 rfl))))
  (e_Tok2
  (e_Lok (ps_iconst_0 (x_dk dn_215_0_0_ok 14 rfl)))
  (e_Tok2
  (e_Lok (lk_11_255 ho_215 (x_dk dn_215_0_0_ok 15 rfl)))
  (e_Lok (e_rt (I := eI) (k := 1) ⟨(x_dk dn_215_0_0_ok 16 rfl), rfl⟩)))))))
def te_215 : Nat → eE := te_215_0
theorem te_215_ok : ∀ pc, e_EOq eft cls elay eI n_215 pc (te_215 pc) := te_215_0_ok
theorem ho_216 : (xm_y n_216).cls = "RobotCellHouse" := rfl
def dn_216_0_0 : List (Nat × Instr × Nat) := [(0, .iload_n 1, 1), (1, .invokestatic 178, 3), (4, .ifCond .ne 5, 3), (7, .iconst (-1), 1), (8, .ireturn, 1), (9, .aload_n 0, 1), (10, .getfield 91, 3), (13, .ifCond .ne 6, 3), (16, .bipush (-2), 2), (18, .ireturn, 1), (19, .aload_n 0, 1), (20, .iconst 3, 1), (21, .iload_n 1, 1), (22, .iload_n 2, 1), (23, .iload_n 3, 1), (24, .ifCond .eq 7, 3), (27, .iconst 1, 1), (28, .goto 4, 3), (31, .iconst 0, 1), (32, .invokevirtual 255, 3), (35, .ireturn, 1)]
set_option maxRecDepth 20000 in
theorem dn_216_0_0_ok : dn_216_0_0.all (fun q => decide (decode (xm_b n_216) q.1 = .ok (q.2.1, q.2.2))) = true := xa_g_ok (by decide +kernel)
def te_216_0 : Nat → eE := (e_T 18 (e_T 8 (e_T 1 (e_T 0 (e_L 0 (0, ei_load 1 0 1, 0, 0)) (e_L 1 (2, e_nof, 245, 1))) (e_T 4 (e_L 4 (0, ei_if1 1 9 7, 0, 0)) (e_T 7 (e_L 7 (0, ei_push (0, (-1)) 8, 0, 0)) (e_L 8 (1, e_nof, 1, 0))))) (e_T 10 (e_T 9 (e_L 9 (0, ei_load 0 2 10, 0, 0)) (e_L 10 (0, ei_getf eft elay 11 13 13, 0, 0))) (e_T 13 (e_L 13 (0, ei_if1 1 19 16, 0, 0)) (e_T 16 (e_L 16 (0, ei_push (0, (-2)) 18, 0, 0)) (e_L 18 (1, e_nof, 1, 0)))))) (e_T 23 (e_T 20 (e_T 19 (e_L 19 (0, ei_load 0 2 20, 0, 0)) (e_L 20 (0, ei_push (0, 3) 21, 0, 0))) (e_T 21 (e_L 21 (0, ei_load 1 0 22, 0, 0)) (e_T 22 (e_L 22 (0, ei_load 2 0 23, 0, 0)) (e_L 23 (0, ei_load 3 0 24, 0, 0))))) (e_T 28 (e_T 24 (e_L 24 (0, ei_if1 0 31 27, 0, 0)) (e_T 27 (e_L 27 (0, ei_push (0, 1) 28, 0, 0)) (e_L 28 (0, ei_goto 32, 0, 0)))) (e_T 31 (e_L 31 (0, ei_push (0, 0) 32, 0, 0)) (e_T 32 (e_L 32 (2, e_nof, 255, 5)) (e_L 35 (1, e_nof, 1, 0)))))))
set_option maxRecDepth 20000 in
set_option maxHeartbeats 4000000 in
theorem te_216_0_ok : ∀ pc, e_EOq eft cls elay eI n_216 pc (te_216_0 pc) :=
  (e_Tok2
  (e_Tok2
  (e_Tok2
  (e_Tok2
  (e_Lok (ld_iload_n_1 (x_dk dn_216_0_0_ok 0 rfl)))
  (e_Lok (lk_11_178 ho_216 (x_dk dn_216_0_0_ok 1 rfl))))
  (e_Tok2
  (e_Lok (e_st (I := eI) (er_ifne (off := 5) (tg := 9) (x_dk dn_216_0_0_ok 2 rfl) (by decide)) nx_if1))
  (e_Tok2
  (e_Lok (ps_iconst_m1 (x_dk dn_216_0_0_ok 3 rfl)))
  (e_Lok (e_rt (I := eI) (k := 1) ⟨(x_dk dn_216_0_0_ok 4 rfl), rfl⟩)))))
  (e_Tok2
  (e_Tok2
  (e_Lok (ld_aload_n_0 (x_dk dn_216_0_0_ok 5 rfl)))
  (e_Lok (lk_11_91g ho_216 (x_dk dn_216_0_0_ok 6 rfl))))
  (e_Tok2
  (e_Lok (e_st (I := eI) (er_ifne (off := 6) (tg := 19) (x_dk dn_216_0_0_ok 7 rfl) (by decide)) nx_if1))
  (e_Tok2
  (e_Lok (ps_bipush_m2 (x_dk dn_216_0_0_ok 8 rfl)))
  (e_Lok (e_rt (I := eI) (k := 1) ⟨(x_dk dn_216_0_0_ok 9 rfl), rfl⟩))))))
  (e_Tok2
  (e_Tok2
  (e_Tok2
  (e_Lok (ld_aload_n_0 (x_dk dn_216_0_0_ok 10 rfl)))
  (e_Lok (ps_iconst_3 (x_dk dn_216_0_0_ok 11 rfl))))
  (e_Tok2
  (e_Lok (ld_iload_n_1 (x_dk dn_216_0_0_ok 12 rfl)))
  (e_Tok2
  (e_Lok (ld_iload_n_2 (x_dk dn_216_0_0_ok 13 rfl)))
  (e_Lok (ld_iload_n_3 (x_dk dn_216_0_0_ok 14 rfl))))))
  (e_Tok2
  (e_Tok2
  (e_Lok (e_st (I := eI) (er_ifeq (off := 7) (tg := 31) (x_dk dn_216_0_0_ok 15 rfl) (by decide)) nx_if1))
  (e_Tok2
  (e_Lok (ps_iconst_1 (x_dk dn_216_0_0_ok 16 rfl)))
  (e_Lok (e_st (I := eI) (er_goto (off := 4) (tg := 32) (x_dk dn_216_0_0_ok 17 rfl) (by decide)) nx_goto))))
  (e_Tok2
  (e_Lok (ps_iconst_0 (x_dk dn_216_0_0_ok 18 rfl)))
  (e_Tok2
  (e_Lok (lk_11_255 ho_216 (x_dk dn_216_0_0_ok 19 rfl)))
  (e_Lok (e_rt (I := eI) (k := 1) ⟨(x_dk dn_216_0_0_ok 20 rfl), rfl⟩)))))))
def te_216 : Nat → eE := te_216_0
theorem te_216_ok : ∀ pc, e_EOq eft cls elay eI n_216 pc (te_216 pc) := te_216_0_ok
theorem ho_217 : (xm_y n_217).cls = "RobotCellHouse" := rfl
def dn_217_0_0 : List (Nat × Instr × Nat) := [(0, .iload_n 1, 1), (1, .iconst 0, 1), (2, .aload_n 0, 1), (3, .getfield 42, 3), (6, .getfield 204, 3), (9, .iconst 1, 1), (10, .isub, 1), (11, .invokestatic 82, 3), (14, .ifCond .ne 5, 3), (17, .iconst (-1), 1), (18, .ireturn, 1), (19, .aload_n 0, 1), (20, .getfield 91, 3), (23, .ifCond .ne 6, 3), (26, .bipush (-2), 2), (28, .ireturn, 1), (29, .aload_n 0, 1), (30, .iconst 4, 1), (31, .iload_n 1, 1), (32, .iload_n 2, 1), (33, .ifCond .eq 7, 3), (36, .iconst 1, 1), (37, .goto 4, 3), (40, .iconst 0, 1), (41, .iload_n 3, 1)]
set_option maxRecDepth 20000 in
theorem dn_217_0_0_ok : dn_217_0_0.all (fun q => decide (decode (xm_b n_217) q.1 = .ok (q.2.1, q.2.2))) = true := xa_g_ok (by decide +kernel)
def dn_217_0_1 : List (Nat × Instr × Nat) := [(42, .ifCond .eq 7, 3), (45, .iconst 1, 1), (46, .goto 4, 3), (49, .iconst 0, 1), (50, .invokevirtual 255, 3), (53, .ireturn, 1)]
set_option maxRecDepth 20000 in
theorem dn_217_0_1_ok : dn_217_0_1.all (fun q => decide (decode (xm_b n_217) q.1 = .ok (q.2.1, q.2.2))) = true := xa_g_ok (by decide +kernel)
def te_217_0 : Nat → eE := (e_T 26 (e_T 10 (e_T 2 (e_T 0 (e_L 0 (0, ei_load 1 0 1, 0, 0)) (e_T 1 (e_L 1 (0, ei_push (0, 0) 2, 0, 0)) (e_L 2 (0, ei_load 0 2 3, 0, 0)))) (e_T 6 (e_T 3 (e_L 3 (0, ei_getf eft elay 11 5 6, 0, 0)) (e_L 6 (0, ei_getf eft elay 2 2 9, 0, 0))) (e_T 9 (e_L 9 (0, ei_push (0, 1) 10, 0, 0)) (e_L 10 (0, ei_bin eF_sub 11, 0, 0))))) (e_T 18 (e_T 14 (e_T 11 (e_L 11 (2, e_nof, 242, 3)) (e_L 14 (0, ei_if1 1 19 17, 0, 0))) (e_T 17 (e_L 17 (0, ei_push (0, (-1)) 18, 0, 0)) (e_L 18 (1, e_nof, 1, 0)))) (e_T 20 (e_T 19 (e_L 19 (0, ei_load 0 2 20, 0, 0)) (e_L 20 (0, ei_getf eft elay 11 13 23, 0, 0))) (e_T 23 (e_L 23 (0, ei_if1 1 29 26, 0, 0)) (e_L 26 (0, ei_push (0, (-2)) 28, 0, 0)))))) (e_T 37 (e_T 31 (e_T 29 (e_T 28 (e_L 28 (1, e_nof, 1, 0)) (e_L 29 (0, ei_load 0 2 30, 0, 0))) (e_T 30 (e_L 30 (0, ei_push (0, 4) 31, 0, 0)) (e_L 31 (0, ei_load 1 0 32, 0, 0)))) (e_T 33 (e_T 32 (e_L 32 (0, ei_load 2 0 33, 0, 0)) (e_L 33 (0, ei_if1 0 40 36, 0, 0))) (e_T 36 (e_L 36 (0, ei_push (0, 1) 37, 0, 0)) (e_L 37 (0, ei_goto 41, 0, 0))))) (e_T 45 (e_T 41 (e_T 40 (e_L 40 (0, ei_push (0, 0) 41, 0, 0)) (e_L 41 (0, ei_load 3 0 42, 0, 0))) (e_T 42 (e_L 42 (0, ei_if1 0 49 45, 0, 0)) (e_L 45 (0, ei_push (0, 1) 46, 0, 0)))) (e_T 49 (e_T 46 (e_L 46 (0, ei_goto 50, 0, 0)) (e_L 49 (0, ei_push (0, 0) 50, 0, 0))) (e_T 50 (e_L 50 (2, e_nof, 255, 5)) (e_L 53 (1, e_nof, 1, 0)))))))
set_option maxRecDepth 20000 in
set_option maxHeartbeats 4000000 in
theorem te_217_0_ok : ∀ pc, e_EOq eft cls elay eI n_217 pc (te_217_0 pc) :=
  (e_Tok2
  (e_Tok2
  (e_Tok2
  (e_Tok2
  (e_Lok (ld_iload_n_1 (x_dk dn_217_0_0_ok 0 rfl)))
  (e_Tok2
  (e_Lok (ps_iconst_0 (x_dk dn_217_0_0_ok 1 rfl)))
  (e_Lok (ld_aload_n_0 (x_dk dn_217_0_0_ok 2 rfl)))))
  (e_Tok2
  (e_Tok2
  (e_Lok (lk_11_42g ho_217 (x_dk dn_217_0_0_ok 3 rfl)))
  (e_Lok (lk_11_204g ho_217 (x_dk dn_217_0_0_ok 4 rfl))))
  (e_Tok2
  (e_Lok (ps_iconst_1 (x_dk dn_217_0_0_ok 5 rfl)))
  (e_Lok (sm_isub (x_dk dn_217_0_0_ok 6 rfl))))))
  (e_Tok2
  (e_Tok2
  (e_Tok2
  (e_Lok (lk_11_82 ho_217 (x_dk dn_217_0_0_ok 7 rfl)))
  (e_Lok (e_st (I := eI) (er_ifne (off := 5) (tg := 19) (x_dk dn_217_0_0_ok 8 rfl) (by decide)) nx_if1)))
  (e_Tok2
  (e_Lok (ps_iconst_m1 (x_dk dn_217_0_0_ok 9 rfl)))
  (e_Lok (e_rt (I := eI) (k := 1) ⟨(x_dk dn_217_0_0_ok 10 rfl), rfl⟩))))
  (e_Tok2
  (e_Tok2
  (e_Lok (ld_aload_n_0 (x_dk dn_217_0_0_ok 11 rfl)))
  (e_Lok (lk_11_91g ho_217 (x_dk dn_217_0_0_ok 12 rfl))))
  (e_Tok2
  (e_Lok (e_st (I := eI) (er_ifne (off := 6) (tg := 29) (x_dk dn_217_0_0_ok 13 rfl) (by decide)) nx_if1))
  (e_Lok (ps_bipush_m2 (x_dk dn_217_0_0_ok 14 rfl)))))))
  (e_Tok2
  (e_Tok2
  (e_Tok2
  (e_Tok2
  (e_Lok (e_rt (I := eI) (k := 1) ⟨(x_dk dn_217_0_0_ok 15 rfl), rfl⟩))
  (e_Lok (ld_aload_n_0 (x_dk dn_217_0_0_ok 16 rfl))))
  (e_Tok2
  (e_Lok (ps_iconst_4 (x_dk dn_217_0_0_ok 17 rfl)))
  (e_Lok (ld_iload_n_1 (x_dk dn_217_0_0_ok 18 rfl)))))
  (e_Tok2
  (e_Tok2
  (e_Lok (ld_iload_n_2 (x_dk dn_217_0_0_ok 19 rfl)))
  (e_Lok (e_st (I := eI) (er_ifeq (off := 7) (tg := 40) (x_dk dn_217_0_0_ok 20 rfl) (by decide)) nx_if1)))
  (e_Tok2
  (e_Lok (ps_iconst_1 (x_dk dn_217_0_0_ok 21 rfl)))
  (e_Lok (e_st (I := eI) (er_goto (off := 4) (tg := 41) (x_dk dn_217_0_0_ok 22 rfl) (by decide)) nx_goto)))))
  (e_Tok2
  (e_Tok2
  (e_Tok2
  (e_Lok (ps_iconst_0 (x_dk dn_217_0_0_ok 23 rfl)))
  (e_Lok (ld_iload_n_3 (x_dk dn_217_0_0_ok 24 rfl))))
  (e_Tok2
  (e_Lok (e_st (I := eI) (er_ifeq (off := 7) (tg := 49) (x_dk dn_217_0_1_ok 0 rfl) (by decide)) nx_if1))
  (e_Lok (ps_iconst_1 (x_dk dn_217_0_1_ok 1 rfl)))))
  (e_Tok2
  (e_Tok2
  (e_Lok (e_st (I := eI) (er_goto (off := 4) (tg := 50) (x_dk dn_217_0_1_ok 2 rfl) (by decide)) nx_goto))
  (e_Lok (ps_iconst_0 (x_dk dn_217_0_1_ok 3 rfl))))
  (e_Tok2
  (e_Lok (lk_11_255 ho_217 (x_dk dn_217_0_1_ok 4 rfl)))
  (e_Lok (e_rt (I := eI) (k := 1) ⟨(x_dk dn_217_0_1_ok 5 rfl), rfl⟩)))))))
def te_217 : Nat → eE := te_217_0
theorem te_217_ok : ∀ pc, e_EOq eft cls elay eI n_217 pc (te_217 pc) := te_217_0_ok
theorem ho_218 : (xm_y n_218).cls = "RobotCellHouse" := rfl
def dn_218_0_0 : List (Nat × Instr × Nat) := [(0, .iload_n 1, 1), (1, .iconst 0, 1), (2, .bipush 7, 2), (4, .invokestatic 82, 3), (7, .ifCond .ne 5, 3), (10, .iconst (-1), 1), (11, .ireturn, 1), (12, .aload_n 0, 1), (13, .getfield 91, 3), (16, .ifCond .eq 35, 3), (19, .aload_n 0, 1), (20, .getfield 42, 3), (23, .getfield 210, 3), (26, .iload_n 1, 1), (27, .baload, 1), (28, .ifCond .eq 23, 3), (31, .aload_n 0, 1), (32, .getfield 42, 3), (35, .getfield 274, 3), (38, .ifCond .ne 13, 3), (41, .aload_n 0, 1), (42, .getfield 42, 3), (45, .invokevirtual 277, 3), (48, .ifCond .ne 6, 3), (51, .bipush (-2), 2)]
set_option maxRecDepth 20000 in
theorem dn_218_0_0_ok : dn_218_0_0.all (fun q => decide (decode (xm_b n_218) q.1 = .ok (q.2.1, q.2.2))) = true := xa_g_ok (by decide +kernel)
def dn_218_0_1 : List (Nat × Instr × Nat) := [(53, .ireturn, 1), (54, .aload_n 0, 1), (55, .iconst 5, 1), (56, .iload_n 1, 1), (57, .iconst 0, 1), (58, .iconst 0, 1), (59, .invokevirtual 255, 3), (62, .ireturn, 1)]
set_option maxRecDepth 20000 in
theorem dn_218_0_1_ok : dn_218_0_1.all (fun q => decide (decode (xm_b n_218) q.1 = .ok (q.2.1, q.2.2))) = true := xa_g_ok (by decide +kernel)
def te_218_0 : Nat → eE := (e_T 28 (e_T 12 (e_T 4 (e_T 1 (e_T 0 (e_L 0 (0, ei_load 1 0 1, 0, 0)) (e_L 1 (0, ei_push (0, 0) 2, 0, 0))) (e_T 2 (e_L 2 (0, ei_push (0, 7) 4, 0, 0)) (e_L 4 (2, e_nof, 242, 3)))) (e_T 10 (e_T 7 (e_L 7 (0, ei_if1 1 12 10, 0, 0)) (e_L 10 (0, ei_push (0, (-1)) 11, 0, 0))) (e_T 11 (e_L 11 (1, e_nof, 1, 0)) (e_L 12 (0, ei_load 0 2 13, 0, 0))))) (e_T 20 (e_T 16 (e_T 13 (e_L 13 (0, ei_getf eft elay 11 13 16, 0, 0)) (e_L 16 (0, ei_if1 0 51 19, 0, 0))) (e_T 19 (e_L 19 (0, ei_load 0 2 20, 0, 0)) (e_L 20 (0, ei_getf eft elay 11 5 23, 0, 0)))) (e_T 26 (e_T 23 (e_L 23 (0, ei_getf eft elay 2 10 26, 0, 0)) (e_L 26 (0, ei_load 1 0 27, 0, 0))) (e_T 27 (e_L 27 (0, ei_ald elay true 28, 0, 0)) (e_L 28 (0, ei_if1 0 51 31, 0, 0)))))) (e_T 48 (e_T 38 (e_T 32 (e_T 31 (e_L 31 (0, ei_load 0 2 32, 0, 0)) (e_L 32 (0, ei_getf eft elay 11 5 35, 0, 0))) (e_T 35 (e_L 35 (0, ei_getf eft elay 2 3 38, 0, 0)) (e_L 38 (0, ei_if1 1 51 41, 0, 0)))) (e_T 42 (e_T 41 (e_L 41 (0, ei_load 0 2 42, 0, 0)) (e_L 42 (0, ei_getf eft elay 11 5 45, 0, 0))) (e_T 45 (e_L 45 (2, e_nof, 31, 1)) (e_L 48 (0, ei_if1 1 54 51, 0, 0))))) (e_T 55 (e_T 53 (e_T 51 (e_L 51 (0, ei_push (0, (-2)) 53, 0, 0)) (e_L 53 (1, e_nof, 1, 0))) (e_T 54 (e_L 54 (0, ei_load 0 2 55, 0, 0)) (e_L 55 (0, ei_push (0, 5) 56, 0, 0)))) (e_T 57 (e_T 56 (e_L 56 (0, ei_load 1 0 57, 0, 0)) (e_L 57 (0, ei_push (0, 0) 58, 0, 0))) (e_T 58 (e_L 58 (0, ei_push (0, 0) 59, 0, 0)) (e_T 59 (e_L 59 (2, e_nof, 255, 5)) (e_L 62 (1, e_nof, 1, 0))))))))
set_option maxRecDepth 20000 in
set_option maxHeartbeats 4000000 in
theorem te_218_0_ok : ∀ pc, e_EOq eft cls elay eI n_218 pc (te_218_0 pc) :=
  (e_Tok2
  (e_Tok2
  (e_Tok2
  (e_Tok2
  (e_Tok2
  (e_Lok (ld_iload_n_1 (x_dk dn_218_0_0_ok 0 rfl)))
  (e_Lok (ps_iconst_0 (x_dk dn_218_0_0_ok 1 rfl))))
  (e_Tok2
  (e_Lok (ps_bipush_7 (x_dk dn_218_0_0_ok 2 rfl)))
  (e_Lok (lk_11_82 ho_218 (x_dk dn_218_0_0_ok 3 rfl)))))
  (e_Tok2
  (e_Tok2
  (e_Lok (e_st (I := eI) (er_ifne (off := 5) (tg := 12) (x_dk dn_218_0_0_ok 4 rfl) (by decide)) nx_if1))
  (e_Lok (ps_iconst_m1 (x_dk dn_218_0_0_ok 5 rfl))))
  (e_Tok2
  (e_Lok (e_rt (I := eI) (k := 1) ⟨(x_dk dn_218_0_0_ok 6 rfl), rfl⟩))
  (e_Lok (ld_aload_n_0 (x_dk dn_218_0_0_ok 7 rfl))))))
  (e_Tok2
  (e_Tok2
  (e_Tok2
  (e_Lok (lk_11_91g ho_218 (x_dk dn_218_0_0_ok 8 rfl)))
  (e_Lok (e_st (I := eI) (er_ifeq (off := 35) (tg := 51) (x_dk dn_218_0_0_ok 9 rfl) (by decide)) nx_if1)))
  (e_Tok2
  (e_Lok (ld_aload_n_0 (x_dk dn_218_0_0_ok 10 rfl)))
  (e_Lok (lk_11_42g ho_218 (x_dk dn_218_0_0_ok 11 rfl)))))
  (e_Tok2
  (e_Tok2
  (e_Lok (lk_11_210g ho_218 (x_dk dn_218_0_0_ok 12 rfl)))
  (e_Lok (ld_iload_n_1 (x_dk dn_218_0_0_ok 13 rfl))))
  (e_Tok2
  (e_Lok (e_st (I := eI) (er_baload (x_dk dn_218_0_0_ok 14 rfl)) nx_ald))
  (e_Lok (e_st (I := eI) (er_ifeq (off := 23) (tg := 51) (x_dk dn_218_0_0_ok 15 rfl) (by decide)) nx_if1))))))
  (e_Tok2
  (e_Tok2
  (e_Tok2
  (e_Tok2
  (e_Lok (ld_aload_n_0 (x_dk dn_218_0_0_ok 16 rfl)))
  (e_Lok (lk_11_42g ho_218 (x_dk dn_218_0_0_ok 17 rfl))))
  (e_Tok2
  (e_Lok (lk_11_274g ho_218 (x_dk dn_218_0_0_ok 18 rfl)))
  (e_Lok (e_st (I := eI) (er_ifne (off := 13) (tg := 51) (x_dk dn_218_0_0_ok 19 rfl) (by decide)) nx_if1))))
  (e_Tok2
  (e_Tok2
  (e_Lok (ld_aload_n_0 (x_dk dn_218_0_0_ok 20 rfl)))
  (e_Lok (lk_11_42g ho_218 (x_dk dn_218_0_0_ok 21 rfl))))
  (e_Tok2
  (e_Lok (lk_11_277 ho_218 (x_dk dn_218_0_0_ok 22 rfl)))
  (e_Lok (e_st (I := eI) (er_ifne (off := 6) (tg := 54) (x_dk dn_218_0_0_ok 23 rfl) (by decide)) nx_if1)))))
  (e_Tok2
  (e_Tok2
  (e_Tok2
  (e_Lok (ps_bipush_m2 (x_dk dn_218_0_0_ok 24 rfl)))
  (e_Lok (e_rt (I := eI) (k := 1) ⟨(x_dk dn_218_0_1_ok 0 rfl), rfl⟩)))
  (e_Tok2
  (e_Lok (ld_aload_n_0 (x_dk dn_218_0_1_ok 1 rfl)))
  (e_Lok (ps_iconst_5 (x_dk dn_218_0_1_ok 2 rfl)))))
  (e_Tok2
  (e_Tok2
  (e_Lok (ld_iload_n_1 (x_dk dn_218_0_1_ok 3 rfl)))
  (e_Lok (ps_iconst_0 (x_dk dn_218_0_1_ok 4 rfl))))
  (e_Tok2
  (e_Lok (ps_iconst_0 (x_dk dn_218_0_1_ok 5 rfl)))
  (e_Tok2
  (e_Lok (lk_11_255 ho_218 (x_dk dn_218_0_1_ok 6 rfl)))
  (e_Lok (e_rt (I := eI) (k := 1) ⟨(x_dk dn_218_0_1_ok 7 rfl), rfl⟩))))))))
def te_218 : Nat → eE := te_218_0
theorem te_218_ok : ∀ pc, e_EOq eft cls elay eI n_218 pc (te_218 pc) := te_218_0_ok
theorem ho_219 : (xm_y n_219).cls = "RobotCellHouse" := rfl
def dn_219_0_0 : List (Nat × Instr × Nat) := [(0, .iload_n 1, 1), (1, .iconst (-1), 1), (2, .if_icmp .eq 13, 3), (5, .aload_n 0, 1), (6, .iload_n 1, 1), (7, .invokevirtual 103, 3), (10, .ifCond .ne 5, 3), (13, .iconst (-1), 1), (14, .ireturn, 1), (15, .aload_n 0, 1), (16, .getfield 91, 3), (19, .ifCond .eq 18, 3), (22, .iload_n 1, 1), (23, .iconst (-1), 1), (24, .if_icmp .ne 16, 3), (27, .aload_n 0, 1), (28, .getfield 42, 3), (31, .getfield 274, 3), (34, .ifCond .ne 6, 3), (37, .bipush (-2), 2), (39, .ireturn, 1), (40, .aload_n 0, 1), (41, .bipush 6, 2), (43, .iload_n 1, 1), (44, .iconst 0, 1)]
set_option maxRecDepth 20000 in
theorem dn_219_0_0_ok : dn_219_0_0.all (fun q => decide (decode (xm_b n_219) q.1 = .ok (q.2.1, q.2.2))) = true := xa_g_ok (by decide +kernel)
def dn_219_0_1 : List (Nat × Instr × Nat) := [(45, .iconst 0, 1), (46, .invokevirtual 255, 3), (49, .ireturn, 1)]
set_option maxRecDepth 20000 in
theorem dn_219_0_1_ok : dn_219_0_1.all (fun q => decide (decode (xm_b n_219) q.1 = .ok (q.2.1, q.2.2))) = true := xa_g_ok (by decide +kernel)
def te_219_0 : Nat → eE := (e_T 23 (e_T 10 (e_T 2 (e_T 0 (e_L 0 (0, ei_load 1 0 1, 0, 0)) (e_T 1 (e_L 1 (0, ei_push (0, (-1)) 2, 0, 0)) (e_L 2 (0, ei_if2 0 15 5, 0, 0)))) (e_T 6 (e_T 5 (e_L 5 (0, ei_load 0 2 6, 0, 0)) (e_L 6 (0, ei_load 1 0 7, 0, 0))) (e_T 7 (e_L 7 (2, e_nof, 246, 2)) (e_L 10 (0, ei_if1 1 15 13, 0, 0))))) (e_T 15 (e_T 13 (e_L 13 (0, ei_push (0, (-1)) 14, 0, 0)) (e_T 14 (e_L 14 (1, e_nof, 1, 0)) (e_L 15 (0, ei_load 0 2 16, 0, 0)))) (e_T 19 (e_T 16 (e_L 16 (0, ei_getf eft elay 11 13 19, 0, 0)) (e_L 19 (0, ei_if1 0 37 22, 0, 0))) (e_T 22 (e_L 22 (0, ei_load 1 0 23, 0, 0)) (e_L 23 (0, ei_push (0, (-1)) 24, 0, 0)))))) (e_T 39 (e_T 28 (e_T 24 (e_L 24 (0, ei_if2 1 40 27, 0, 0)) (e_T 27 (e_L 27 (0, ei_load 0 2 28, 0, 0)) (e_L 28 (0, ei_getf eft elay 11 5 31, 0, 0)))) (e_T 34 (e_T 31 (e_L 31 (0, ei_getf eft elay 2 3 34, 0, 0)) (e_L 34 (0, ei_if1 1 40 37, 0, 0))) (e_T 37 (e_L 37 (0, ei_push (0, (-2)) 39, 0, 0)) (e_L 39 (1, e_nof, 1, 0))))) (e_T 43 (e_T 40 (e_L 40 (0, ei_load 0 2 41, 0, 0)) (e_T 41 (e_L 41 (0, ei_push (0, 6) 43, 0, 0)) (e_L 43 (0, ei_load 1 0 44, 0, 0)))) (e_T 45 (e_T 44 (e_L 44 (0, ei_push (0, 0) 45, 0, 0)) (e_L 45 (0, ei_push (0, 0) 46, 0, 0))) (e_T 46 (e_L 46 (2, e_nof, 255, 5)) (e_L 49 (1, e_nof, 1, 0)))))))
set_option maxRecDepth 20000 in
set_option maxHeartbeats 4000000 in
theorem te_219_0_ok : ∀ pc, e_EOq eft cls elay eI n_219 pc (te_219_0 pc) :=
  (e_Tok2
  (e_Tok2
  (e_Tok2
  (e_Tok2
  (e_Lok (ld_iload_n_1 (x_dk dn_219_0_0_ok 0 rfl)))
  (e_Tok2
  (e_Lok (ps_iconst_m1 (x_dk dn_219_0_0_ok 1 rfl)))
  (e_Lok (e_st (I := eI) (er_icmpeq (off := 13) (tg := 15) (x_dk dn_219_0_0_ok 2 rfl) (by decide)) nx_if2))))
  (e_Tok2
  (e_Tok2
  (e_Lok (ld_aload_n_0 (x_dk dn_219_0_0_ok 3 rfl)))
  (e_Lok (ld_iload_n_1 (x_dk dn_219_0_0_ok 4 rfl))))
  (e_Tok2
  (e_Lok (lk_11_103 ho_219 (x_dk dn_219_0_0_ok 5 rfl)))
  (e_Lok (e_st (I := eI) (er_ifne (off := 5) (tg := 15) (x_dk dn_219_0_0_ok 6 rfl) (by decide)) nx_if1)))))
  (e_Tok2
  (e_Tok2
  (e_Lok (ps_iconst_m1 (x_dk dn_219_0_0_ok 7 rfl)))
  (e_Tok2
  (e_Lok (e_rt (I := eI) (k := 1) ⟨(x_dk dn_219_0_0_ok 8 rfl), rfl⟩))
  (e_Lok (ld_aload_n_0 (x_dk dn_219_0_0_ok 9 rfl)))))
  (e_Tok2
  (e_Tok2
  (e_Lok (lk_11_91g ho_219 (x_dk dn_219_0_0_ok 10 rfl)))
  (e_Lok (e_st (I := eI) (er_ifeq (off := 18) (tg := 37) (x_dk dn_219_0_0_ok 11 rfl) (by decide)) nx_if1)))
  (e_Tok2
  (e_Lok (ld_iload_n_1 (x_dk dn_219_0_0_ok 12 rfl)))
  (e_Lok (ps_iconst_m1 (x_dk dn_219_0_0_ok 13 rfl)))))))
  (e_Tok2
  (e_Tok2
  (e_Tok2
  (e_Lok (e_st (I := eI) (er_icmpne (off := 16) (tg := 40) (x_dk dn_219_0_0_ok 14 rfl) (by decide)) nx_if2))
  (e_Tok2
  (e_Lok (ld_aload_n_0 (x_dk dn_219_0_0_ok 15 rfl)))
  (e_Lok (lk_11_42g ho_219 (x_dk dn_219_0_0_ok 16 rfl)))))
  (e_Tok2
  (e_Tok2
  (e_Lok (lk_11_274g ho_219 (x_dk dn_219_0_0_ok 17 rfl)))
  (e_Lok (e_st (I := eI) (er_ifne (off := 6) (tg := 40) (x_dk dn_219_0_0_ok 18 rfl) (by decide)) nx_if1)))
  (e_Tok2
  (e_Lok (ps_bipush_m2 (x_dk dn_219_0_0_ok 19 rfl)))
  (e_Lok (e_rt (I := eI) (k := 1) ⟨(x_dk dn_219_0_0_ok 20 rfl), rfl⟩)))))
  (e_Tok2
  (e_Tok2
  (e_Lok (ld_aload_n_0 (x_dk dn_219_0_0_ok 21 rfl)))
  (e_Tok2
  (e_Lok (ps_bipush_6 (x_dk dn_219_0_0_ok 22 rfl)))
  (e_Lok (ld_iload_n_1 (x_dk dn_219_0_0_ok 23 rfl)))))
  (e_Tok2
  (e_Tok2
  (e_Lok (ps_iconst_0 (x_dk dn_219_0_0_ok 24 rfl)))
  (e_Lok (ps_iconst_0 (x_dk dn_219_0_1_ok 0 rfl))))
  (e_Tok2
  (e_Lok (lk_11_255 ho_219 (x_dk dn_219_0_1_ok 1 rfl)))
  (e_Lok (e_rt (I := eI) (k := 1) ⟨(x_dk dn_219_0_1_ok 2 rfl), rfl⟩)))))))
def te_219 : Nat → eE := te_219_0
theorem te_219_ok : ∀ pc, e_EOq eft cls elay eI n_219 pc (te_219 pc) := te_219_0_ok
end
