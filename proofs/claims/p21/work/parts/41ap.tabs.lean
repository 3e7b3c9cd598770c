noncomputable section
theorem ho_220 : (xm_y n_220).cls = "RobotCellHouse" := rfl
def dn_220_0_0 : List (Nat × Instr × Nat) := [(0, .aload_n 0, 1), (1, .iload_n 1, 1), (2, .invokevirtual 103, 3), (5, .ifCond .ne 5, 3), (8, .iconst (-1), 1), (9, .ireturn, 1), (10, .aload_n 0, 1), (11, .getfield 91, 3), (14, .ifCond .eq 15, 3), (17, .aload_n 0, 1), (18, .getfield 27, 3), (21, .iload_n 1, 1), (22, .aaload, 1), (23, .getfield 280, 3), (26, .ifCond .ge 6, 3), (29, .bipush (-2), 2), (31, .ireturn, 1), (32, .aload_n 0, 1), (33, .bipush 7, 2), (35, .iload_n 1, 1), (36, .iconst 0, 1), (37, .iconst 0, 1), (38, .invokevirtual 255, 3), (41, .ireturn, 1)]
set_option maxRecDepth 20000 in
theorem dn_220_0_0_ok : dn_220_0_0.all (fun q => decide (decode (xm_b n_220) q.1 = .ok (q.2.1, q.2.2))) = true := xa_g_ok (by decide +kernel)
def te_220_0 : Nat → eE := (e_T 21 (e_T 9 (e_T 2 (e_T 0 (e_L 0 (0, ei_load 0 2 1, 0, 0)) (e_T 1 (e_L 1 (0, ei_load 1 0 2, 0, 0)) (e_L 2 (2, e_nof, 246, 2)))) (e_T 5 (e_L 5 (0, ei_if1 1 10 8, 0, 0)) (e_T 8 (e_L 8 (0, ei_push (0, (-1)) 9, 0, 0)) (e_L 9 (1, e_nof, 1, 0))))) (e_T 14 (e_T 10 (e_L 10 (0, ei_load 0 2 11, 0, 0)) (e_T 11 (e_L 11 (0, ei_getf eft elay 11 13 14, 0, 0)) (e_L 14 (0, ei_if1 0 29 17, 0, 0)))) (e_T 17 (e_L 17 (0, ei_load 0 2 18, 0, 0)) (e_T 18 (e_L 18 (0, ei_getf eft elay 11 2 21, 0, 0)) (e_L 21 (0, ei_load 1 0 22, 0, 0)))))) (e_T 32 (e_T 26 (e_T 22 (e_L 22 (0, ei_aald elay 23, 0, 0)) (e_T 23 (e_L 23 (0, ei_getf eft elay 0 16 26, 0, 0)) (e_L 26 (0, ei_if1 3 32 29, 0, 0)))) (e_T 29 (e_L 29 (0, ei_push (0, (-2)) 31, 0, 0)) (e_T 31 (e_L 31 (1, e_nof, 1, 0)) (e_L 32 (0, ei_load 0 2 33, 0, 0))))) (e_T 36 (e_T 33 (e_L 33 (0, ei_push (0, 7) 35, 0, 0)) (e_T 35 (e_L 35 (0, ei_load 1 0 36, 0, 0)) (e_L 36 (0, ei_push (0, 0) 37, 0, 0)))) (e_T 37 (e_L 37 (0, ei_push (0, 0) 38, 0, 0)) (e_T 38 (e_L 38 (2, e_nof, 255, 5)) (e_L 41 (1, e_nof, 1, 0)))))))
set_option maxRecDepth 20000 in
set_option maxHeartbeats 4000000 in
theorem te_220_0_ok : ∀ pc, e_EOq eft cls elay eI n_220 pc (te_220_0 pc) :=
  (e_Tok2
  (e_Tok2
  (e_Tok2
  (e_Tok2
  (e_Lok (ld_aload_n_0 (x_dk dn_220_0_0_ok 0 rfl)))
  (e_Tok2
  (e_Lok (ld_iload_n_1 (x_dk dn_220_0_0_ok 1 rfl)))
  (e_Lok (lk_11_103 ho_220 (x_dk dn_220_0_0_ok 2 rfl)))))
  (e_Tok2
  (e_Lok (e_st (I := eI) (er_ifne (off := 5) (tg := 10) (x_dk dn_220_0_0_ok 3 rfl) (by decide)) nx_if1))
  (e_Tok2
  (e_Lok (ps_iconst_m1 (x_dk dn_220_0_0_ok 4 rfl)))
  (e_Lok (e_rt (I := eI) (k := 1) ⟨(x_dk dn_220_0_0_ok 5 rfl), rfl⟩)))))
  (e_Tok2
  (e_Tok2
  (e_Lok (ld_aload_n_0 (x_dk dn_220_0_0_ok 6 rfl)))
  (e_Tok2
  (e_Lok (lk_11_91g ho_220 (x_dk dn_220_0_0_ok 7 rfl)))
  (e_Lok (e_st (I := eI) (er_ifeq (off := 15) (tg := 29) (x_dk dn_220_0_0_ok 8 rfl) (by decide)) nx_if1))))
  (e_Tok2
  (e_Lok (ld_aload_n_0 (x_dk dn_220_0_0_ok 9 rfl)))
  (e_Tok2
  (e_Lok (lk_11_27g ho_220 (x_dk dn_220_0_0_ok 10 rfl)))
  (e_Lok (ld_iload_n_1 (x_dk dn_220_0_0_ok 11 rfl)))))))
  (e_Tok2
  (e_Tok2
  (e_Tok2
  (e_Lok (e_st (I := eI) (er_aaload (x_dk dn_220_0_0_ok 12 rfl)) nx_aald))
  (e_Tok2
  (e_Lok (lk_11_280g ho_220 (x_dk dn_220_0_0_ok 13 rfl)))
  (e_Lok (e_st (I := eI) (er_ifge (off := 6) (tg := 32) (x_dk dn_220_0_0_ok 14 rfl) (by decide)) nx_if1))))
  (e_Tok2
  (e_Lok (ps_bipush_m2 (x_dk dn_220_0_0_ok 15 rfl)))
  (e_Tok2
  (e_Lok (e_rt (I := eI) (k := 1) ⟨(x_dk dn_220_0_0_ok 16 rfl), rfl⟩))
  (e_Lok (ld_aload_n_0 (x_dk dn_220_0_0_ok 17 rfl))))))
  (e_Tok2
  (e_Tok2
  (e_Lok (ps_bipush_7 (x_dk dn_220_0_0_ok 18 rfl)))
  (e_Tok2
  (e_Lok (ld_iload_n_1 (x_dk dn_220_0_0_ok 19 rfl)))
  (e_Lok (ps_iconst_0 (x_dk dn_220_0_0_ok 20 rfl)))))
  (e_Tok2
  (e_Lok (ps_iconst_0 (x_dk dn_220_0_0_ok 21 rfl)))
  (e_Tok2
  (e_Lok (lk_11_255 ho_220 (x_dk dn_220_0_0_ok 22 rfl)))
  (e_Lok (e_rt (I := eI) (k := 1) ⟨(x_dk dn_220_0_0_ok 23 rfl), rfl⟩)))))))
def te_220 : Nat → eE := te_220_0
theorem te_220_ok : ∀ pc, e_EOq eft cls elay eI n_220 pc (te_220 pc) := te_220_0_ok
theorem ho_221 : (xm_y n_221).cls = "RobotCellHouse" := rfl
def dn_221_0_0 : List (Nat × Instr × Nat) := [(0, .aload_n 0, 1), (1, .iload_n 1, 1), (2, .iload_n 2, 1), (3, .invokevirtual 119, 3), (6, .ifCond .eq 21, 3), (9, .aload_n 0, 1), (10, .getfield 27, 3), (13, .iload_n 1, 1), (14, .aaload, 1), (15, .getfield 123, 3), (18, .iload_n 2, 1), (19, .aaload, 1), (20, .iload_n 3, 1), (21, .invokevirtual 283, 3), (24, .ifCond .ne 5, 3), (27, .iconst (-1), 1), (28, .ireturn, 1), (29, .aload_n 0, 1), (30, .getfield 91, 3), (33, .ifCond .eq 13, 3), (36, .aload_n 0, 1), (37, .getfield 42, 3), (40, .getfield 274, 3), (43, .ifCond .eq 6, 3), (46, .bipush (-2), 2)]
set_option maxRecDepth 20000 in
theorem dn_221_0_0_ok : dn_221_0_0.all (fun q => decide (decode (xm_b n_221) q.1 = .ok (q.2.1, q.2.2))) = true := xa_g_ok (by decide +kernel)
def dn_221_0_1 : List (Nat × Instr × Nat) := [(48, .ireturn, 1), (49, .aload_n 0, 1), (50, .bipush 8, 2), (52, .iload_n 1, 1), (53, .iload_n 2, 1), (54, .iload_n 3, 1), (55, .invokevirtual 255, 3), (58, .ireturn, 1)]
set_option maxRecDepth 20000 in
theorem dn_221_0_1_ok : dn_221_0_1.all (fun q => decide (decode (xm_b n_221) q.1 = .ok (q.2.1, q.2.2))) = true := xa_g_ok (by decide +kernel)
def te_221_0 : Nat → eE := (e_T 27 (e_T 13 (e_T 3 (e_T 1 (e_T 0 (e_L 0 (0, ei_load 0 2 1, 0, 0)) (e_L 1 (0, ei_load 1 0 2, 0, 0))) (e_T 2 (e_L 2 (0, ei_load 2 0 3, 0, 0)) (e_L 3 (2, e_nof, 247, 3)))) (e_T 9 (e_T 6 (e_L 6 (0, ei_if1 0 27 9, 0, 0)) (e_L 9 (0, ei_load 0 2 10, 0, 0))) (e_T 10 (e_L 10 (0, ei_getf eft elay 11 2 13, 0, 0)) (e_L 13 (0, ei_load 1 0 14, 0, 0))))) (e_T 19 (e_T 15 (e_T 14 (e_L 14 (0, ei_aald elay 15, 0, 0)) (e_L 15 (0, ei_getf eft elay 0 0 18, 0, 0))) (e_T 18 (e_L 18 (0, ei_load 2 0 19, 0, 0)) (e_L 19 (0, ei_aald elay 20, 0, 0)))) (e_T 21 (e_T 20 (e_L 20 (0, ei_load 3 0 21, 0, 0)) (e_L 21 (2, e_nof, 89, 2))) (e_T 24 (e_L 24 (0, ei_if1 1 29 27, 0, 0)) (e_L 27 (0, ei_push (0, (-1)) 28, 0, 0)))))) (e_T 43 (e_T 33 (e_T 29 (e_T 28 (e_L 28 (1, e_nof, 1, 0)) (e_L 29 (0, ei_load 0 2 30, 0, 0))) (e_T 30 (e_L 30 (0, ei_getf eft elay 11 13 33, 0, 0)) (e_L 33 (0, ei_if1 0 46 36, 0, 0)))) (e_T 37 (e_T 36 (e_L 36 (0, ei_load 0 2 37, 0, 0)) (e_L 37 (0, ei_getf eft elay 11 5 40, 0, 0))) (e_T 40 (e_L 40 (0, ei_getf eft elay 2 3 43, 0, 0)) (e_L 43 (0, ei_if1 0 49 46, 0, 0))))) (e_T 50 (e_T 48 (e_T 46 (e_L 46 (0, ei_push (0, (-2)) 48, 0, 0)) (e_L 48 (1, e_nof, 1, 0))) (e_T 49 (e_L 49 (0, ei_load 0 2 50, 0, 0)) (e_L 50 (0, ei_push (0, 8) 52, 0, 0)))) (e_T 53 (e_T 52 (e_L 52 (0, ei_load 1 0 53, 0, 0)) (e_L 53 (0, ei_load 2 0 54, 0, 0))) (e_T 54 (e_L 54 (0, ei_load 3 0 55, 0, 0)) (e_T 55 (e_L 55 (2, e_nof, 255, 5)) (e_L 58 (1, e_nof, 1, 0))))))))
set_option maxRecDepth 20000 in
set_option maxHeartbeats 4000000 in
theorem te_221_0_ok : ∀ pc, e_EOq eft cls elay eI n_221 pc (te_221_0 pc) :=
  (e_Tok2
  (e_Tok2
  (e_Tok2
  (e_Tok2
  (e_Tok2
  (e_Lok (ld_aload_n_0 (x_dk dn_221_0_0_ok 0 rfl)))
  (e_Lok (ld_iload_n_1 (x_dk dn_221_0_0_ok 1 rfl))))
  (e_Tok2
  (e_Lok (ld_iload_n_2 (x_dk dn_221_0_0_ok 2 rfl)))
  (e_Lok (lk_11_119 ho_221 (x_dk dn_221_0_0_ok 3 rfl)))))
  (e_Tok2
  (e_Tok2
  (e_Lok (e_st (I := eI) (er_ifeq (off := 21) (tg := 27) (x_dk dn_221_0_0_ok 4 rfl) (by decide)) nx_if1))
  (e_Lok (ld_aload_n_0 (x_dk dn_221_0_0_ok 5 rfl))))
  (e_Tok2
  (e_Lok (lk_11_27g ho_221 (x_dk dn_221_0_0_ok 6 rfl)))
  (e_Lok (ld_iload_n_1 (x_dk dn_221_0_0_ok 7 rfl))))))
  (e_Tok2
  (e_Tok2
  (e_Tok2
  (e_Lok (e_st (I := eI) (er_aaload (x_dk dn_221_0_0_ok 8 rfl)) nx_aald))
  (e_Lok (lk_11_123g ho_221 (x_dk dn_221_0_0_ok 9 rfl))))
  (e_Tok2
  (e_Lok (ld_iload_n_2 (x_dk dn_221_0_0_ok 10 rfl)))
  (e_Lok (e_st (I := eI) (er_aaload (x_dk dn_221_0_0_ok 11 rfl)) nx_aald))))
  (e_Tok2
  (e_Tok2
  (e_Lok (ld_iload_n_3 (x_dk dn_221_0_0_ok 12 rfl)))
  (e_Lok (lk_11_283 ho_221 (x_dk dn_221_0_0_ok 13 rfl))))
  (e_Tok2
  (e_Lok (e_st (I := eI) (er_ifne (off := 5) (tg := 29) (x_dk dn_221_0_0_ok 14 rfl) (by decide)) nx_if1))
  (e_Lok (ps_iconst_m1 (x_dk dn_221_0_0_ok 15 rfl)))))))
  (e_Tok2
  (e_Tok2
  (e_Tok2
  (e_Tok2
  (e_Lok (e_rt (I := eI) (k := 1) ⟨(x_dk dn_221_0_0_ok 16 rfl), rfl⟩))
  (e_Lok (ld_aload_n_0 (x_dk dn_221_0_0_ok 17 rfl))))
  (e_Tok2
  (e_Lok (lk_11_91g ho_221 (x_dk dn_221_0_0_ok 18 rfl)))
  (e_Lok (e_st (I := eI) (er_ifeq (off := 13) (tg := 46) (x_dk dn_221_0_0_ok 19 rfl) (by decide)) nx_if1))))
  (e_Tok2
  (e_Tok2
  (e_Lok (ld_aload_n_0 (x_dk dn_221_0_0_ok 20 rfl)))
  (e_Lok (lk_11_42g ho_221 (x_dk dn_221_0_0_ok 21 rfl))))
  (e_Tok2
  (e_Lok (lk_11_274g ho_221 (x_dk dn_221_0_0_ok 22 rfl)))
  (e_Lok (e_st (I := eI) (er_ifeq (off := 6) (tg := 49) (x_dk dn_221_0_0_ok 23 rfl) (by decide)) nx_if1)))))
  (e_Tok2
  (e_Tok2
  (e_Tok2
  (e_Lok (ps_bipush_m2 (x_dk dn_221_0_0_ok 24 rfl)))
  (e_Lok (e_rt (I := eI) (k := 1) ⟨(x_dk dn_221_0_1_ok 0 rfl), rfl⟩)))
  (e_Tok2
  (e_Lok (ld_aload_n_0 (x_dk dn_221_0_1_ok 1 rfl)))
  (e_Lok (ps_bipush_8 (x_dk dn_221_0_1_ok 2 rfl)))))
  (e_Tok2
  (e_Tok2
  (e_Lok (ld_iload_n_1 (x_dk dn_221_0_1_ok 3 rfl)))
  (e_Lok (ld_iload_n_2 (x_dk dn_221_0_1_ok 4 rfl))))
  (e_Tok2
  (e_Lok (ld_iload_n_3 (x_dk dn_221_0_1_ok 5 rfl)))
  (e_Tok2
  (e_Lok (lk_11_255 ho_221 (x_dk dn_221_0_1_ok 6 rfl)))
  (e_Lok (e_rt (I := eI) (k := 1) ⟨(x_dk dn_221_0_1_ok 7 rfl), rfl⟩))))))))
def te_221 : Nat → eE := te_221_0
theorem te_221_ok : ∀ pc, e_EOq eft cls elay eI n_221 pc (te_221 pc) := te_221_0_ok
theorem ho_222 : (xm_y n_222).cls = "RobotCellHouse" := rfl
def dn_222_0_0 : List (Nat × Instr × Nat) := [(0, .iload_n 1, 1), (1, .iconst 0, 1), (2, .iconst 5, 1), (3, .invokestatic 82, 3), (6, .ifCond .ne 5, 3), (9, .iconst (-1), 1), (10, .ireturn, 1), (11, .aload_n 0, 1), (12, .getfield 91, 3), (15, .ifCond .ne 6, 3), (18, .bipush (-2), 2), (20, .ireturn, 1), (21, .aload_n 0, 1), (22, .bipush 9, 2), (24, .iload_n 1, 1), (25, .iload_n 2, 1), (26, .iconst 0, 1), (27, .invokevirtual 255, 3), (30, .ireturn, 1)]
set_option maxRecDepth 20000 in
theorem dn_222_0_0_ok : dn_222_0_0.all (fun q => decide (decode (xm_b n_222) q.1 = .ok (q.2.1, q.2.2))) = true := xa_g_ok (by decide +kernel)
def te_222_0 : Nat → eE := (e_T 12 (e_T 3 (e_T 1 (e_T 0 (e_L 0 (0, ei_load 1 0 1, 0, 0)) (e_L 1 (0, ei_push (0, 0) 2, 0, 0))) (e_T 2 (e_L 2 (0, ei_push (0, 5) 3, 0, 0)) (e_L 3 (2, e_nof, 242, 3)))) (e_T 9 (e_T 6 (e_L 6 (0, ei_if1 1 11 9, 0, 0)) (e_L 9 (0, ei_push (0, (-1)) 10, 0, 0))) (e_T 10 (e_L 10 (1, e_nof, 1, 0)) (e_T 11 (e_L 11 (0, ei_load 0 2 12, 0, 0)) (e_L 12 (0, ei_getf eft elay 11 13 15, 0, 0)))))) (e_T 22 (e_T 18 (e_T 15 (e_L 15 (0, ei_if1 1 21 18, 0, 0)) (e_L 18 (0, ei_push (0, (-2)) 20, 0, 0))) (e_T 20 (e_L 20 (1, e_nof, 1, 0)) (e_T 21 (e_L 21 (0, ei_load 0 2 22, 0, 0)) (e_L 22 (0, ei_push (0, 9) 24, 0, 0))))) (e_T 25 (e_T 24 (e_L 24 (0, ei_load 1 0 25, 0, 0)) (e_L 25 (0, ei_load 2 0 26, 0, 0))) (e_T 26 (e_L 26 (0, ei_push (0, 0) 27, 0, 0)) (e_T 27 (e_L 27 (2, e_nof, 255, 5)) (e_L 30 (1, e_nof, 1, 0)))))))
set_option maxRecDepth 20000 in
set_option maxHeartbeats 4000000 in
theorem te_222_0_ok : ∀ pc, e_EOq eft cls elay eI n_222 pc (te_222_0 pc) :=
  (e_Tok2
  (e_Tok2
  (e_Tok2
  (e_Tok2
  (e_Lok (ld_iload_n_1 (x_dk dn_222_0_0_ok 0 rfl)))
  (e_Lok (ps_iconst_0 (x_dk dn_222_0_0_ok 1 rfl))))
  (e_Tok2
  (e_Lok (ps_iconst_5 (x_dk dn_222_0_0_ok 2 rfl)))
  (e_Lok (lk_11_82 ho_222 (x_dk dn_222_0_0_ok 3 rfl)))))
  (e_Tok2
  (e_Tok2
  (e_Lok (e_st (I := eI) (er_ifne (off := 5) (tg := 11) (x_dk dn_222_0_0_ok 4 rfl) (by decide)) nx_if1))
  (e_Lok (ps_iconst_m1 (x_dk dn_222_0_0_ok 5 rfl))))
  (e_Tok2
  (e_Lok (e_rt (I := eI) (k := 1) ⟨(x_dk dn_222_0_0_ok 6 rfl), rfl⟩))
  (e_Tok2
  (e_Lok (ld_aload_n_0 (x_dk dn_222_0_0_ok 7 rfl)))
  (e_Lok (lk_11_91g ho_222 (x_dk dn_222_0_0_ok 8 rfl)))))))
  (e_Tok2
  (e_Tok2
  (e_Tok2
  (e_Lok (e_st (I := eI) (er_ifne (off := 6) (tg := 21) (x_dk dn_222_0_0_ok 9 rfl) (by decide)) nx_if1))
  (e_Lok (ps_bipush_m2 (x_dk dn_222_0_0_ok 10 rfl))))
  (e_Tok2
  (e_Lok (e_rt (I := eI) (k := 1) ⟨(x_dk dn_222_0_0_ok 11 rfl), rfl⟩))
  (e_Tok2
  (e_Lok (ld_aload_n_0 (x_dk dn_222_0_0_ok 12 rfl)))
  (e_Lok (ps_bipush_9 (x_dk dn_222_0_0_ok 13 rfl))))))
  (e_Tok2
  (e_Tok2
  (e_Lok (ld_iload_n_1 (x_dk dn_222_0_0_ok 14 rfl)))
  (e_Lok (ld_iload_n_2 (x_dk dn_222_0_0_ok 15 rfl))))
  (e_Tok2
  (e_Lok (ps_iconst_0 (x_dk dn_222_0_0_ok 16 rfl)))
  (e_Tok2
  (e_Lok (lk_11_255 ho_222 (x_dk dn_222_0_0_ok 17 rfl)))
  (e_Lok (e_rt (I := eI) (k := 1) ⟨(x_dk dn_222_0_0_ok 18 rfl), rfl⟩)))))))
def te_222 : Nat → eE := te_222_0
theorem te_222_ok : ∀ pc, e_EOq eft cls elay eI n_222 pc (te_222 pc) := te_222_0_ok
theorem ho_223 : (xm_y n_223).cls = "RobotCellHouse" := rfl
def dn_223_0_0 : List (Nat × Instr × Nat) := [(0, .aload_n 0, 1), (1, .iload_n 1, 1), (2, .invokevirtual 103, 3), (5, .ifCond .eq 24, 3), (8, .iload_n 2, 1), (9, .iconst 1, 1), (10, .bipush 16, 2), (12, .invokestatic 82, 3), (15, .ifCond .eq 14, 3), (18, .iload_n 3, 1), (19, .iconst 0, 1), (20, .sipush 2000, 3), (23, .invokestatic 82, 3), (26, .ifCond .ne 5, 3), (29, .iconst (-1), 1), (30, .ireturn, 1), (31, .aload_n 0, 1), (32, .getfield 91, 3), (35, .ifCond .eq 15, 3), (38, .aload_n 0, 1), (39, .getfield 27, 3), (42, .iload_n 1, 1), (43, .aaload, 1), (44, .getfield 286, 3), (47, .ifCond .eq 6, 3)]
set_option maxRecDepth 20000 in
theorem dn_223_0_0_ok : dn_223_0_0.all (fun q => decide (decode (xm_b n_223) q.1 = .ok (q.2.1, q.2.2))) = true := xa_g_ok (by decide +kernel)
def dn_223_0_1 : List (Nat × Instr × Nat) := [(50, .bipush (-2), 2), (52, .ireturn, 1), (53, .aload_n 0, 1), (54, .getfield 53, 3), (57, .aload_n 0, 1), (58, .getfield 27, 3), (61, .iload_n 1, 1), (62, .aaload, 1), (63, .iload_n 2, 1), (64, .iload_n 3, 1), (65, .invokevirtual 289, 3), (68, .ifCond .eq 15, 3), (71, .aload_n 0, 1), (72, .getfield 53, 3), (75, .getfield 293, 3), (78, .bipush 60, 2), (80, .if_icmp .lt 6, 3), (83, .bipush (-3), 2), (85, .ireturn, 1), (86, .aload_n 0, 1), (87, .getfield 53, 3), (90, .getfield 293, 3), (93, .istore 4, 2), (95, .aload_n 0, 1), (96, .getfield 53, 3)]
set_option maxRecDepth 20000 in
theorem dn_223_0_1_ok : dn_223_0_1.all (fun q => decide (decode (xm_b n_223) q.1 = .ok (q.2.1, q.2.2))) = true := xa_g_ok (by decide +kernel)
def dn_223_0_2 : List (Nat × Instr × Nat) := [(99, .dup, 1), (100, .getfield 293, 3), (103, .iconst 1, 1), (104, .iadd, 1), (105, .putfield 293, 3), (108, .aload_n 0, 1), (109, .getfield 53, 3), (112, .aload_n 0, 1), (113, .getfield 27, 3), (116, .iload_n 1, 1), (117, .aaload, 1), (118, .aload_n 0, 1), (119, .getfield 57, 3), (122, .invokevirtual 296, 3), (125, .istore 5, 2), (127, .iload 5, 2), (129, .ifCond .lt 28, 3), (132, .aload_n 0, 1), (133, .getfield 53, 3), (136, .aload_n 0, 1), (137, .getfield 27, 3), (140, .aload_n 0, 1), (141, .getfield 94, 3), (144, .aload_n 0, 1), (145, .getfield 46, 3)]
set_option maxRecDepth 20000 in
theorem dn_223_0_2_ok : dn_223_0_2.all (fun q => decide (decode (xm_b n_223) q.1 = .ok (q.2.1, q.2.2))) = true := xa_g_ok (by decide +kernel)
def dn_223_0_3 : List (Nat × Instr × Nat) := [(148, .iload_n 1, 1), (149, .iload 5, 2), (151, .invokevirtual 300, 3), (154, .ifCond .ne 6, 3), (157, .bipush (-2), 2), (159, .ireturn, 1), (160, .aload_n 0, 1), (161, .getfield 53, 3), (164, .iload 4, 2), (166, .iload 5, 2), (168, .invokevirtual 304, 3), (171, .aload_n 0, 1), (172, .bipush 10, 2), (174, .iload_n 1, 1), (175, .iload 4, 2), (177, .iconst 0, 1), (178, .invokevirtual 255, 3), (181, .ireturn, 1)]
set_option maxRecDepth 20000 in
theorem dn_223_0_3_ok : dn_223_0_3.all (fun q => decide (decode (xm_b n_223) q.1 = .ok (q.2.1, q.2.2))) = true := xa_g_ok (by decide +kernel)
def te_223_0 : Nat → eE := (e_T 19 (e_T 8 (e_T 1 (e_T 0 (e_L 0 (0, ei_load 0 2 1, 0, 0)) (e_L 1 (0, ei_load 1 0 2, 0, 0))) (e_T 2 (e_L 2 (2, e_nof, 246, 2)) (e_T 5 (e_L 5 (0, ei_if1 0 29 8, 0, 0)) (e_L 8 (0, ei_load 2 0 9, 0, 0))))) (e_T 12 (e_T 9 (e_L 9 (0, ei_push (0, 1) 10, 0, 0)) (e_T 10 (e_L 10 (0, ei_push (0, 16) 12, 0, 0)) (e_L 12 (2, e_nof, 242, 3)))) (e_T 15 (e_L 15 (0, ei_if1 0 29 18, 0, 0)) (e_T 18 (e_L 18 (0, ei_load 3 0 19, 0, 0)) (e_L 19 (0, ei_push (0, 0) 20, 0, 0)))))) (e_T 31 (e_T 26 (e_T 20 (e_L 20 (0, ei_push (0, 2000) 23, 0, 0)) (e_T 23 (e_L 23 (2, e_nof, 242, 3)) (e_L 26 (0, ei_if1 1 31 29, 0, 0)))) (e_T 29 (e_L 29 (0, ei_push (0, (-1)) 30, 0, 0)) (e_T 30 (e_L 30 (1, e_nof, 1, 0)) (e_L 31 (0, ei_load 0 2 32, 0, 0))))) (e_T 38 (e_T 32 (e_L 32 (0, ei_getf eft elay 11 13 35, 0, 0)) (e_T 35 (e_L 35 (0, ei_if1 0 50 38, 0, 0)) (e_L 38 (0, ei_load 0 2 39, 0, 0)))) (e_T 39 (e_L 39 (0, ei_getf eft elay 11 2 42, 0, 0)) (e_T 42 (e_L 42 (0, ei_load 1 0 43, 0, 0)) (e_L 43 (0, ei_aald elay 44, 0, 0)))))))
set_option maxRecDepth 20000 in
set_option maxHeartbeats 4000000 in
theorem te_223_0_ok : ∀ pc, e_EOq eft cls elay eI n_223 pc (te_223_0 pc) :=
  (e_Tok2
  (e_Tok2
  (e_Tok2
  (e_Tok2
  (e_Lok (ld_aload_n_0 (x_dk dn_223_0_0_ok 0 rfl)))
  (e_Lok (ld_iload_n_1 (x_dk dn_223_0_0_ok 1 rfl))))
  (e_Tok2
  (e_Lok (lk_11_103 ho_223 (x_dk dn_223_0_0_ok 2 rfl)))
  (e_Tok2
  (e_Lok (e_st (I := eI) (er_ifeq (off := 24) (tg := 29) (x_dk dn_223_0_0_ok 3 rfl) (by decide)) nx_if1))
  (e_Lok (ld_iload_n_2 (x_dk dn_223_0_0_ok 4 rfl))))))
  (e_Tok2
  (e_Tok2
  (e_Lok (ps_iconst_1 (x_dk dn_223_0_0_ok 5 rfl)))
  (e_Tok2
  (e_Lok (ps_bipush_16 (x_dk dn_223_0_0_ok 6 rfl)))
  (e_Lok (lk_11_82 ho_223 (x_dk dn_223_0_0_ok 7 rfl)))))
  (e_Tok2
  (e_Lok (e_st (I := eI) (er_ifeq (off := 14) (tg := 29) (x_dk dn_223_0_0_ok 8 rfl) (by decide)) nx_if1))
  (e_Tok2
  (e_Lok (ld_iload_n_3 (x_dk dn_223_0_0_ok 9 rfl)))
  (e_Lok (ps_iconst_0 (x_dk dn_223_0_0_ok 10 rfl)))))))
  (e_Tok2
  (e_Tok2
  (e_Tok2
  (e_Lok (ps_sipush_2000 (x_dk dn_223_0_0_ok 11 rfl)))
  (e_Tok2
  (e_Lok (lk_11_82 ho_223 (x_dk dn_223_0_0_ok 12 rfl)))
  (e_Lok (e_st (I := eI) (er_ifne (off := 5) (tg := 31) (x_dk dn_223_0_0_ok 13 rfl) (by decide)) nx_if1))))
  (e_Tok2
  (e_Lok (ps_iconst_m1 (x_dk dn_223_0_0_ok 14 rfl)))
  (e_Tok2
  (e_Lok (e_rt (I := eI) (k := 1) ⟨(x_dk dn_223_0_0_ok 15 rfl), rfl⟩))
  (e_Lok (ld_aload_n_0 (x_dk dn_223_0_0_ok 16 rfl))))))
  (e_Tok2
  (e_Tok2
  (e_Lok (lk_11_91g ho_223 (x_dk dn_223_0_0_ok 17 rfl)))
  (e_Tok2
  (e_Lok (e_st (I := eI) (er_ifeq (off := 15) (tg := 50) (x_dk dn_223_0_0_ok 18 rfl) (by decide)) nx_if1))
  (e_Lok (ld_aload_n_0 (x_dk dn_223_0_0_ok 19 rfl)))))
  (e_Tok2
  (e_Lok (lk_11_27g ho_223 (x_dk dn_223_0_0_ok 20 rfl)))
  (e_Tok2
  (e_Lok (ld_iload_n_1 (x_dk dn_223_0_0_ok 21 rfl)))
  (e_Lok (e_st (I := eI) (er_aaload (x_dk dn_223_0_0_ok 22 rfl)) nx_aald)))))))
def te_223_23 : Nat → eE := (e_T 63 (e_T 53 (e_T 47 (e_T 44 (e_L 44 (0, ei_getf eft elay 0 11 47, 0, 0)) (e_L 47 (0, ei_if1 0 53 50, 0, 0))) (e_T 50 (e_L 50 (0, ei_push (0, (-2)) 52, 0, 0)) (e_T 52 (e_L 52 (1, e_nof, 1, 0)) (e_L 53 (0, ei_load 0 2 54, 0, 0))))) (e_T 58 (e_T 54 (e_L 54 (0, ei_getf eft elay 11 7 57, 0, 0)) (e_T 57 (e_L 57 (0, ei_load 0 2 58, 0, 0)) (e_L 58 (0, ei_getf eft elay 11 2 61, 0, 0)))) (e_T 61 (e_L 61 (0, ei_load 1 0 62, 0, 0)) (e_T 62 (e_L 62 (0, ei_aald elay 63, 0, 0)) (e_L 63 (0, ei_load 2 0 64, 0, 0)))))) (e_T 75 (e_T 68 (e_T 64 (e_L 64 (0, ei_load 3 0 65, 0, 0)) (e_T 65 (e_L 65 (2, e_nof, 98, 4)) (e_L 68 (0, ei_if1 0 83 71, 0, 0)))) (e_T 71 (e_L 71 (0, ei_load 0 2 72, 0, 0)) (e_T 72 (e_L 72 (0, ei_getf eft elay 11 7 75, 0, 0)) (e_L 75 (0, ei_getf eft elay 6 0 78, 0, 0))))) (e_T 83 (e_T 78 (e_L 78 (0, ei_push (0, 60) 80, 0, 0)) (e_T 80 (e_L 80 (0, ei_if2 2 86 83, 0, 0)) (e_L 83 (0, ei_push (0, (-3)) 85, 0, 0)))) (e_T 85 (e_L 85 (1, e_nof, 1, 0)) (e_T 86 (e_L 86 (0, ei_load 0 2 87, 0, 0)) (e_L 87 (0, ei_getf eft elay 11 7 90, 0, 0)))))))
set_option maxRecDepth 20000 in
set_option maxHeartbeats 4000000 in
theorem te_223_23_ok : ∀ pc, e_EOq eft cls elay eI n_223 pc (te_223_23 pc) :=
  (e_Tok2
  (e_Tok2
  (e_Tok2
  (e_Tok2
  (e_Lok (lk_11_286g ho_223 (x_dk dn_223_0_0_ok 23 rfl)))
  (e_Lok (e_st (I := eI) (er_ifeq (off := 6) (tg := 53) (x_dk dn_223_0_0_ok 24 rfl) (by decide)) nx_if1)))
  (e_Tok2
  (e_Lok (ps_bipush_m2 (x_dk dn_223_0_1_ok 0 rfl)))
  (e_Tok2
  (e_Lok (e_rt (I := eI) (k := 1) ⟨(x_dk dn_223_0_1_ok 1 rfl), rfl⟩))
  (e_Lok (ld_aload_n_0 (x_dk dn_223_0_1_ok 2 rfl))))))
  (e_Tok2
  (e_Tok2
  (e_Lok (lk_11_53g ho_223 (x_dk dn_223_0_1_ok 3 rfl)))
  (e_Tok2
  (e_Lok (ld_aload_n_0 (x_dk dn_223_0_1_ok 4 rfl)))
  (e_Lok (lk_11_27g ho_223 (x_dk dn_223_0_1_ok 5 rfl)))))
  (e_Tok2
  (e_Lok (ld_iload_n_1 (x_dk dn_223_0_1_ok 6 rfl)))
  (e_Tok2
  (e_Lok (e_st (I := eI) (er_aaload (x_dk dn_223_0_1_ok 7 rfl)) nx_aald))
  (e_Lok (ld_iload_n_2 (x_dk dn_223_0_1_ok 8 rfl)))))))
  (e_Tok2
  (e_Tok2
  (e_Tok2
  (e_Lok (ld_iload_n_3 (x_dk dn_223_0_1_ok 9 rfl)))
  (e_Tok2
  (e_Lok (lk_11_289 ho_223 (x_dk dn_223_0_1_ok 10 rfl)))
  (e_Lok (e_st (I := eI) (er_ifeq (off := 15) (tg := 83) (x_dk dn_223_0_1_ok 11 rfl) (by decide)) nx_if1))))
  (e_Tok2
  (e_Lok (ld_aload_n_0 (x_dk dn_223_0_1_ok 12 rfl)))
  (e_Tok2
  (e_Lok (lk_11_53g ho_223 (x_dk dn_223_0_1_ok 13 rfl)))
  (e_Lok (lk_11_293g ho_223 (x_dk dn_223_0_1_ok 14 rfl))))))
  (e_Tok2
  (e_Tok2
  (e_Lok (ps_bipush_60 (x_dk dn_223_0_1_ok 15 rfl)))
  (e_Tok2
  (e_Lok (e_st (I := eI) (er_icmplt (off := 6) (tg := 86) (x_dk dn_223_0_1_ok 16 rfl) (by decide)) nx_if2))
  (e_Lok (ps_bipush_m3 (x_dk dn_223_0_1_ok 17 rfl)))))
  (e_Tok2
  (e_Lok (e_rt (I := eI) (k := 1) ⟨(x_dk dn_223_0_1_ok 18 rfl), rfl⟩))
  (e_Tok2
  (e_Lok (ld_aload_n_0 (x_dk dn_223_0_1_ok 19 rfl)))
  (e_Lok (lk_11_53g ho_223 (x_dk dn_223_0_1_ok 20 rfl))))))))
def te_223_46 : Nat → eE := (e_T 109 (e_T 99 (e_T 93 (e_T 90 (e_L 90 (0, ei_getf eft elay 6 0 93, 0, 0)) (e_L 93 (0, ei_stor 4 0 95, 0, 0))) (e_T 95 (e_L 95 (0, ei_load 0 2 96, 0, 0)) (e_T 96 (e_L 96 (0, ei_getf eft elay 11 7 99, 0, 0)) (e_L 99 (0, ei_stk ef_dup 100, 0, 0))))) (e_T 104 (e_T 100 (e_L 100 (0, ei_getf eft elay 6 0 103, 0, 0)) (e_T 103 (e_L 103 (0, ei_push (0, 1) 104, 0, 0)) (e_L 104 (0, ei_bin eF_add 105, 0, 0)))) (e_T 105 (e_L 105 (0, ei_putf eft elay 6 0 0 108, 0, 0)) (e_T 108 (e_L 108 (0, ei_load 0 2 109, 0, 0)) (e_L 109 (0, ei_getf eft elay 11 7 112, 0, 0)))))) (e_T 119 (e_T 116 (e_T 112 (e_L 112 (0, ei_load 0 2 113, 0, 0)) (e_T 113 (e_L 113 (0, ei_getf eft elay 11 2 116, 0, 0)) (e_L 116 (0, ei_load 1 0 117, 0, 0)))) (e_T 117 (e_L 117 (0, ei_aald elay 118, 0, 0)) (e_T 118 (e_L 118 (0, ei_load 0 2 119, 0, 0)) (e_L 119 (0, ei_getf eft elay 11 8 122, 0, 0))))) (e_T 127 (e_T 122 (e_L 122 (2, e_nof, 99, 3)) (e_T 125 (e_L 125 (0, ei_stor 5 0 127, 0, 0)) (e_L 127 (0, ei_load 5 0 129, 0, 0)))) (e_T 129 (e_L 129 (0, ei_if1 2 157 132, 0, 0)) (e_T 132 (e_L 132 (0, ei_load 0 2 133, 0, 0)) (e_L 133 (0, ei_getf eft elay 11 7 136, 0, 0)))))))
set_option maxRecDepth 20000 in
set_option maxHeartbeats 4000000 in
theorem te_223_46_ok : ∀ pc, e_EOq eft cls elay eI n_223 pc (te_223_46 pc) :=
  (e_Tok2
  (e_Tok2
  (e_Tok2
  (e_Tok2
  (e_Lok (lk_11_293g ho_223 (x_dk dn_223_0_1_ok 21 rfl)))
  (e_Lok (e_st (I := eI) (er_istore (i := 4) (x_dk dn_223_0_1_ok 22 rfl) (by decide +kernel)) nx_stor)))
  (e_Tok2
  (e_Lok (ld_aload_n_0 (x_dk dn_223_0_1_ok 23 rfl)))
  (e_Tok2
  (e_Lok (lk_11_53g ho_223 (x_dk dn_223_0_1_ok 24 rfl)))
  (e_Lok (e_st (I := eI) (er_dup (x_dk dn_223_0_2_ok 0 rfl)) (nx_stk bf_dup))))))
  (e_Tok2
  (e_Tok2
  (e_Lok (lk_11_293g ho_223 (x_dk dn_223_0_2_ok 1 rfl)))
  (e_Tok2
  (e_Lok (ps_iconst_1 (x_dk dn_223_0_2_ok 2 rfl)))
  (e_Lok (sm_iadd (x_dk dn_223_0_2_ok 3 rfl)))))
  (e_Tok2
  (e_Lok (lk_11_293p ho_223 (x_dk dn_223_0_2_ok 4 rfl)))
  (e_Tok2
  (e_Lok (ld_aload_n_0 (x_dk dn_223_0_2_ok 5 rfl)))
  (e_Lok (lk_11_53g ho_223 (x_dk dn_223_0_2_ok 6 rfl)))))))
  (e_Tok2
  (e_Tok2
  (e_Tok2
  (e_Lok (ld_aload_n_0 (x_dk dn_223_0_2_ok 7 rfl)))
  (e_Tok2
  (e_Lok (lk_11_27g ho_223 (x_dk dn_223_0_2_ok 8 rfl)))
  (e_Lok (ld_iload_n_1 (x_dk dn_223_0_2_ok 9 rfl)))))
  (e_Tok2
  (e_Lok (e_st (I := eI) (er_aaload (x_dk dn_223_0_2_ok 10 rfl)) nx_aald))
  (e_Tok2
  (e_Lok (ld_aload_n_0 (x_dk dn_223_0_2_ok 11 rfl)))
  (e_Lok (lk_11_57g ho_223 (x_dk dn_223_0_2_ok 12 rfl))))))
  (e_Tok2
  (e_Tok2
  (e_Lok (lk_11_296 ho_223 (x_dk dn_223_0_2_ok 13 rfl)))
  (e_Tok2
  (e_Lok (e_st (I := eI) (er_istore (i := 5) (x_dk dn_223_0_2_ok 14 rfl) (by decide +kernel)) nx_stor))
  (e_Lok (ld_iload_5 (x_dk dn_223_0_2_ok 15 rfl)))))
  (e_Tok2
  (e_Lok (e_st (I := eI) (er_iflt (off := 28) (tg := 157) (x_dk dn_223_0_2_ok 16 rfl) (by decide)) nx_if1))
  (e_Tok2
  (e_Lok (ld_aload_n_0 (x_dk dn_223_0_2_ok 17 rfl)))
  (e_Lok (lk_11_53g ho_223 (x_dk dn_223_0_2_ok 18 rfl))))))))
def te_223_69 : Nat → eE := (e_T 159 (e_T 145 (e_T 140 (e_T 136 (e_L 136 (0, ei_load 0 2 137, 0, 0)) (e_T 137 (e_L 137 (0, ei_getf eft elay 11 2 140, 0, 0)) (e_L 140 (0, ei_load 0 2 141, 0, 0)))) (e_T 141 (e_L 141 (0, ei_getf eft elay 11 11 144, 0, 0)) (e_T 144 (e_L 144 (0, ei_load 0 2 145, 0, 0)) (e_L 145 (0, ei_getf eft elay 11 6 148, 0, 0))))) (e_T 151 (e_T 148 (e_L 148 (0, ei_load 1 0 149, 0, 0)) (e_T 149 (e_L 149 (0, ei_load 5 0 151, 0, 0)) (e_L 151 (2, e_nof, 100, 6)))) (e_T 154 (e_L 154 (0, ei_if1 1 160 157, 0, 0)) (e_T 157 (e_L 157 (0, ei_push (0, (-2)) 159, 0, 0)) (e_L 159 (1, e_nof, 1, 0)))))) (e_T 171 (e_T 164 (e_T 160 (e_L 160 (0, ei_load 0 2 161, 0, 0)) (e_T 161 (e_L 161 (0, ei_getf eft elay 11 7 164, 0, 0)) (e_L 164 (0, ei_load 4 0 166, 0, 0)))) (e_T 166 (e_L 166 (0, ei_load 5 0 168, 0, 0)) (e_T 168 (e_L 168 (2, e_nof, 105, 3)) (e_L 171 (0, ei_load 0 2 172, 0, 0))))) (e_T 175 (e_T 172 (e_L 172 (0, ei_push (0, 10) 174, 0, 0)) (e_T 174 (e_L 174 (0, ei_load 1 0 175, 0, 0)) (e_L 175 (0, ei_load 4 0 177, 0, 0)))) (e_T 177 (e_L 177 (0, ei_push (0, 0) 178, 0, 0)) (e_T 178 (e_L 178 (2, e_nof, 255, 5)) (e_L 181 (1, e_nof, 1, 0)))))))
set_option maxRecDepth 20000 in
set_option maxHeartbeats 4000000 in
theorem te_223_69_ok : ∀ pc, e_EOq eft cls elay eI n_223 pc (te_223_69 pc) :=
  (e_Tok2
  (e_Tok2
  (e_Tok2
  (e_Tok2
  (e_Lok (ld_aload_n_0 (x_dk dn_223_0_2_ok 19 rfl)))
  (e_Tok2
  (e_Lok (lk_11_27g ho_223 (x_dk dn_223_0_2_ok 20 rfl)))
  (e_Lok (ld_aload_n_0 (x_dk dn_223_0_2_ok 21 rfl)))))
  (e_Tok2
  (e_Lok (lk_11_94g ho_223 (x_dk dn_223_0_2_ok 22 rfl)))
  (e_Tok2
  (e_Lok (ld_aload_n_0 (x_dk dn_223_0_2_ok 23 rfl)))
  (e_Lok (lk_11_46g ho_223 (x_dk dn_223_0_2_ok 24 rfl))))))
  (e_Tok2
  (e_Tok2
  (e_Lok (ld_iload_n_1 (x_dk dn_223_0_3_ok 0 rfl)))
  (e_Tok2
  (e_Lok (ld_iload_5 (x_dk dn_223_0_3_ok 1 rfl)))
  (e_Lok (lk_11_300 ho_223 (x_dk dn_223_0_3_ok 2 rfl)))))
  (e_Tok2
  (e_Lok (e_st (I := eI) (er_ifne (off := 6) (tg := 160) (x_dk dn_223_0_3_ok 3 rfl) (by decide)) nx_if1))
  (e_Tok2
  (e_Lok (ps_bipush_m2 (x_dk dn_223_0_3_ok 4 rfl)))
  (e_Lok (e_rt (I := eI) (k := 1) ⟨(x_dk dn_223_0_3_ok 5 rfl), rfl⟩))))))
  (e_Tok2
  (e_Tok2
  (e_Tok2
  (e_Lok (ld_aload_n_0 (x_dk dn_223_0_3_ok 6 rfl)))
  (e_Tok2
  (e_Lok (lk_11_53g ho_223 (x_dk dn_223_0_3_ok 7 rfl)))
  (e_Lok (ld_iload_4 (x_dk dn_223_0_3_ok 8 rfl)))))
  (e_Tok2
  (e_Lok (ld_iload_5 (x_dk dn_223_0_3_ok 9 rfl)))
  (e_Tok2
  (e_Lok (lk_11_304 ho_223 (x_dk dn_223_0_3_ok 10 rfl)))
  (e_Lok (ld_aload_n_0 (x_dk dn_223_0_3_ok 11 rfl))))))
  (e_Tok2
  (e_Tok2
  (e_Lok (ps_bipush_10 (x_dk dn_223_0_3_ok 12 rfl)))
  (e_Tok2
  (e_Lok (ld_iload_n_1 (x_dk dn_223_0_3_ok 13 rfl)))
  (e_Lok (ld_iload_4 (x_dk dn_223_0_3_ok 14 rfl)))))
  (e_Tok2
  (e_Lok (ps_iconst_0 (x_dk dn_223_0_3_ok 15 rfl)))
  (e_Tok2
  (e_Lok (lk_11_255 ho_223 (x_dk dn_223_0_3_ok 16 rfl)))
  (e_Lok (e_rt (I := eI) (k := 1) ⟨(x_dk dn_223_0_3_ok 17 rfl), rfl⟩)))))))
def te_223 : Nat → eE := (e_T 87 (e_T 43 te_223_0 te_223_23) (e_T 133 te_223_46 te_223_69))
theorem te_223_ok : ∀ pc, e_EOq eft cls elay eI n_223 pc (te_223 pc) := (e_Tok2 ((e_Tok2 (te_223_0_ok) (te_223_23_ok))) ((e_Tok2 (te_223_46_ok) (te_223_69_ok))))
theorem ho_224 : (xm_y n_224).cls = "RobotCellHouse" := rfl
def dn_224_0_0 : List (Nat × Instr × Nat) := [(0, .aload_n 0, 1), (1, .iload_n 1, 1), (2, .invokevirtual 103, 3), (5, .ifCond .ne 5, 3), (8, .iconst (-1), 1), (9, .ireturn, 1), (10, .aload_n 0, 1), (11, .getfield 91, 3), (14, .ifCond .eq 27, 3), (17, .aload_n 0, 1), (18, .getfield 27, 3), (21, .iload_n 1, 1), (22, .aaload, 1), (23, .invokevirtual 308, 3), (26, .ifCond .eq 15, 3), (29, .aload_n 0, 1), (30, .getfield 27, 3), (33, .iload_n 1, 1), (34, .aaload, 1), (35, .getfield 286, 3), (38, .ifCond .eq 6, 3), (41, .bipush (-2), 2), (43, .ireturn, 1), (44, .aload_n 0, 1), (45, .getfield 27, 3)]
set_option maxRecDepth 20000 in
theorem dn_224_0_0_ok : dn_224_0_0.all (fun q => decide (decode (xm_b n_224) q.1 = .ok (q.2.1, q.2.2))) = true := xa_g_ok (by decide +kernel)
def dn_224_0_1 : List (Nat × Instr × Nat) := [(48, .iload_n 1, 1), (49, .aaload, 1), (50, .getfield 280, 3), (53, .ifCond .ge 13, 3), (56, .aload_n 0, 1), (57, .getfield 42, 3), (60, .getfield 274, 3), (63, .ifCond .ne 6, 3), (66, .bipush (-2), 2), (68, .ireturn, 1), (69, .aload_n 0, 1), (70, .bipush 11, 2), (72, .iload_n 1, 1), (73, .iconst 0, 1), (74, .iconst 0, 1), (75, .invokevirtual 255, 3), (78, .ireturn, 1)]
set_option maxRecDepth 20000 in
theorem dn_224_0_1_ok : dn_224_0_1.all (fun q => decide (decode (xm_b n_224) q.1 = .ok (q.2.1, q.2.2))) = true := xa_g_ok (by decide +kernel)
def te_224_0 : Nat → eE := (e_T 17 (e_T 8 (e_T 1 (e_T 0 (e_L 0 (0, ei_load 0 2 1, 0, 0)) (e_L 1 (0, ei_load 1 0 2, 0, 0))) (e_T 2 (e_L 2 (2, e_nof, 246, 2)) (e_T 5 (e_L 5 (0, ei_if1 1 10 8, 0, 0)) (e_L 8 (0, ei_push (0, (-1)) 9, 0, 0))))) (e_T 10 (e_T 9 (e_L 9 (1, e_nof, 1, 0)) (e_L 10 (0, ei_load 0 2 11, 0, 0))) (e_T 11 (e_L 11 (0, ei_getf eft elay 11 13 14, 0, 0)) (e_T 14 (e_L 14 (0, ei_if1 0 41 17, 0, 0)) (e_L 17 (0, ei_load 0 2 18, 0, 0)))))) (e_T 26 (e_T 21 (e_T 18 (e_L 18 (0, ei_getf eft elay 11 2 21, 0, 0)) (e_L 21 (0, ei_load 1 0 22, 0, 0))) (e_T 22 (e_L 22 (0, ei_aald elay 23, 0, 0)) (e_T 23 (e_L 23 (2, e_nof, 9, 1)) (e_L 26 (0, ei_if1 0 41 29, 0, 0))))) (e_T 33 (e_T 29 (e_L 29 (0, ei_load 0 2 30, 0, 0)) (e_T 30 (e_L 30 (0, ei_getf eft elay 11 2 33, 0, 0)) (e_L 33 (0, ei_load 1 0 34, 0, 0)))) (e_T 34 (e_L 34 (0, ei_aald elay 35, 0, 0)) (e_T 35 (e_L 35 (0, ei_getf eft elay 0 11 38, 0, 0)) (e_L 38 (0, ei_if1 0 44 41, 0, 0)))))))
set_option maxRecDepth 20000 in
set_option maxHeartbeats 4000000 in
theorem te_224_0_ok : ∀ pc, e_EOq eft cls elay eI n_224 pc (te_224_0 pc) :=
  (e_Tok2
  (e_Tok2
  (e_Tok2
  (e_Tok2
  (e_Lok (ld_aload_n_0 (x_dk dn_224_0_0_ok 0 rfl)))
  (e_Lok (ld_iload_n_1 (x_dk dn_224_0_0_ok 1 rfl))))
  (e_Tok2
  (e_Lok (lk_11_103 ho_224 (x_dk dn_224_0_0_ok 2 rfl)))
  (e_Tok2
  (e_Lok (e_st (I := eI) (er_ifne (off := 5) (tg := 10) (x_dk dn_224_0_0_ok 3 rfl) (by decide)) nx_if1))
  (e_Lok (ps_iconst_m1 (x_dk dn_224_0_0_ok 4 rfl))))))
  (e_Tok2
  (e_Tok2
  (e_Lok (e_rt (I := eI) (k := 1) ⟨(x_dk dn_224_0_0_ok 5 rfl), rfl⟩))
  (e_Lok (ld_aload_n_0 (x_dk dn_224_0_0_ok 6 rfl))))
  (e_Tok2
  (e_Lok (lk_11_91g ho_224 (x_dk dn_224_0_0_ok 7 rfl)))
  (e_Tok2
  (e_Lok (e_st (I := eI) (er_ifeq (off := 27) (tg := 41) (x_dk dn_224_0_0_ok 8 rfl) (by decide)) nx_if1))
  (e_Lok (ld_aload_n_0 (x_dk dn_224_0_0_ok 9 rfl)))))))
  (e_Tok2
  (e_Tok2
  (e_Tok2
  (e_Lok (lk_11_27g ho_224 (x_dk dn_224_0_0_ok 10 rfl)))
  (e_Lok (ld_iload_n_1 (x_dk dn_224_0_0_ok 11 rfl))))
  (e_Tok2
  (e_Lok (e_st (I := eI) (er_aaload (x_dk dn_224_0_0_ok 12 rfl)) nx_aald))
  (e_Tok2
  (e_Lok (lk_11_308 ho_224 (x_dk dn_224_0_0_ok 13 rfl)))
  (e_Lok (e_st (I := eI) (er_ifeq (off := 15) (tg := 41) (x_dk dn_224_0_0_ok 14 rfl) (by decide)) nx_if1)))))
  (e_Tok2
  (e_Tok2
  (e_Lok (ld_aload_n_0 (x_dk dn_224_0_0_ok 15 rfl)))
  (e_Tok2
  (e_Lok (lk_11_27g ho_224 (x_dk dn_224_0_0_ok 16 rfl)))
  (e_Lok (ld_iload_n_1 (x_dk dn_224_0_0_ok 17 rfl)))))
  (e_Tok2
  (e_Lok (e_st (I := eI) (er_aaload (x_dk dn_224_0_0_ok 18 rfl)) nx_aald))
  (e_Tok2
  (e_Lok (lk_11_286g ho_224 (x_dk dn_224_0_0_ok 19 rfl)))
  (e_Lok (e_st (I := eI) (er_ifeq (off := 6) (tg := 44) (x_dk dn_224_0_0_ok 20 rfl) (by decide)) nx_if1)))))))
def te_224_21 : Nat → eE := (e_T 57 (e_T 48 (e_T 43 (e_T 41 (e_L 41 (0, ei_push (0, (-2)) 43, 0, 0)) (e_L 43 (1, e_nof, 1, 0))) (e_T 44 (e_L 44 (0, ei_load 0 2 45, 0, 0)) (e_T 45 (e_L 45 (0, ei_getf eft elay 11 2 48, 0, 0)) (e_L 48 (0, ei_load 1 0 49, 0, 0))))) (e_T 50 (e_T 49 (e_L 49 (0, ei_aald elay 50, 0, 0)) (e_L 50 (0, ei_getf eft elay 0 16 53, 0, 0))) (e_T 53 (e_L 53 (0, ei_if1 3 66 56, 0, 0)) (e_T 56 (e_L 56 (0, ei_load 0 2 57, 0, 0)) (e_L 57 (0, ei_getf eft elay 11 5 60, 0, 0)))))) (e_T 69 (e_T 63 (e_T 60 (e_L 60 (0, ei_getf eft elay 2 3 63, 0, 0)) (e_L 63 (0, ei_if1 1 69 66, 0, 0))) (e_T 66 (e_L 66 (0, ei_push (0, (-2)) 68, 0, 0)) (e_T 68 (e_L 68 (1, e_nof, 1, 0)) (e_L 69 (0, ei_load 0 2 70, 0, 0))))) (e_T 73 (e_T 70 (e_L 70 (0, ei_push (0, 11) 72, 0, 0)) (e_T 72 (e_L 72 (0, ei_load 1 0 73, 0, 0)) (e_L 73 (0, ei_push (0, 0) 74, 0, 0)))) (e_T 74 (e_L 74 (0, ei_push (0, 0) 75, 0, 0)) (e_T 75 (e_L 75 (2, e_nof, 255, 5)) (e_L 78 (1, e_nof, 1, 0)))))))
set_option maxRecDepth 20000 in
set_option maxHeartbeats 4000000 in
theorem te_224_21_ok : ∀ pc, e_EOq eft cls elay eI n_224 pc (te_224_21 pc) :=
  (e_Tok2
  (e_Tok2
  (e_Tok2
  (e_Tok2
  (e_Lok (ps_bipush_m2 (x_dk dn_224_0_0_ok 21 rfl)))
  (e_Lok (e_rt (I := eI) (k := 1) ⟨(x_dk dn_224_0_0_ok 22 rfl), rfl⟩)))
  (e_Tok2
  (e_Lok (ld_aload_n_0 (x_dk dn_224_0_0_ok 23 rfl)))
  (e_Tok2
  (e_Lok (lk_11_27g ho_224 (x_dk dn_224_0_0_ok 24 rfl)))
  (e_Lok (ld_iload_n_1 (x_dk dn_224_0_1_ok 0 rfl))))))
  (e_Tok2
  (e_Tok2
  (e_Lok (e_st (I := eI) (er_aaload (x_dk dn_224_0_1_ok 1 rfl)) nx_aald))
  (e_Lok (lk_11_280g ho_224 (x_dk dn_224_0_1_ok 2 rfl))))
  (e_Tok2
  (e_Lok (e_st (I := eI) (er_ifge (off := 13) (tg := 66) (x_dk dn_224_0_1_ok 3 rfl) (by decide)) nx_if1))
  (e_Tok2
  (e_Lok (ld_aload_n_0 (x_dk dn_224_0_1_ok 4 rfl)))
  (e_Lok (lk_11_42g ho_224 (x_dk dn_224_0_1_ok 5 rfl)))))))
  (e_Tok2
  (e_Tok2
  (e_Tok2
  (e_Lok (lk_11_274g ho_224 (x_dk dn_224_0_1_ok 6 rfl)))
  (e_Lok (e_st (I := eI) (er_ifne (off := 6) (tg := 69) (x_dk dn_224_0_1_ok 7 rfl) (by decide)) nx_if1)))
  (e_Tok2
  (e_Lok (ps_bipush_m2 (x_dk dn_224_0_1_ok 8 rfl)))
  (e_Tok2
  (e_Lok (e_rt (I := eI) (k := 1) ⟨(x_dk dn_224_0_1_ok 9 rfl), rfl⟩))
  (e_Lok (ld_aload_n_0 (x_dk dn_224_0_1_ok 10 rfl))))))
  (e_Tok2
  (e_Tok2
  (e_Lok (ps_bipush_11 (x_dk dn_224_0_1_ok 11 rfl)))
  (e_Tok2
  (e_Lok (ld_iload_n_1 (x_dk dn_224_0_1_ok 12 rfl)))
  (e_Lok (ps_iconst_0 (x_dk dn_224_0_1_ok 13 rfl)))))
  (e_Tok2
  (e_Lok (ps_iconst_0 (x_dk dn_224_0_1_ok 14 rfl)))
  (e_Tok2
  (e_Lok (lk_11_255 ho_224 (x_dk dn_224_0_1_ok 15 rfl)))
  (e_Lok (e_rt (I := eI) (k := 1) ⟨(x_dk dn_224_0_1_ok 16 rfl), rfl⟩)))))))
def te_224 : Nat → eE := (e_T 38 te_224_0 te_224_21)
theorem te_224_ok : ∀ pc, e_EOq eft cls elay eI n_224 pc (te_224 pc) := (e_Tok2 (te_224_0_ok) (te_224_21_ok))
theorem ho_225 : (xm_y n_225).cls = "RobotCellHouse" := rfl
def dn_225_0_0 : List (Nat × Instr × Nat) := [(0, .iload_n 1, 1), (1, .iconst 0, 1), (2, .aload_n 0, 1), (3, .getfield 246, 3), (6, .invokestatic 82, 3), (9, .ifCond .ne 5, 3), (12, .iconst (-1), 1), (13, .ireturn, 1), (14, .aload_n 0, 1), (15, .getfield 91, 3), (18, .ifCond .ne 6, 3), (21, .bipush (-2), 2), (23, .ireturn, 1), (24, .iload_n 1, 1), (25, .aload_n 0, 1), (26, .getfield 246, 3), (29, .if_icmp .ne 11, 3), (32, .aload_n 0, 1), (33, .getfield 42, 3), (36, .getfield 86, 3), (39, .ireturn, 1), (40, .aload_n 0, 1), (41, .iload_n 1, 1), (42, .putfield 246, 3), (45, .aload_n 0, 1)]
set_option maxRecDepth 20000 in
theorem dn_225_0_0_ok : dn_225_0_0.all (fun q => decide (decode (xm_b n_225) q.1 = .ok (q.2.1, q.2.2))) = true := xa_g_ok (by decide +kernel)
def dn_225_0_1 : List (Nat × Instr × Nat) := [(46, .iconst 0, 1), (47, .putfield 67, 3), (50, .aload_n 0, 1), (51, .invokevirtual 249, 3), (54, .iconst 0, 1), (55, .istore_n 2, 1), (56, .iload_n 2, 1), (57, .iload_n 1, 1), (58, .if_icmp .ge 87, 3), (61, .iload_n 2, 1), (62, .iconst 4, 1), (63, .imul, 1), (64, .istore_n 3, 1), (65, .aload_n 0, 1), (66, .getfield 61, 3), (69, .iload_n 3, 1), (70, .iaload, 1), (71, .iconst 1, 1), (72, .if_icmp .eq 41, 3), (75, .aload_n 0, 1), (76, .aload_n 0, 1), (77, .getfield 61, 3), (80, .iload_n 3, 1), (81, .iaload, 1), (82, .aload_n 0, 1)]
set_option maxRecDepth 20000 in
theorem dn_225_0_1_ok : dn_225_0_1.all (fun q => decide (decode (xm_b n_225) q.1 = .ok (q.2.1, q.2.2))) = true := xa_g_ok (by decide +kernel)
def dn_225_0_2 : List (Nat × Instr × Nat) := [(83, .getfield 61, 3), (86, .iload_n 3, 1), (87, .iconst 1, 1), (88, .iadd, 1), (89, .iaload, 1), (90, .aload_n 0, 1), (91, .getfield 61, 3), (94, .iload_n 3, 1), (95, .iconst 2, 1), (96, .iadd, 1), (97, .iaload, 1), (98, .aload_n 0, 1), (99, .getfield 61, 3), (102, .iload_n 3, 1), (103, .iconst 3, 1), (104, .iadd, 1), (105, .iaload, 1), (106, .invokevirtual 311, 3), (109, .pop, 1), (110, .goto 29, 3), (113, .iconst 0, 1), (114, .istore 4, 2), (116, .iload 4, 2), (118, .aload_n 0, 1), (119, .getfield 61, 3)]
set_option maxRecDepth 20000 in
theorem dn_225_0_2_ok : dn_225_0_2.all (fun q => decide (decode (xm_b n_225) q.1 = .ok (q.2.1, q.2.2))) = true := xa_g_ok (by decide +kernel)
def dn_225_0_3 : List (Nat × Instr × Nat) := [(122, .iload_n 3, 1), (123, .iconst 1, 1), (124, .iadd, 1), (125, .iaload, 1), (126, .if_icmp .ge 13, 3), (129, .aload_n 0, 1), (130, .invokevirtual 271, 3), (133, .iinc 4 1, 3), (136, .goto (-20), 3), (139, .iinc 2 1, 3), (142, .goto (-86), 3), (145, .aload_n 0, 1), (146, .iconst 1, 1), (147, .putfield 67, 3), (150, .aload_n 0, 1), (151, .getfield 42, 3), (154, .getfield 86, 3), (157, .ireturn, 1)]
set_option maxRecDepth 20000 in
theorem dn_225_0_3_ok : dn_225_0_3.all (fun q => decide (decode (xm_b n_225) q.1 = .ok (q.2.1, q.2.2))) = true := xa_g_ok (by decide +kernel)
def te_225_0 : Nat → eE := (e_T 18 (e_T 6 (e_T 1 (e_T 0 (e_L 0 (0, ei_load 1 0 1, 0, 0)) (e_L 1 (0, ei_push (0, 0) 2, 0, 0))) (e_T 2 (e_L 2 (0, ei_load 0 2 3, 0, 0)) (e_T 3 (e_L 3 (0, ei_getf eft elay 11 12 6, 0, 0)) (e_L 6 (2, e_nof, 242, 3))))) (e_T 13 (e_T 9 (e_L 9 (0, ei_if1 1 14 12, 0, 0)) (e_T 12 (e_L 12 (0, ei_push (0, (-1)) 13, 0, 0)) (e_L 13 (1, e_nof, 1, 0)))) (e_T 14 (e_L 14 (0, ei_load 0 2 15, 0, 0)) (e_T 15 (e_L 15 (0, ei_getf eft elay 11 13 18, 0, 0)) (e_L 18 (0, ei_if1 1 24 21, 0, 0)))))) (e_T 29 (e_T 24 (e_T 21 (e_L 21 (0, ei_push (0, (-2)) 23, 0, 0)) (e_T 23 (e_L 23 (1, e_nof, 1, 0)) (e_L 24 (0, ei_load 1 0 25, 0, 0)))) (e_T 25 (e_L 25 (0, ei_load 0 2 26, 0, 0)) (e_T 26 (e_L 26 (0, ei_getf eft elay 11 12 29, 0, 0)) (e_L 29 (0, ei_if2 1 40 32, 0, 0))))) (e_T 36 (e_T 32 (e_L 32 (0, ei_load 0 2 33, 0, 0)) (e_T 33 (e_L 33 (0, ei_getf eft elay 11 5 36, 0, 0)) (e_L 36 (0, ei_getf eft elay 2 0 39, 0, 0)))) (e_T 39 (e_L 39 (1, e_nof, 1, 0)) (e_T 40 (e_L 40 (0, ei_load 0 2 41, 0, 0)) (e_L 41 (0, ei_load 1 0 42, 0, 0)))))))
set_option maxRecDepth 20000 in
set_option maxHeartbeats 4000000 in
theorem te_225_0_ok : ∀ pc, e_EOq eft cls elay eI n_225 pc (te_225_0 pc) :=
  (e_Tok2
  (e_Tok2
  (e_Tok2
  (e_Tok2
  (e_Lok (ld_iload_n_1 (x_dk dn_225_0_0_ok 0 rfl)))
  (e_Lok (ps_iconst_0 (x_dk dn_225_0_0_ok 1 rfl))))
  (e_Tok2
  (e_Lok (ld_aload_n_0 (x_dk dn_225_0_0_ok 2 rfl)))
  (e_Tok2
  (e_Lok (lk_11_246g ho_225 (x_dk dn_225_0_0_ok 3 rfl)))
  (e_Lok (lk_11_82 ho_225 (x_dk dn_225_0_0_ok 4 rfl))))))
  (e_Tok2
  (e_Tok2
  (e_Lok (e_st (I := eI) (er_ifne (off := 5) (tg := 14) (x_dk dn_225_0_0_ok 5 rfl) (by decide)) nx_if1))
  (e_Tok2
  (e_Lok (ps_iconst_m1 (x_dk dn_225_0_0_ok 6 rfl)))
  (e_Lok (e_rt (I := eI) (k := 1) ⟨(x_dk dn_225_0_0_ok 7 rfl), rfl⟩))))
  (e_Tok2
  (e_Lok (ld_aload_n_0 (x_dk dn_225_0_0_ok 8 rfl)))
  (e_Tok2
  (e_Lok (lk_11_91g ho_225 (x_dk dn_225_0_0_ok 9 rfl)))
  (e_Lok (e_st (I := eI) (er_ifne (off := 6) (tg := 24) (x_dk dn_225_0_0_ok 10 rfl) (by decide)) nx_if1))))))
  (e_Tok2
  (e_Tok2
  (e_Tok2
  (e_Lok (ps_bipush_m2 (x_dk dn_225_0_0_ok 11 rfl)))
  (e_Tok2
  (e_Lok (e_rt (I := eI) (k := 1) ⟨(x_dk dn_225_0_0_ok 12 rfl), rfl⟩))
  (e_Lok (ld_iload_n_1 (x_dk dn_225_0_0_ok 13 rfl)))))
  (e_Tok2
  (e_Lok (ld_aload_n_0 (x_dk dn_225_0_0_ok 14 rfl)))
  (e_Tok2
  (e_Lok (lk_11_246g ho_225 (x_dk dn_225_0_0_ok 15 rfl)))
  (e_Lok (e_st (I := eI) (er_icmpne (off := 11) (tg := 40) (x_dk dn_225_0_0_ok 16 rfl) (by decide)) nx_if2)))))
  (e_Tok2
  (e_Tok2
  (e_Lok (ld_aload_n_0 (x_dk dn_225_0_0_ok 17 rfl)))
  (e_Tok2
  (e_Lok (lk_11_42g ho_225 (x_dk dn_225_0_0_ok 18 rfl)))
  (e_Lok (lk_11_86g ho_225 (x_dk dn_225_0_0_ok 19 rfl)))))
  (e_Tok2
  (e_Lok (e_rt (I := eI) (k := 1) ⟨(x_dk dn_225_0_0_ok 20 rfl), rfl⟩))
  (e_Tok2
  (e_Lok (ld_aload_n_0 (x_dk dn_225_0_0_ok 21 rfl)))
  (e_Lok (ld_iload_n_1 (x_dk dn_225_0_0_ok 22 rfl))))))))
def te_225_23 : Nat → eE := (e_T 58 (e_T 50 (e_T 45 (e_T 42 (e_L 42 (0, ei_putf eft elay 11 12 0 45, 0, 0)) (e_L 45 (0, ei_load 0 2 46, 0, 0))) (e_T 46 (e_L 46 (0, ei_push (0, 0) 47, 0, 0)) (e_T 47 (e_L 47 (0, ei_putf eft elay 11 14 1 50, 0, 0)) (e_L 50 (0, ei_load 0 2 51, 0, 0))))) (e_T 55 (e_T 51 (e_L 51 (2, e_nof, 252, 1)) (e_T 54 (e_L 54 (0, ei_push (0, 0) 55, 0, 0)) (e_L 55 (0, ei_stor 2 0 56, 0, 0)))) (e_T 56 (e_L 56 (0, ei_load 2 0 57, 0, 0)) (e_T 57 (e_L 57 (0, ei_load 1 0 58, 0, 0)) (e_L 58 (0, ei_if2 3 145 61, 0, 0)))))) (e_T 66 (e_T 63 (e_T 61 (e_L 61 (0, ei_load 2 0 62, 0, 0)) (e_T 62 (e_L 62 (0, ei_push (0, 4) 63, 0, 0)) (e_L 63 (0, ei_bin eF_mul 64, 0, 0)))) (e_T 64 (e_L 64 (0, ei_stor 3 0 65, 0, 0)) (e_T 65 (e_L 65 (0, ei_load 0 2 66, 0, 0)) (e_L 66 (0, ei_getf eft elay 11 9 69, 0, 0))))) (e_T 71 (e_T 69 (e_L 69 (0, ei_load 3 0 70, 0, 0)) (e_T 70 (e_L 70 (0, ei_ald elay false 71, 0, 0)) (e_L 71 (0, ei_push (0, 1) 72, 0, 0)))) (e_T 72 (e_L 72 (0, ei_if2 0 113 75, 0, 0)) (e_T 75 (e_L 75 (0, ei_load 0 2 76, 0, 0)) (e_L 76 (0, ei_load 0 2 77, 0, 0)))))))
set_option maxRecDepth 20000 in
set_option maxHeartbeats 4000000 in
theorem te_225_23_ok : ∀ pc, e_EOq eft cls elay eI n_225 pc (te_225_23 pc) :=
  (e_Tok2
  (e_Tok2
  (e_Tok2
  (e_Tok2
  (e_Lok (lk_11_246p ho_225 (x_dk dn_225_0_0_ok 23 rfl)))
  (e_Lok (ld_aload_n_0 (x_dk dn_225_0_0_ok 24 rfl))))
  (e_Tok2
  (e_Lok (ps_iconst_0 (x_dk dn_225_0_1_ok 0 rfl)))
  (e_Tok2
  (e_Lok (lk_11_67p ho_225 (x_dk dn_225_0_1_ok 1 rfl)))
  (e_Lok (ld_aload_n_0 (x_dk dn_225_0_1_ok 2 rfl))))))
  (e_Tok2
  (e_Tok2
  (e_Lok (lk_11_249 ho_225 (x_dk dn_225_0_1_ok 3 rfl)))
  (e_Tok2
  (e_Lok (ps_iconst_0 (x_dk dn_225_0_1_ok 4 rfl)))
  (e_Lok (e_st (I := eI) (er_istore_n (i := 2) (x_dk dn_225_0_1_ok 5 rfl) (by decide +kernel)) nx_stor))))
  (e_Tok2
  (e_Lok (ld_iload_n_2 (x_dk dn_225_0_1_ok 6 rfl)))
  (e_Tok2
  (e_Lok (ld_iload_n_1 (x_dk dn_225_0_1_ok 7 rfl)))
  (e_Lok (e_st (I := eI) (er_icmpge (off := 87) (tg := 145) (x_dk dn_225_0_1_ok 8 rfl) (by decide)) nx_if2))))))
  (e_Tok2
  (e_Tok2
  (e_Tok2
  (e_Lok (ld_iload_n_2 (x_dk dn_225_0_1_ok 9 rfl)))
  (e_Tok2
  (e_Lok (ps_iconst_4 (x_dk dn_225_0_1_ok 10 rfl)))
  (e_Lok (sm_imul (x_dk dn_225_0_1_ok 11 rfl)))))
  (e_Tok2
  (e_Lok (e_st (I := eI) (er_istore_n (i := 3) (x_dk dn_225_0_1_ok 12 rfl) (by decide +kernel)) nx_stor))
  (e_Tok2
  (e_Lok (ld_aload_n_0 (x_dk dn_225_0_1_ok 13 rfl)))
  (e_Lok (lk_11_61g ho_225 (x_dk dn_225_0_1_ok 14 rfl))))))
  (e_Tok2
  (e_Tok2
  (e_Lok (ld_iload_n_3 (x_dk dn_225_0_1_ok 15 rfl)))
  (e_Tok2
  (e_Lok (sm_iaload (x_dk dn_225_0_1_ok 16 rfl)))
  (e_Lok (ps_iconst_1 (x_dk dn_225_0_1_ok 17 rfl)))))
  (e_Tok2
  (e_Lok (e_st (I := eI) (er_icmpeq (off := 41) (tg := 113) (x_dk dn_225_0_1_ok 18 rfl) (by decide)) nx_if2))
  (e_Tok2
  (e_Lok (ld_aload_n_0 (x_dk dn_225_0_1_ok 19 rfl)))
  (e_Lok (ld_aload_n_0 (x_dk dn_225_0_1_ok 20 rfl))))))))
def te_225_46 : Nat → eE := (e_T 91 (e_T 83 (e_T 80 (e_T 77 (e_L 77 (0, ei_getf eft elay 11 9 80, 0, 0)) (e_L 80 (0, ei_load 3 0 81, 0, 0))) (e_T 81 (e_L 81 (0, ei_ald elay false 82, 0, 0)) (e_T 82 (e_L 82 (0, ei_load 0 2 83, 0, 0)) (e_L 83 (0, ei_getf eft elay 11 9 86, 0, 0))))) (e_T 88 (e_T 86 (e_L 86 (0, ei_load 3 0 87, 0, 0)) (e_T 87 (e_L 87 (0, ei_push (0, 1) 88, 0, 0)) (e_L 88 (0, ei_bin eF_add 89, 0, 0)))) (e_T 89 (e_L 89 (0, ei_ald elay false 90, 0, 0)) (e_T 90 (e_L 90 (0, ei_load 0 2 91, 0, 0)) (e_L 91 (0, ei_getf eft elay 11 9 94, 0, 0)))))) (e_T 99 (e_T 96 (e_T 94 (e_L 94 (0, ei_load 3 0 95, 0, 0)) (e_T 95 (e_L 95 (0, ei_push (0, 2) 96, 0, 0)) (e_L 96 (0, ei_bin eF_add 97, 0, 0)))) (e_T 97 (e_L 97 (0, ei_ald elay false 98, 0, 0)) (e_T 98 (e_L 98 (0, ei_load 0 2 99, 0, 0)) (e_L 99 (0, ei_getf eft elay 11 9 102, 0, 0))))) (e_T 104 (e_T 102 (e_L 102 (0, ei_load 3 0 103, 0, 0)) (e_T 103 (e_L 103 (0, ei_push (0, 3) 104, 0, 0)) (e_L 104 (0, ei_bin eF_add 105, 0, 0)))) (e_T 105 (e_L 105 (0, ei_ald elay false 106, 0, 0)) (e_T 106 (e_L 106 (2, e_nof, 256, 5)) (e_L 109 (0, ei_stk ef_pop 110, 0, 0)))))))
set_option maxRecDepth 20000 in
set_option maxHeartbeats 4000000 in
theorem te_225_46_ok : ∀ pc, e_EOq eft cls elay eI n_225 pc (te_225_46 pc) :=
  (e_Tok2
  (e_Tok2
  (e_Tok2
  (e_Tok2
  (e_Lok (lk_11_61g ho_225 (x_dk dn_225_0_1_ok 21 rfl)))
  (e_Lok (ld_iload_n_3 (x_dk dn_225_0_1_ok 22 rfl))))
  (e_Tok2
  (e_Lok (sm_iaload (x_dk dn_225_0_1_ok 23 rfl)))
  (e_Tok2
  (e_Lok (ld_aload_n_0 (x_dk dn_225_0_1_ok 24 rfl)))
  (e_Lok (lk_11_61g ho_225 (x_dk dn_225_0_2_ok 0 rfl))))))
  (e_Tok2
  (e_Tok2
  (e_Lok (ld_iload_n_3 (x_dk dn_225_0_2_ok 1 rfl)))
  (e_Tok2
  (e_Lok (ps_iconst_1 (x_dk dn_225_0_2_ok 2 rfl)))
  (e_Lok (sm_iadd (x_dk dn_225_0_2_ok 3 rfl)))))
  (e_Tok2
  (e_Lok (sm_iaload (x_dk dn_225_0_2_ok 4 rfl)))
  (e_Tok2
  (e_Lok (ld_aload_n_0 (x_dk dn_225_0_2_ok 5 rfl)))
  (e_Lok (lk_11_61g ho_225 (x_dk dn_225_0_2_ok 6 rfl)))))))
  (e_Tok2
  (e_Tok2
  (e_Tok2
  (e_Lok (ld_iload_n_3 (x_dk dn_225_0_2_ok 7 rfl)))
  (e_Tok2
  (e_Lok (ps_iconst_2 (x_dk dn_225_0_2_ok 8 rfl)))
  (e_Lok (sm_iadd (x_dk dn_225_0_2_ok 9 rfl)))))
  (e_Tok2
  (e_Lok (sm_iaload (x_dk dn_225_0_2_ok 10 rfl)))
  (e_Tok2
  (e_Lok (ld_aload_n_0 (x_dk dn_225_0_2_ok 11 rfl)))
  (e_Lok (lk_11_61g ho_225 (x_dk dn_225_0_2_ok 12 rfl))))))
  (e_Tok2
  (e_Tok2
  (e_Lok (ld_iload_n_3 (x_dk dn_225_0_2_ok 13 rfl)))
  (e_Tok2
  (e_Lok (ps_iconst_3 (x_dk dn_225_0_2_ok 14 rfl)))
  (e_Lok (sm_iadd (x_dk dn_225_0_2_ok 15 rfl)))))
  (e_Tok2
  (e_Lok (sm_iaload (x_dk dn_225_0_2_ok 16 rfl)))
  (e_Tok2
  (e_Lok (lk_11_311 ho_225 (x_dk dn_225_0_2_ok 17 rfl)))
  (e_Lok (e_st (I := eI) (er_pop (x_dk dn_225_0_2_ok 18 rfl)) (nx_stk bf_pop))))))))
def te_225_69 : Nat → eE := (e_T 129 (e_T 119 (e_T 114 (e_T 110 (e_L 110 (0, ei_goto 139, 0, 0)) (e_T 113 (e_L 113 (0, ei_push (0, 0) 114, 0, 0)) (e_L 114 (0, ei_stor 4 0 116, 0, 0)))) (e_T 116 (e_L 116 (0, ei_load 4 0 118, 0, 0)) (e_T 118 (e_L 118 (0, ei_load 0 2 119, 0, 0)) (e_L 119 (0, ei_getf eft elay 11 9 122, 0, 0))))) (e_T 124 (e_T 122 (e_L 122 (0, ei_load 3 0 123, 0, 0)) (e_T 123 (e_L 123 (0, ei_push (0, 1) 124, 0, 0)) (e_L 124 (0, ei_bin eF_add 125, 0, 0)))) (e_T 125 (e_L 125 (0, ei_ald elay false 126, 0, 0)) (e_T 126 (e_L 126 (0, ei_if2 3 139 129, 0, 0)) (e_L 129 (0, ei_load 0 2 130, 0, 0)))))) (e_T 145 (e_T 136 (e_T 130 (e_L 130 (2, e_nof, 259, 1)) (e_T 133 (e_L 133 (0, ei_inc 4 1 136, 0, 0)) (e_L 136 (0, ei_goto 116, 0, 0)))) (e_T 139 (e_L 139 (0, ei_inc 2 1 142, 0, 0)) (e_T 142 (e_L 142 (0, ei_goto 56, 0, 0)) (e_L 145 (0, ei_load 0 2 146, 0, 0))))) (e_T 150 (e_T 146 (e_L 146 (0, ei_push (0, 1) 147, 0, 0)) (e_T 147 (e_L 147 (0, ei_putf eft elay 11 14 1 150, 0, 0)) (e_L 150 (0, ei_load 0 2 151, 0, 0)))) (e_T 151 (e_L 151 (0, ei_getf eft elay 11 5 154, 0, 0)) (e_T 154 (e_L 154 (0, ei_getf eft elay 2 0 157, 0, 0)) (e_L 157 (1, e_nof, 1, 0)))))))
set_option maxRecDepth 20000 in
set_option maxHeartbeats 4000000 in
theorem te_225_69_ok : ∀ pc, e_EOq eft cls elay eI n_225 pc (te_225_69 pc) :=
  (e_Tok2
  (e_Tok2
  (e_Tok2
  (e_Tok2
  (e_Lok (e_st (I := eI) (er_goto (off := 29) (tg := 139) (x_dk dn_225_0_2_ok 19 rfl) (by decide)) nx_goto))
  (e_Tok2
  (e_Lok (ps_iconst_0 (x_dk dn_225_0_2_ok 20 rfl)))
  (e_Lok (e_st (I := eI) (er_istore (i := 4) (x_dk dn_225_0_2_ok 21 rfl) (by decide +kernel)) nx_stor))))
  (e_Tok2
  (e_Lok (ld_iload_4 (x_dk dn_225_0_2_ok 22 rfl)))
  (e_Tok2
  (e_Lok (ld_aload_n_0 (x_dk dn_225_0_2_ok 23 rfl)))
  (e_Lok (lk_11_61g ho_225 (x_dk dn_225_0_2_ok 24 rfl))))))
  (e_Tok2
  (e_Tok2
  (e_Lok (ld_iload_n_3 (x_dk dn_225_0_3_ok 0 rfl)))
  (e_Tok2
  (e_Lok (ps_iconst_1 (x_dk dn_225_0_3_ok 1 rfl)))
  (e_Lok (sm_iadd (x_dk dn_225_0_3_ok 2 rfl)))))
  (e_Tok2
  (e_Lok (sm_iaload (x_dk dn_225_0_3_ok 3 rfl)))
  (e_Tok2
  (e_Lok (e_st (I := eI) (er_icmpge (off := 13) (tg := 139) (x_dk dn_225_0_3_ok 4 rfl) (by decide)) nx_if2))
  (e_Lok (ld_aload_n_0 (x_dk dn_225_0_3_ok 5 rfl)))))))
  (e_Tok2
  (e_Tok2
  (e_Tok2
  (e_Lok (lk_11_271 ho_225 (x_dk dn_225_0_3_ok 6 rfl)))
  (e_Tok2
  (e_Lok (e_st (I := eI) (er_iinc (i := 4) (n := 1) (x_dk dn_225_0_3_ok 7 rfl) (by decide +kernel) (by decide)) nx_inc))
  (e_Lok (e_st (I := eI) (er_goto (off := (-20)) (tg := 116) (x_dk dn_225_0_3_ok 8 rfl) (by decide)) nx_goto))))
  (e_Tok2
  (e_Lok (e_st (I := eI) (er_iinc (i := 2) (n := 1) (x_dk dn_225_0_3_ok 9 rfl) (by decide +kernel) (by decide)) nx_inc))
  (e_Tok2
  (e_Lok (e_st (I := eI) (er_goto (off := (-86)) (tg := 56) (x_dk dn_225_0_3_ok 10 rfl) (by decide)) nx_goto))
  (e_Lok (ld_aload_n_0 (x_dk dn_225_0_3_ok 11 rfl))))))
  (e_Tok2
  (e_Tok2
  (e_Lok (ps_iconst_1 (x_dk dn_225_0_3_ok 12 rfl)))
  (e_Tok2
  (e_Lok (lk_11_67p ho_225 (x_dk dn_225_0_3_ok 13 rfl)))
  (e_Lok (ld_aload_n_0 (x_dk dn_225_0_3_ok 14 rfl)))))
  (e_Tok2
  (e_Lok (lk_11_42g ho_225 (x_dk dn_225_0_3_ok 15 rfl)))
  (e_Tok2
  (e_Lok (lk_11_86g ho_225 (x_dk dn_225_0_3_ok 16 rfl)))
  (e_Lok (e_rt (I := eI) (k := 1) ⟨(x_dk dn_225_0_3_ok 17 rfl), rfl⟩)))))))
def te_225 : Nat → eE := (e_T 76 (e_T 41 te_225_0 te_225_23) (e_T 109 te_225_46 te_225_69))
theorem te_225_ok : ∀ pc, e_EOq eft cls elay eI n_225 pc (te_225 pc) := (e_Tok2 ((e_Tok2 (te_225_0_ok) (te_225_23_ok))) ((e_Tok2 (te_225_46_ok) (te_225_69_ok))))
theorem ho_226 : (xm_y n_226).cls = "RobotCellHouse" := rfl
def dn_226_0_0 : List (Nat × Instr × Nat) := [(0, .aload_n 0, 1), (1, .getfield 42, 3), (4, .getfield 86, 3), (7, .ireturn, 1)]
set_option maxRecDepth 20000 in
theorem dn_226_0_0_ok : dn_226_0_0.all (fun q => decide (decode (xm_b n_226) q.1 = .ok (q.2.1, q.2.2))) = true := xa_g_ok (by decide +kernel)
def te_226_0 : Nat → eE := (e_T 1 (e_T 0 (e_L 0 (0, ei_load 0 2 1, 0, 0)) (e_L 1 (0, ei_getf eft elay 11 5 4, 0, 0))) (e_T 4 (e_L 4 (0, ei_getf eft elay 2 0 7, 0, 0)) (e_L 7 (1, e_nof, 1, 0))))
set_option maxRecDepth 20000 in
set_option maxHeartbeats 4000000 in
theorem te_226_0_ok : ∀ pc, e_EOq eft cls elay eI n_226 pc (te_226_0 pc) :=
  (e_Tok2
  (e_Tok2
  (e_Lok (ld_aload_n_0 (x_dk dn_226_0_0_ok 0 rfl)))
  (e_Lok (lk_11_42g ho_226 (x_dk dn_226_0_0_ok 1 rfl))))
  (e_Tok2
  (e_Lok (lk_11_86g ho_226 (x_dk dn_226_0_0_ok 2 rfl)))
  (e_Lok (e_rt (I := eI) (k := 1) ⟨(x_dk dn_226_0_0_ok 3 rfl), rfl⟩))))
def te_226 : Nat → eE := te_226_0
theorem te_226_ok : ∀ pc, e_EOq eft cls elay eI n_226 pc (te_226 pc) := te_226_0_ok
theorem ho_227 : (xm_y n_227).cls = "RobotCellHouse" := rfl
def dn_227_0_0 : List (Nat × Instr × Nat) := [(0, .aload_n 0, 1), (1, .iload_n 1, 1), (2, .invokevirtual 103, 3), (5, .ifCond .ne 5, 3), (8, .iconst (-1), 1), (9, .ireturn, 1), (10, .aload_n 0, 1), (11, .getfield 27, 3), (14, .iload_n 1, 1), (15, .aaload, 1), (16, .astore_n 3, 1), (17, .iload_n 2, 1), (18, .tableswitch 123 0 7 #[46, 51, 56, 61, 66, 74, 97, 110], 46), (64, .aload_n 3, 1), (65, .getfield 286, 3), (68, .ireturn, 1), (69, .aload_n 3, 1), (70, .getfield 112, 3), (73, .ireturn, 1), (74, .aload_n 3, 1), (75, .getfield 314, 3), (78, .ireturn, 1), (79, .aload_n 3, 1), (80, .getfield 280, 3), (83, .ireturn, 1)]
set_option maxRecDepth 20000 in
theorem dn_227_0_0_ok : dn_227_0_0.all (fun q => decide (decode (xm_b n_227) q.1 = .ok (q.2.1, q.2.2))) = true := xa_g_ok (by decide +kernel)
def dn_227_0_1 : List (Nat × Instr × Nat) := [(84, .aload_n 3, 1), (85, .getfield 240, 3), (88, .getfield 241, 3), (91, .ireturn, 1), (92, .aload_n 3, 1), (93, .getfield 317, 3), (96, .ifCond .ge 7, 3), (99, .iconst (-1), 1), (100, .goto 14, 3), (103, .aload_n 0, 1), (104, .getfield 53, 3), (107, .aload_n 3, 1), (108, .getfield 317, 3), (111, .invokevirtual 320, 3), (114, .ireturn, 1), (115, .aload_n 3, 1), (116, .invokevirtual 308, 3), (119, .ifCond .eq 7, 3), (122, .iconst 1, 1), (123, .goto 4, 3), (126, .iconst 0, 1), (127, .ireturn, 1), (128, .aload_n 3, 1), (129, .getfield 323, 3), (132, .ifCond .lt 7, 3)]
set_option maxRecDepth 20000 in
theorem dn_227_0_1_ok : dn_227_0_1.all (fun q => decide (decode (xm_b n_227) q.1 = .ok (q.2.1, q.2.2))) = true := xa_g_ok (by decide +kernel)
def dn_227_0_2 : List (Nat × Instr × Nat) := [(135, .iconst 1, 1), (136, .goto 4, 3), (139, .iconst 0, 1), (140, .ireturn, 1), (141, .iconst (-1), 1), (142, .ireturn, 1)]
set_option maxRecDepth 20000 in
theorem dn_227_0_2_ok : dn_227_0_2.all (fun q => decide (decode (xm_b n_227) q.1 = .ok (q.2.1, q.2.2))) = true := xa_g_ok (by decide +kernel)
def te_227_0 : Nat → eE := (e_T 64 (e_T 10 (e_T 2 (e_T 0 (e_L 0 (0, ei_load 0 2 1, 0, 0)) (e_T 1 (e_L 1 (0, ei_load 1 0 2, 0, 0)) (e_L 2 (2, e_nof, 246, 2)))) (e_T 8 (e_T 5 (e_L 5 (0, ei_if1 1 10 8, 0, 0)) (e_L 8 (0, ei_push (0, (-1)) 9, 0, 0))) (e_T 9 (e_L 9 (1, e_nof, 1, 0)) (e_L 10 (0, ei_load 0 2 11, 0, 0))))) (e_T 15 (e_T 11 (e_L 11 (0, ei_getf eft elay 11 2 14, 0, 0)) (e_T 14 (e_L 14 (0, ei_load 1 0 15, 0, 0)) (e_L 15 (0, ei_aald elay 16, 0, 0)))) (e_T 17 (e_T 16 (e_L 16 (0, ei_stor 3 2 17, 0, 0)) (e_L 17 (0, ei_load 2 0 18, 0, 0))) (e_T 18 (e_L 18 (0, ei_sw [((-2147483648), (-1), 141), (0, 0, 64), (1, 1, 69), (2, 2, 74), (3, 3, 79), (4, 4, 84), (5, 5, 92), (6, 6, 115), (7, 7, 128), (8, 2147483647, 141)], 0, 0)) (e_L 64 (0, ei_load 3 2 65, 0, 0)))))) (e_T 75 (e_T 69 (e_T 65 (e_L 65 (0, ei_getf eft elay 0 11 68, 0, 0)) (e_T 68 (e_L 68 (1, e_nof, 1, 0)) (e_L 69 (0, ei_load 3 2 70, 0, 0)))) (e_T 73 (e_T 70 (e_L 70 (0, ei_getf eft elay 0 8 73, 0, 0)) (e_L 73 (1, e_nof, 1, 0))) (e_T 74 (e_L 74 (0, ei_load 3 2 75, 0, 0)) (e_L 75 (0, ei_getf eft elay 0 14 78, 0, 0))))) (e_T 80 (e_T 78 (e_L 78 (1, e_nof, 1, 0)) (e_T 79 (e_L 79 (0, ei_load 3 2 80, 0, 0)) (e_L 80 (0, ei_getf eft elay 0 16 83, 0, 0)))) (e_T 84 (e_T 83 (e_L 83 (1, e_nof, 1, 0)) (e_L 84 (0, ei_load 3 2 85, 0, 0))) (e_T 85 (e_L 85 (0, ei_getf eft elay 0 7 88, 0, 0)) (e_L 88 (0, ei_getf eft elay 1 1 91, 0, 0)))))))
set_option maxRecDepth 20000 in
set_option maxHeartbeats 4000000 in
theorem te_227_0_ok : ∀ pc, e_EOq eft cls elay eI n_227 pc (te_227_0 pc) :=
  (e_Tok2
  (e_Tok2
  (e_Tok2
  (e_Tok2
  (e_Lok (ld_aload_n_0 (x_dk dn_227_0_0_ok 0 rfl)))
  (e_Tok2
  (e_Lok (ld_iload_n_1 (x_dk dn_227_0_0_ok 1 rfl)))
  (e_Lok (lk_11_103 ho_227 (x_dk dn_227_0_0_ok 2 rfl)))))
  (e_Tok2
  (e_Tok2
  (e_Lok (e_st (I := eI) (er_ifne (off := 5) (tg := 10) (x_dk dn_227_0_0_ok 3 rfl) (by decide)) nx_if1))
  (e_Lok (ps_iconst_m1 (x_dk dn_227_0_0_ok 4 rfl))))
  (e_Tok2
  (e_Lok (e_rt (I := eI) (k := 1) ⟨(x_dk dn_227_0_0_ok 5 rfl), rfl⟩))
  (e_Lok (ld_aload_n_0 (x_dk dn_227_0_0_ok 6 rfl))))))
  (e_Tok2
  (e_Tok2
  (e_Lok (lk_11_27g ho_227 (x_dk dn_227_0_0_ok 7 rfl)))
  (e_Tok2
  (e_Lok (ld_iload_n_1 (x_dk dn_227_0_0_ok 8 rfl)))
  (e_Lok (e_st (I := eI) (er_aaload (x_dk dn_227_0_0_ok 9 rfl)) nx_aald))))
  (e_Tok2
  (e_Tok2
  (e_Lok (e_st (I := eI) (er_astore_n (i := 3) (x_dk dn_227_0_0_ok 10 rfl) (by decide +kernel)) nx_stor))
  (e_Lok (ld_iload_n_2 (x_dk dn_227_0_0_ok 11 rfl))))
  (e_Tok2
  (e_Lok (e_st (I := eI) (er_tsw (dflt := 123) (lo := 0) (hi := 7) (offs := #[46, 51, 56, 61, 66, 74, 97, 110]) (len := 46) (n := 8) (x_dk dn_227_0_0_ok 12 rfl) (by decide) (by decide +kernel)) nx_sw))
  (e_Lok (ld_aload_n_3 (x_dk dn_227_0_0_ok 13 rfl)))))))
  (e_Tok2
  (e_Tok2
  (e_Tok2
  (e_Lok (lk_11_286g ho_227 (x_dk dn_227_0_0_ok 14 rfl)))
  (e_Tok2
  (e_Lok (e_rt (I := eI) (k := 1) ⟨(x_dk dn_227_0_0_ok 15 rfl), rfl⟩))
  (e_Lok (ld_aload_n_3 (x_dk dn_227_0_0_ok 16 rfl)))))
  (e_Tok2
  (e_Tok2
  (e_Lok (lk_11_112g ho_227 (x_dk dn_227_0_0_ok 17 rfl)))
  (e_Lok (e_rt (I := eI) (k := 1) ⟨(x_dk dn_227_0_0_ok 18 rfl), rfl⟩)))
  (e_Tok2
  (e_Lok (ld_aload_n_3 (x_dk dn_227_0_0_ok 19 rfl)))
  (e_Lok (lk_11_314g ho_227 (x_dk dn_227_0_0_ok 20 rfl))))))
  (e_Tok2
  (e_Tok2
  (e_Lok (e_rt (I := eI) (k := 1) ⟨(x_dk dn_227_0_0_ok 21 rfl), rfl⟩))
  (e_Tok2
  (e_Lok (ld_aload_n_3 (x_dk dn_227_0_0_ok 22 rfl)))
  (e_Lok (lk_11_280g ho_227 (x_dk dn_227_0_0_ok 23 rfl)))))
  (e_Tok2
  (e_Tok2
  (e_Lok (e_rt (I := eI) (k := 1) ⟨(x_dk dn_227_0_0_ok 24 rfl), rfl⟩))
  (e_Lok (ld_aload_n_3 (x_dk dn_227_0_1_ok 0 rfl))))
  (e_Tok2
  (e_Lok (lk_11_240g ho_227 (x_dk dn_227_0_1_ok 1 rfl)))
  (e_Lok (lk_11_241g ho_227 (x_dk dn_227_0_1_ok 2 rfl))))))))
def te_227_28 : Nat → eE := (e_T 116 (e_T 103 (e_T 93 (e_T 91 (e_L 91 (1, e_nof, 1, 0)) (e_T 92 (e_L 92 (0, ei_load 3 2 93, 0, 0)) (e_L 93 (0, ei_getf eft elay 0 17 96, 0, 0)))) (e_T 99 (e_T 96 (e_L 96 (0, ei_if1 3 103 99, 0, 0)) (e_L 99 (0, ei_push (0, (-1)) 100, 0, 0))) (e_T 100 (e_L 100 (0, ei_goto 114, 0, 0)) (e_L 103 (0, ei_load 0 2 104, 0, 0))))) (e_T 108 (e_T 104 (e_L 104 (0, ei_getf eft elay 11 7 107, 0, 0)) (e_T 107 (e_L 107 (0, ei_load 3 2 108, 0, 0)) (e_L 108 (0, ei_getf eft elay 0 17 111, 0, 0)))) (e_T 114 (e_T 111 (e_L 111 (2, e_nof, 95, 2)) (e_L 114 (1, e_nof, 1, 0))) (e_T 115 (e_L 115 (0, ei_load 3 2 116, 0, 0)) (e_L 116 (2, e_nof, 9, 1)))))) (e_T 129 (e_T 123 (e_T 119 (e_L 119 (0, ei_if1 0 126 122, 0, 0)) (e_T 122 (e_L 122 (0, ei_push (0, 1) 123, 0, 0)) (e_L 123 (0, ei_goto 127, 0, 0)))) (e_T 127 (e_T 126 (e_L 126 (0, ei_push (0, 0) 127, 0, 0)) (e_L 127 (1, e_nof, 1, 0))) (e_T 128 (e_L 128 (0, ei_load 3 2 129, 0, 0)) (e_L 129 (0, ei_getf eft elay 0 18 132, 0, 0))))) (e_T 136 (e_T 132 (e_L 132 (0, ei_if1 2 139 135, 0, 0)) (e_T 135 (e_L 135 (0, ei_push (0, 1) 136, 0, 0)) (e_L 136 (0, ei_goto 140, 0, 0)))) (e_T 140 (e_T 139 (e_L 139 (0, ei_push (0, 0) 140, 0, 0)) (e_L 140 (1, e_nof, 1, 0))) (e_T 141 (e_L 141 (0, ei_push (0, (-1)) 142, 0, 0)) (e_L 142 (1, e_nof, 1, 0)))))))
set_option maxRecDepth 20000 in
set_option maxHeartbeats 4000000 in
theorem te_227_28_ok : ∀ pc, e_EOq eft cls elay eI n_227 pc (te_227_28 pc) :=
  (e_Tok2
  (e_Tok2
  (e_Tok2
  (e_Tok2
  (e_Lok (e_rt (I := eI) (k := 1) ⟨(x_dk dn_227_0_1_ok 3 rfl), rfl⟩))
  (e_Tok2
  (e_Lok (ld_aload_n_3 (x_dk dn_227_0_1_ok 4 rfl)))
  (e_Lok (lk_11_317g ho_227 (x_dk dn_227_0_1_ok 5 rfl)))))
  (e_Tok2
  (e_Tok2
  (e_Lok (e_st (I := eI) (er_ifge (off := 7) (tg := 103) (x_dk dn_227_0_1_ok 6 rfl) (by decide)) nx_if1))
  (e_Lok (ps_iconst_m1 (x_dk dn_227_0_1_ok 7 rfl))))
  (e_Tok2
  (e_Lok (e_st (I := eI) (er_goto (off := 14) (tg := 114) (x_dk dn_227_0_1_ok 8 rfl) (by decide)) nx_goto))
  (e_Lok (ld_aload_n_0 (x_dk dn_227_0_1_ok 9 rfl))))))
  (e_Tok2
  (e_Tok2
  (e_Lok (lk_11_53g ho_227 (x_dk dn_227_0_1_ok 10 rfl)))
  (e_Tok2
  (e_Lok (ld_aload_n_3 (x_dk dn_227_0_1_ok 11 rfl)))
  (e_Lok (lk_11_317g ho_227 (x_dk dn_227_0_1_ok 12 rfl)))))
  (e_Tok2
  (e_Tok2
  (e_Lok (lk_11_320 ho_227 (x_dk dn_227_0_1_ok 13 rfl)))
  (e_Lok (e_rt (I := eI) (k := 1) ⟨(x_dk dn_227_0_1_ok 14 rfl), rfl⟩)))
  (e_Tok2
  (e_Lok (ld_aload_n_3 (x_dk dn_227_0_1_ok 15 rfl)))
  (e_Lok (lk_11_308 ho_227 (x_dk dn_227_0_1_ok 16 rfl)))))))
  (e_Tok2
  (e_Tok2
  (e_Tok2
  (e_Lok (e_st (I := eI) (er_ifeq (off := 7) (tg := 126) (x_dk dn_227_0_1_ok 17 rfl) (by decide)) nx_if1))
  (e_Tok2
  (e_Lok (ps_iconst_1 (x_dk dn_227_0_1_ok 18 rfl)))
  (e_Lok (e_st (I := eI) (er_goto (off := 4) (tg := 127) (x_dk dn_227_0_1_ok 19 rfl) (by decide)) nx_goto))))
  (e_Tok2
  (e_Tok2
  (e_Lok (ps_iconst_0 (x_dk dn_227_0_1_ok 20 rfl)))
  (e_Lok (e_rt (I := eI) (k := 1) ⟨(x_dk dn_227_0_1_ok 21 rfl), rfl⟩)))
  (e_Tok2
  (e_Lok (ld_aload_n_3 (x_dk dn_227_0_1_ok 22 rfl)))
  (e_Lok (lk_11_323g ho_227 (x_dk dn_227_0_1_ok 23 rfl))))))
  (e_Tok2
  (e_Tok2
  (e_Lok (e_st (I := eI) (er_iflt (off := 7) (tg := 139) (x_dk dn_227_0_1_ok 24 rfl) (by decide)) nx_if1))
  (e_Tok2
  (e_Lok (ps_iconst_1 (x_dk dn_227_0_2_ok 0 rfl)))
  (e_Lok (e_st (I := eI) (er_goto (off := 4) (tg := 140) (x_dk dn_227_0_2_ok 1 rfl) (by decide)) nx_goto))))
  (e_Tok2
  (e_Tok2
  (e_Lok (ps_iconst_0 (x_dk dn_227_0_2_ok 2 rfl)))
  (e_Lok (e_rt (I := eI) (k := 1) ⟨(x_dk dn_227_0_2_ok 3 rfl), rfl⟩)))
  (e_Tok2
  (e_Lok (ps_iconst_m1 (x_dk dn_227_0_2_ok 4 rfl)))
  (e_Lok (e_rt (I := eI) (k := 1) ⟨(x_dk dn_227_0_2_ok 5 rfl), rfl⟩)))))))
def te_227 : Nat → eE := (e_T 88 te_227_0 te_227_28)
theorem te_227_ok : ∀ pc, e_EOq eft cls elay eI n_227 pc (te_227 pc) := (e_Tok2 (te_227_0_ok) (te_227_28_ok))
theorem ho_228 : (xm_y n_228).cls = "RobotCellHouse" := rfl
def dn_228_0_0 : List (Nat × Instr × Nat) := [(0, .aload_n 0, 1), (1, .iload_n 1, 1), (2, .iload_n 2, 1), (3, .invokevirtual 119, 3), (6, .ifCond .eq 20, 3), (9, .aload_n 0, 1), (10, .getfield 27, 3), (13, .iload_n 1, 1), (14, .aaload, 1), (15, .getfield 123, 3), (18, .iload_n 2, 1), (19, .aaload, 1), (20, .getfield 326, 3), (23, .goto 4, 3), (26, .iconst (-1), 1), (27, .ireturn, 1)]
set_option maxRecDepth 20000 in
theorem dn_228_0_0_ok : dn_228_0_0.all (fun q => decide (decode (xm_b n_228) q.1 = .ok (q.2.1, q.2.2))) = true := xa_g_ok (by decide +kernel)
def te_228_0 : Nat → eE := (e_T 13 (e_T 3 (e_T 1 (e_T 0 (e_L 0 (0, ei_load 0 2 1, 0, 0)) (e_L 1 (0, ei_load 1 0 2, 0, 0))) (e_T 2 (e_L 2 (0, ei_load 2 0 3, 0, 0)) (e_L 3 (2, e_nof, 247, 3)))) (e_T 9 (e_T 6 (e_L 6 (0, ei_if1 0 26 9, 0, 0)) (e_L 9 (0, ei_load 0 2 10, 0, 0))) (e_T 10 (e_L 10 (0, ei_getf eft elay 11 2 13, 0, 0)) (e_L 13 (0, ei_load 1 0 14, 0, 0))))) (e_T 19 (e_T 15 (e_T 14 (e_L 14 (0, ei_aald elay 15, 0, 0)) (e_L 15 (0, ei_getf eft elay 0 0 18, 0, 0))) (e_T 18 (e_L 18 (0, ei_load 2 0 19, 0, 0)) (e_L 19 (0, ei_aald elay 20, 0, 0)))) (e_T 23 (e_T 20 (e_L 20 (0, ei_getf eft elay 5 7 23, 0, 0)) (e_L 23 (0, ei_goto 27, 0, 0))) (e_T 26 (e_L 26 (0, ei_push (0, (-1)) 27, 0, 0)) (e_L 27 (1, e_nof, 1, 0))))))
set_option maxRecDepth 20000 in
set_option maxHeartbeats 4000000 in
theorem te_228_0_ok : ∀ pc, e_EOq eft cls elay eI n_228 pc (te_228_0 pc) :=
  (e_Tok2
  (e_Tok2
  (e_Tok2
  (e_Tok2
  (e_Lok (ld_aload_n_0 (x_dk dn_228_0_0_ok 0 rfl)))
  (e_Lok (ld_iload_n_1 (x_dk dn_228_0_0_ok 1 rfl))))
  (e_Tok2
  (e_Lok (ld_iload_n_2 (x_dk dn_228_0_0_ok 2 rfl)))
  (e_Lok (lk_11_119 ho_228 (x_dk dn_228_0_0_ok 3 rfl)))))
  (e_Tok2
  (e_Tok2
  (e_Lok (e_st (I := eI) (er_ifeq (off := 20) (tg := 26) (x_dk dn_228_0_0_ok 4 rfl) (by decide)) nx_if1))
  (e_Lok (ld_aload_n_0 (x_dk dn_228_0_0_ok 5 rfl))))
  (e_Tok2
  (e_Lok (lk_11_27g ho_228 (x_dk dn_228_0_0_ok 6 rfl)))
  (e_Lok (ld_iload_n_1 (x_dk dn_228_0_0_ok 7 rfl))))))
  (e_Tok2
  (e_Tok2
  (e_Tok2
  (e_Lok (e_st (I := eI) (er_aaload (x_dk dn_228_0_0_ok 8 rfl)) nx_aald))
  (e_Lok (lk_11_123g ho_228 (x_dk dn_228_0_0_ok 9 rfl))))
  (e_Tok2
  (e_Lok (ld_iload_n_2 (x_dk dn_228_0_0_ok 10 rfl)))
  (e_Lok (e_st (I := eI) (er_aaload (x_dk dn_228_0_0_ok 11 rfl)) nx_aald))))
  (e_Tok2
  (e_Tok2
  (e_Lok (lk_11_326g ho_228 (x_dk dn_228_0_0_ok 12 rfl)))
  (e_Lok (e_st (I := eI) (er_goto (off := 4) (tg := 27) (x_dk dn_228_0_0_ok 13 rfl) (by decide)) nx_goto)))
  (e_Tok2
  (e_Lok (ps_iconst_m1 (x_dk dn_228_0_0_ok 14 rfl)))
  (e_Lok (e_rt (I := eI) (k := 1) ⟨(x_dk dn_228_0_0_ok 15 rfl), rfl⟩))))))
def te_228 : Nat → eE := te_228_0
theorem te_228_ok : ∀ pc, e_EOq eft cls elay eI n_228 pc (te_228 pc) := te_228_0_ok
theorem ho_229 : (xm_y n_229).cls = "RobotCellHouse" := rfl
def dn_229_0_0 : List (Nat × Instr × Nat) := [(0, .aload_n 0, 1), (1, .iload_n 1, 1), (2, .invokevirtual 103, 3), (5, .ifCond .eq 29, 3), (8, .iload_n 2, 1), (9, .iconst 0, 1), (10, .aload_n 0, 1), (11, .getfield 27, 3), (14, .iload_n 1, 1), (15, .aaload, 1), (16, .getfield 112, 3), (19, .invokestatic 82, 3), (22, .ifCond .eq 12, 3), (25, .iload_n 3, 1), (26, .iconst 0, 1), (27, .iconst 1, 1), (28, .invokestatic 82, 3), (31, .ifCond .ne 5, 3), (34, .iconst (-1), 1), (35, .ireturn, 1), (36, .iload_n 3, 1), (37, .ifCond .ne 17, 3), (40, .aload_n 0, 1), (41, .getfield 27, 3), (44, .iload_n 1, 1)]
set_option maxRecDepth 20000 in
theorem dn_229_0_0_ok : dn_229_0_0.all (fun q => decide (decode (xm_b n_229) q.1 = .ok (q.2.1, q.2.2))) = true := xa_g_ok (by decide +kernel)
def dn_229_0_1 : List (Nat × Instr × Nat) := [(45, .aaload, 1), (46, .getfield 329, 3), (49, .iload_n 2, 1), (50, .iaload, 1), (51, .goto 14, 3), (54, .aload_n 0, 1), (55, .getfield 27, 3), (58, .iload_n 1, 1), (59, .aaload, 1), (60, .getfield 332, 3), (63, .iload_n 2, 1), (64, .iaload, 1), (65, .ireturn, 1)]
set_option maxRecDepth 20000 in
theorem dn_229_0_1_ok : dn_229_0_1.all (fun q => decide (decode (xm_b n_229) q.1 = .ok (q.2.1, q.2.2))) = true := xa_g_ok (by decide +kernel)
def te_229_0 : Nat → eE := (e_T 34 (e_T 14 (e_T 5 (e_T 1 (e_T 0 (e_L 0 (0, ei_load 0 2 1, 0, 0)) (e_L 1 (0, ei_load 1 0 2, 0, 0))) (e_T 2 (e_L 2 (2, e_nof, 246, 2)) (e_L 5 (0, ei_if1 0 34 8, 0, 0)))) (e_T 9 (e_T 8 (e_L 8 (0, ei_load 2 0 9, 0, 0)) (e_L 9 (0, ei_push (0, 0) 10, 0, 0))) (e_T 10 (e_L 10 (0, ei_load 0 2 11, 0, 0)) (e_T 11 (e_L 11 (0, ei_getf eft elay 11 2 14, 0, 0)) (e_L 14 (0, ei_load 1 0 15, 0, 0)))))) (e_T 25 (e_T 16 (e_T 15 (e_L 15 (0, ei_aald elay 16, 0, 0)) (e_L 16 (0, ei_getf eft elay 0 8 19, 0, 0))) (e_T 19 (e_L 19 (2, e_nof, 242, 3)) (e_T 22 (e_L 22 (0, ei_if1 0 34 25, 0, 0)) (e_L 25 (0, ei_load 3 0 26, 0, 0))))) (e_T 27 (e_T 26 (e_L 26 (0, ei_push (0, 0) 27, 0, 0)) (e_L 27 (0, ei_push (0, 1) 28, 0, 0))) (e_T 28 (e_L 28 (2, e_nof, 242, 3)) (e_T 31 (e_L 31 (0, ei_if1 1 36 34, 0, 0)) (e_L 34 (0, ei_push (0, (-1)) 35, 0, 0))))))) (e_T 49 (e_T 40 (e_T 36 (e_T 35 (e_L 35 (1, e_nof, 1, 0)) (e_L 36 (0, ei_load 3 0 37, 0, 0))) (e_T 37 (e_L 37 (0, ei_if1 1 54 40, 0, 0)) (e_L 40 (0, ei_load 0 2 41, 0, 0)))) (e_T 44 (e_T 41 (e_L 41 (0, ei_getf eft elay 11 2 44, 0, 0)) (e_L 44 (0, ei_load 1 0 45, 0, 0))) (e_T 45 (e_L 45 (0, ei_aald elay 46, 0, 0)) (e_T 46 (e_L 46 (0, ei_getf eft elay 0 1 49, 0, 0)) (e_L 49 (0, ei_load 2 0 50, 0, 0)))))) (e_T 58 (e_T 51 (e_T 50 (e_L 50 (0, ei_ald elay false 51, 0, 0)) (e_L 51 (0, ei_goto 65, 0, 0))) (e_T 54 (e_L 54 (0, ei_load 0 2 55, 0, 0)) (e_T 55 (e_L 55 (0, ei_getf eft elay 11 2 58, 0, 0)) (e_L 58 (0, ei_load 1 0 59, 0, 0))))) (e_T 60 (e_T 59 (e_L 59 (0, ei_aald elay 60, 0, 0)) (e_L 60 (0, ei_getf eft elay 0 2 63, 0, 0))) (e_T 63 (e_L 63 (0, ei_load 2 0 64, 0, 0)) (e_T 64 (e_L 64 (0, ei_ald elay false 65, 0, 0)) (e_L 65 (1, e_nof, 1, 0))))))))
set_option maxRecDepth 20000 in
set_option maxHeartbeats 4000000 in
theorem te_229_0_ok : ∀ pc, e_EOq eft cls elay eI n_229 pc (te_229_0 pc) :=
  (e_Tok2
  (e_Tok2
  (e_Tok2
  (e_Tok2
  (e_Tok2
  (e_Lok (ld_aload_n_0 (x_dk dn_229_0_0_ok 0 rfl)))
  (e_Lok (ld_iload_n_1 (x_dk dn_229_0_0_ok 1 rfl))))
  (e_Tok2
  (e_Lok (lk_11_103 ho_229 (x_dk dn_229_0_0_ok 2 rfl)))
  (e_Lok (e_st (I := eI) (er_ifeq (off := 29) (tg := 34) (x_dk dn_229_0_0_ok 3 rfl) (by decide)) nx_if1))))
  (e_Tok2
  (e_Tok2
  (e_Lok (ld_iload_n_2 (x_dk dn_229_0_0_ok 4 rfl)))
  (e_Lok (ps_iconst_0 (x_dk dn_229_0_0_ok 5 rfl))))
  (e_Tok2
  (e_Lok (ld_aload_n_0 (x_dk dn_229_0_0_ok 6 rfl)))
  (e_Tok2
  (e_Lok (lk_11_27g ho_229 (x_dk dn_229_0_0_ok 7 rfl)))
  (e_Lok (ld_iload_n_1 (x_dk dn_229_0_0_ok 8 rfl)))))))
  (e_Tok2
  (e_Tok2
  (e_Tok2
  (e_Lok (e_st (I := eI) (er_aaload (x_dk dn_229_0_0_ok 9 rfl)) nx_aald))
  (e_Lok (lk_11_112g ho_229 (x_dk dn_229_0_0_ok 10 rfl))))
  (e_Tok2
  (e_Lok (lk_11_82 ho_229 (x_dk dn_229_0_0_ok 11 rfl)))
  (e_Tok2
  (e_Lok (e_st (I := eI) (er_ifeq (off := 12) (tg := 34) (x_dk dn_229_0_0_ok 12 rfl) (by decide)) nx_if1))
  (e_Lok (ld_iload_n_3 (x_dk dn_229_0_0_ok 13 rfl))))))
  (e_Tok2
  (e_Tok2
  (e_Lok (ps_iconst_0 (x_dk dn_229_0_0_ok 14 rfl)))
  (e_Lok (ps_iconst_1 (x_dk dn_229_0_0_ok 15 rfl))))
  (e_Tok2
  (e_Lok (lk_11_82 ho_229 (x_dk dn_229_0_0_ok 16 rfl)))
  (e_Tok2
  (e_Lok (e_st (I := eI) (er_ifne (off := 5) (tg := 36) (x_dk dn_229_0_0_ok 17 rfl) (by decide)) nx_if1))
  (e_Lok (ps_iconst_m1 (x_dk dn_229_0_0_ok 18 rfl))))))))
  (e_Tok2
  (e_Tok2
  (e_Tok2
  (e_Tok2
  (e_Lok (e_rt (I := eI) (k := 1) ⟨(x_dk dn_229_0_0_ok 19 rfl), rfl⟩))
  (e_Lok (ld_iload_n_3 (x_dk dn_229_0_0_ok 20 rfl))))
  (e_Tok2
  (e_Lok (e_st (I := eI) (er_ifne (off := 17) (tg := 54) (x_dk dn_229_0_0_ok 21 rfl) (by decide)) nx_if1))
  (e_Lok (ld_aload_n_0 (x_dk dn_229_0_0_ok 22 rfl)))))
  (e_Tok2
  (e_Tok2
  (e_Lok (lk_11_27g ho_229 (x_dk dn_229_0_0_ok 23 rfl)))
  (e_Lok (ld_iload_n_1 (x_dk dn_229_0_0_ok 24 rfl))))
  (e_Tok2
  (e_Lok (e_st (I := eI) (er_aaload (x_dk dn_229_0_1_ok 0 rfl)) nx_aald))
  (e_Tok2
  (e_Lok (lk_11_329g ho_229 (x_dk dn_229_0_1_ok 1 rfl)))
  (e_Lok (ld_iload_n_2 (x_dk dn_229_0_1_ok 2 rfl)))))))
  (e_Tok2
  (e_Tok2
  (e_Tok2
  (e_Lok (sm_iaload (x_dk dn_229_0_1_ok 3 rfl)))
  (e_Lok (e_st (I := eI) (er_goto (off := 14) (tg := 65) (x_dk dn_229_0_1_ok 4 rfl) (by decide)) nx_goto)))
  (e_Tok2
  (e_Lok (ld_aload_n_0 (x_dk dn_229_0_1_ok 5 rfl)))
  (e_Tok2
  (e_Lok (lk_11_27g ho_229 (x_dk dn_229_0_1_ok 6 rfl)))
  (e_Lok (ld_iload_n_1 (x_dk dn_229_0_1_ok 7 rfl))))))
  (e_Tok2
  (e_Tok2
  (e_Lok (e_st (I := eI) (er_aaload (x_dk dn_229_0_1_ok 8 rfl)) nx_aald))
  (e_Lok (lk_11_332g ho_229 (x_dk dn_229_0_1_ok 9 rfl))))
  (e_Tok2
  (e_Lok (ld_iload_n_2 (x_dk dn_229_0_1_ok 10 rfl)))
  (e_Tok2
  (e_Lok (sm_iaload (x_dk dn_229_0_1_ok 11 rfl)))
  (e_Lok (e_rt (I := eI) (k := 1) ⟨(x_dk dn_229_0_1_ok 12 rfl), rfl⟩))))))))
def te_229 : Nat → eE := te_229_0
theorem te_229_ok : ∀ pc, e_EOq eft cls elay eI n_229 pc (te_229 pc) := te_229_0_ok
theorem ho_230 : (xm_y n_230).cls = "RobotCellHouse" := rfl
def dn_230_0_0 : List (Nat × Instr × Nat) := [(0, .aload_n 0, 1), (1, .iload_n 1, 1), (2, .invokevirtual 103, 3), (5, .ifCond .eq 15, 3), (8, .aload_n 0, 1), (9, .getfield 27, 3), (12, .iload_n 1, 1), (13, .aaload, 1), (14, .getfield 317, 3), (17, .ifCond .ge 5, 3), (20, .iconst (-1), 1), (21, .ireturn, 1), (22, .aload_n 0, 1), (23, .getfield 53, 3), (26, .aload_n 0, 1), (27, .getfield 27, 3), (30, .iload_n 1, 1), (31, .aaload, 1), (32, .getfield 317, 3), (35, .iload_n 2, 1), (36, .invokevirtual 335, 3), (39, .ireturn, 1)]
set_option maxRecDepth 20000 in
theorem dn_230_0_0_ok : dn_230_0_0.all (fun q => decide (decode (xm_b n_230) q.1 = .ok (q.2.1, q.2.2))) = true := xa_g_ok (by decide +kernel)
def te_230_0 : Nat → eE := (e_T 20 (e_T 8 (e_T 1 (e_T 0 (e_L 0 (0, ei_load 0 2 1, 0, 0)) (e_L 1 (0, ei_load 1 0 2, 0, 0))) (e_T 2 (e_L 2 (2, e_nof, 246, 2)) (e_T 5 (e_L 5 (0, ei_if1 0 20 8, 0, 0)) (e_L 8 (0, ei_load 0 2 9, 0, 0))))) (e_T 13 (e_T 9 (e_L 9 (0, ei_getf eft elay 11 2 12, 0, 0)) (e_T 12 (e_L 12 (0, ei_load 1 0 13, 0, 0)) (e_L 13 (0, ei_aald elay 14, 0, 0)))) (e_T 14 (e_L 14 (0, ei_getf eft elay 0 17 17, 0, 0)) (e_T 17 (e_L 17 (0, ei_if1 3 22 20, 0, 0)) (e_L 20 (0, ei_push (0, (-1)) 21, 0, 0)))))) (e_T 27 (e_T 22 (e_T 21 (e_L 21 (1, e_nof, 1, 0)) (e_L 22 (0, ei_load 0 2 23, 0, 0))) (e_T 23 (e_L 23 (0, ei_getf eft elay 11 7 26, 0, 0)) (e_T 26 (e_L 26 (0, ei_load 0 2 27, 0, 0)) (e_L 27 (0, ei_getf eft elay 11 2 30, 0, 0))))) (e_T 32 (e_T 30 (e_L 30 (0, ei_load 1 0 31, 0, 0)) (e_T 31 (e_L 31 (0, ei_aald elay 32, 0, 0)) (e_L 32 (0, ei_getf eft elay 0 17 35, 0, 0)))) (e_T 35 (e_L 35 (0, ei_load 2 0 36, 0, 0)) (e_T 36 (e_L 36 (2, e_nof, 96, 3)) (e_L 39 (1, e_nof, 1, 0)))))))
set_option maxRecDepth 20000 in
set_option maxHeartbeats 4000000 in
theorem te_230_0_ok : ∀ pc, e_EOq eft cls elay eI n_230 pc (te_230_0 pc) :=
  (e_Tok2
  (e_Tok2
  (e_Tok2
  (e_Tok2
  (e_Lok (ld_aload_n_0 (x_dk dn_230_0_0_ok 0 rfl)))
  (e_Lok (ld_iload_n_1 (x_dk dn_230_0_0_ok 1 rfl))))
  (e_Tok2
  (e_Lok (lk_11_103 ho_230 (x_dk dn_230_0_0_ok 2 rfl)))
  (e_Tok2
  (e_Lok (e_st (I := eI) (er_ifeq (off := 15) (tg := 20) (x_dk dn_230_0_0_ok 3 rfl) (by decide)) nx_if1))
  (e_Lok (ld_aload_n_0 (x_dk dn_230_0_0_ok 4 rfl))))))
  (e_Tok2
  (e_Tok2
  (e_Lok (lk_11_27g ho_230 (x_dk dn_230_0_0_ok 5 rfl)))
  (e_Tok2
  (e_Lok (ld_iload_n_1 (x_dk dn_230_0_0_ok 6 rfl)))
  (e_Lok (e_st (I := eI) (er_aaload (x_dk dn_230_0_0_ok 7 rfl)) nx_aald))))
  (e_Tok2
  (e_Lok (lk_11_317g ho_230 (x_dk dn_230_0_0_ok 8 rfl)))
  (e_Tok2
  (e_Lok (e_st (I := eI) (er_ifge (off := 5) (tg := 22) (x_dk dn_230_0_0_ok 9 rfl) (by decide)) nx_if1))
  (e_Lok (ps_iconst_m1 (x_dk dn_230_0_0_ok 10 rfl)))))))
  (e_Tok2
  (e_Tok2
  (e_Tok2
  (e_Lok (e_rt (I := eI) (k := 1) ⟨(x_dk dn_230_0_0_ok 11 rfl), rfl⟩))
  (e_Lok (ld_aload_n_0 (x_dk dn_230_0_0_ok 12 rfl))))
  (e_Tok2
  (e_Lok (lk_11_53g ho_230 (x_dk dn_230_0_0_ok 13 rfl)))
  (e_Tok2
  (e_Lok (ld_aload_n_0 (x_dk dn_230_0_0_ok 14 rfl)))
  (e_Lok (lk_11_27g ho_230 (x_dk dn_230_0_0_ok 15 rfl))))))
  (e_Tok2
  (e_Tok2
  (e_Lok (ld_iload_n_1 (x_dk dn_230_0_0_ok 16 rfl)))
  (e_Tok2
  (e_Lok (e_st (I := eI) (er_aaload (x_dk dn_230_0_0_ok 17 rfl)) nx_aald))
  (e_Lok (lk_11_317g ho_230 (x_dk dn_230_0_0_ok 18 rfl)))))
  (e_Tok2
  (e_Lok (ld_iload_n_2 (x_dk dn_230_0_0_ok 19 rfl)))
  (e_Tok2
  (e_Lok (lk_11_335 ho_230 (x_dk dn_230_0_0_ok 20 rfl)))
  (e_Lok (e_rt (I := eI) (k := 1) ⟨(x_dk dn_230_0_0_ok 21 rfl), rfl⟩)))))))
def te_230 : Nat → eE := te_230_0
theorem te_230_ok : ∀ pc, e_EOq eft cls elay eI n_230 pc (te_230 pc) := te_230_0_ok
theorem ho_231 : (xm_y n_231).cls = "RobotCellHouse" := rfl
def dn_231_0_0 : List (Nat × Instr × Nat) := [(0, .iload_n 1, 1), (1, .iconst 0, 1), (2, .bipush 15, 2), (4, .invokestatic 82, 3), (7, .ifCond .ne 5, 3), (10, .iconst (-1), 1), (11, .ireturn, 1), (12, .aload_n 0, 1), (13, .getfield 19, 3), (16, .getfield 338, 3), (19, .iload_n 1, 1), (20, .aaload, 1), (21, .astore_n 3, 1), (22, .iload_n 2, 1), (23, .tableswitch 49 0 3 #[29, 34, 39, 44], 29), (52, .aload_n 3, 1), (53, .getfield 342, 3), (56, .ireturn, 1), (57, .aload_n 3, 1), (58, .getfield 345, 3), (61, .ireturn, 1), (62, .aload_n 3, 1), (63, .getfield 348, 3), (66, .ireturn, 1), (67, .aload_n 3, 1)]
set_option maxRecDepth 20000 in
theorem dn_231_0_0_ok : dn_231_0_0.all (fun q => decide (decode (xm_b n_231) q.1 = .ok (q.2.1, q.2.2))) = true := xa_g_ok (by decide +kernel)
def dn_231_0_1 : List (Nat × Instr × Nat) := [(68, .getfield 351, 3), (71, .ireturn, 1), (72, .iconst (-1), 1), (73, .ireturn, 1)]
set_option maxRecDepth 20000 in
theorem dn_231_0_1_ok : dn_231_0_1.all (fun q => decide (decode (xm_b n_231) q.1 = .ok (q.2.1, q.2.2))) = true := xa_g_ok (by decide +kernel)
def te_231_0 : Nat → eE := (e_T 22 (e_T 11 (e_T 2 (e_T 0 (e_L 0 (0, ei_load 1 0 1, 0, 0)) (e_T 1 (e_L 1 (0, ei_push (0, 0) 2, 0, 0)) (e_L 2 (0, ei_push (0, 15) 4, 0, 0)))) (e_T 7 (e_T 4 (e_L 4 (2, e_nof, 242, 3)) (e_L 7 (0, ei_if1 1 12 10, 0, 0))) (e_T 10 (e_L 10 (0, ei_push (0, (-1)) 11, 0, 0)) (e_L 11 (1, e_nof, 1, 0))))) (e_T 16 (e_T 12 (e_L 12 (0, ei_load 0 2 13, 0, 0)) (e_T 13 (e_L 13 (0, ei_getf eft elay 11 1 16, 0, 0)) (e_L 16 (0, ei_getf eft elay 3 4 19, 0, 0)))) (e_T 20 (e_T 19 (e_L 19 (0, ei_load 1 0 20, 0, 0)) (e_L 20 (0, ei_aald elay 21, 0, 0))) (e_T 21 (e_L 21 (0, ei_stor 3 2 22, 0, 0)) (e_L 22 (0, ei_load 2 0 23, 0, 0)))))) (e_T 61 (e_T 53 (e_T 23 (e_L 23 (0, ei_sw [((-2147483648), (-1), 72), (0, 0, 52), (1, 1, 57), (2, 2, 62), (3, 3, 67), (4, 2147483647, 72)], 0, 0)) (e_T 52 (e_L 52 (0, ei_load 3 2 53, 0, 0)) (e_L 53 (0, ei_getf eft elay 10 1 56, 0, 0)))) (e_T 57 (e_T 56 (e_L 56 (1, e_nof, 1, 0)) (e_L 57 (0, ei_load 3 2 58, 0, 0))) (e_T 58 (e_L 58 (0, ei_getf eft elay 10 2 61, 0, 0)) (e_L 61 (1, e_nof, 1, 0))))) (e_T 67 (e_T 63 (e_T 62 (e_L 62 (0, ei_load 3 2 63, 0, 0)) (e_L 63 (0, ei_getf eft elay 10 5 66, 0, 0))) (e_T 66 (e_L 66 (1, e_nof, 1, 0)) (e_L 67 (0, ei_load 3 2 68, 0, 0)))) (e_T 71 (e_T 68 (e_L 68 (0, ei_getf eft elay 10 4 71, 0, 0)) (e_L 71 (1, e_nof, 1, 0))) (e_T 72 (e_L 72 (0, ei_push (0, (-1)) 73, 0, 0)) (e_L 73 (1, e_nof, 1, 0)))))))
set_option maxRecDepth 20000 in
set_option maxHeartbeats 4000000 in
theorem te_231_0_ok : ∀ pc, e_EOq eft cls elay eI n_231 pc (te_231_0 pc) :=
  (e_Tok2
  (e_Tok2
  (e_Tok2
  (e_Tok2
  (e_Lok (ld_iload_n_1 (x_dk dn_231_0_0_ok 0 rfl)))
  (e_Tok2
  (e_Lok (ps_iconst_0 (x_dk dn_231_0_0_ok 1 rfl)))
  (e_Lok (ps_bipush_15 (x_dk dn_231_0_0_ok 2 rfl)))))
  (e_Tok2
  (e_Tok2
  (e_Lok (lk_11_82 ho_231 (x_dk dn_231_0_0_ok 3 rfl)))
  (e_Lok (e_st (I := eI) (er_ifne (off := 5) (tg := 12) (x_dk dn_231_0_0_ok 4 rfl) (by decide)) nx_if1)))
  (e_Tok2
  (e_Lok (ps_iconst_m1 (x_dk dn_231_0_0_ok 5 rfl)))
  (e_Lok (e_rt (I := eI) (k := 1) ⟨(x_dk dn_231_0_0_ok 6 rfl), rfl⟩)))))
  (e_Tok2
  (e_Tok2
  (e_Lok (ld_aload_n_0 (x_dk dn_231_0_0_ok 7 rfl)))
  (e_Tok2
  (e_Lok (lk_11_19g ho_231 (x_dk dn_231_0_0_ok 8 rfl)))
  (e_Lok (lk_11_338g ho_231 (x_dk dn_231_0_0_ok 9 rfl)))))
  (e_Tok2
  (e_Tok2
  (e_Lok (ld_iload_n_1 (x_dk dn_231_0_0_ok 10 rfl)))
  (e_Lok (e_st (I := eI) (er_aaload (x_dk dn_231_0_0_ok 11 rfl)) nx_aald)))
  (e_Tok2
  (e_Lok (e_st (I := eI) (er_astore_n (i := 3) (x_dk dn_231_0_0_ok 12 rfl) (by decide +kernel)) nx_stor))
  (e_Lok (ld_iload_n_2 (x_dk dn_231_0_0_ok 13 rfl)))))))
  (e_Tok2
  (e_Tok2
  (e_Tok2
  (e_Lok (e_st (I := eI) (er_tsw (dflt := 49) (lo := 0) (hi := 3) (offs := #[29, 34, 39, 44]) (len := 29) (n := 4) (x_dk dn_231_0_0_ok 14 rfl) (by decide) (by decide +kernel)) nx_sw))
  (e_Tok2
  (e_Lok (ld_aload_n_3 (x_dk dn_231_0_0_ok 15 rfl)))
  (e_Lok (lk_11_342g ho_231 (x_dk dn_231_0_0_ok 16 rfl)))))
  (e_Tok2
  (e_Tok2
  (e_Lok (e_rt (I := eI) (k := 1) ⟨(x_dk dn_231_0_0_ok 17 rfl), rfl⟩))
  (e_Lok (ld_aload_n_3 (x_dk dn_231_0_0_ok 18 rfl))))
  (e_Tok2
  (e_Lok (lk_11_345g ho_231 (x_dk dn_231_0_0_ok 19 rfl)))
  (e_Lok (e_rt (I := eI) (k := 1) ⟨(x_dk dn_231_0_0_ok 20 rfl), rfl⟩)))))
  (e_Tok2
  (e_Tok2
  (e_Tok2
  (e_Lok (ld_aload_n_3 (x_dk dn_231_0_0_ok 21 rfl)))
  (e_Lok (lk_11_348g ho_231 (x_dk dn_231_0_0_ok 22 rfl))))
  (e_Tok2
  (e_Lok (e_rt (I := eI) (k := 1) ⟨(x_dk dn_231_0_0_ok 23 rfl), rfl⟩))
  (e_Lok (ld_aload_n_3 (x_dk dn_231_0_0_ok 24 rfl)))))
  (e_Tok2
  (e_Tok2
  (e_Lok (lk_11_351g ho_231 (x_dk dn_231_0_1_ok 0 rfl)))
  (e_Lok (e_rt (I := eI) (k := 1) ⟨(x_dk dn_231_0_1_ok 1 rfl), rfl⟩)))
  (e_Tok2
  (e_Lok (ps_iconst_m1 (x_dk dn_231_0_1_ok 2 rfl)))
  (e_Lok (e_rt (I := eI) (k := 1) ⟨(x_dk dn_231_0_1_ok 3 rfl), rfl⟩)))))))
def te_231 : Nat → eE := te_231_0
theorem te_231_ok : ∀ pc, e_EOq eft cls elay eI n_231 pc (te_231 pc) := te_231_0_ok
theorem ho_232 : (xm_y n_232).cls = "RobotCellHouse" := rfl
def dn_232_0_0 : List (Nat × Instr × Nat) := [(0, .aload_n 0, 1), (1, .iload_n 1, 1), (2, .invokevirtual 103, 3), (5, .ifCond .eq 25, 3), (8, .iload_n 2, 1), (9, .iconst 0, 1), (10, .aload_n 0, 1), (11, .getfield 27, 3), (14, .iload_n 1, 1), (15, .aaload, 1), (16, .getfield 240, 3), (19, .getfield 354, 3), (22, .iconst 1, 1), (23, .isub, 1), (24, .invokestatic 82, 3), (27, .ifCond .ne 5, 3), (30, .iconst (-1), 1), (31, .ireturn, 1), (32, .aload_n 0, 1), (33, .getfield 27, 3), (36, .iload_n 1, 1), (37, .aaload, 1), (38, .getfield 357, 3), (41, .iload_n 2, 1), (42, .iaload, 1)]
set_option maxRecDepth 20000 in
theorem dn_232_0_0_ok : dn_232_0_0.all (fun q => decide (decode (xm_b n_232) q.1 = .ok (q.2.1, q.2.2))) = true := xa_g_ok (by decide +kernel)
def dn_232_0_1 : List (Nat × Instr × Nat) := [(43, .ireturn, 1)]
set_option maxRecDepth 20000 in
theorem dn_232_0_1_ok : dn_232_0_1.all (fun q => decide (decode (xm_b n_232) q.1 = .ok (q.2.1, q.2.2))) = true := xa_g_ok (by decide +kernel)
def te_232_0 : Nat → eE := (e_T 22 (e_T 9 (e_T 2 (e_T 0 (e_L 0 (0, ei_load 0 2 1, 0, 0)) (e_T 1 (e_L 1 (0, ei_load 1 0 2, 0, 0)) (e_L 2 (2, e_nof, 246, 2)))) (e_T 5 (e_L 5 (0, ei_if1 0 30 8, 0, 0)) (e_T 8 (e_L 8 (0, ei_load 2 0 9, 0, 0)) (e_L 9 (0, ei_push (0, 0) 10, 0, 0))))) (e_T 14 (e_T 10 (e_L 10 (0, ei_load 0 2 11, 0, 0)) (e_T 11 (e_L 11 (0, ei_getf eft elay 11 2 14, 0, 0)) (e_L 14 (0, ei_load 1 0 15, 0, 0)))) (e_T 16 (e_T 15 (e_L 15 (0, ei_aald elay 16, 0, 0)) (e_L 16 (0, ei_getf eft elay 0 7 19, 0, 0))) (e_T 19 (e_L 19 (0, ei_getf eft elay 1 2 22, 0, 0)) (e_L 22 (0, ei_push (0, 1) 23, 0, 0)))))) (e_T 32 (e_T 27 (e_T 23 (e_L 23 (0, ei_bin eF_sub 24, 0, 0)) (e_T 24 (e_L 24 (2, e_nof, 242, 3)) (e_L 27 (0, ei_if1 1 32 30, 0, 0)))) (e_T 30 (e_L 30 (0, ei_push (0, (-1)) 31, 0, 0)) (e_T 31 (e_L 31 (1, e_nof, 1, 0)) (e_L 32 (0, ei_load 0 2 33, 0, 0))))) (e_T 37 (e_T 33 (e_L 33 (0, ei_getf eft elay 11 2 36, 0, 0)) (e_T 36 (e_L 36 (0, ei_load 1 0 37, 0, 0)) (e_L 37 (0, ei_aald elay 38, 0, 0)))) (e_T 41 (e_T 38 (e_L 38 (0, ei_getf eft elay 0 6 41, 0, 0)) (e_L 41 (0, ei_load 2 0 42, 0, 0))) (e_T 42 (e_L 42 (0, ei_ald elay false 43, 0, 0)) (e_L 43 (1, e_nof, 1, 0)))))))
set_option maxRecDepth 20000 in
set_option maxHeartbeats 4000000 in
theorem te_232_0_ok : ∀ pc, e_EOq eft cls elay eI n_232 pc (te_232_0 pc) :=
  (e_Tok2
  (e_Tok2
  (e_Tok2
  (e_Tok2
  (e_Lok (ld_aload_n_0 (x_dk dn_232_0_0_ok 0 rfl)))
  (e_Tok2
  (e_Lok (ld_iload_n_1 (x_dk dn_232_0_0_ok 1 rfl)))
  (e_Lok (lk_11_103 ho_232 (x_dk dn_232_0_0_ok 2 rfl)))))
  (e_Tok2
  (e_Lok (e_st (I := eI) (er_ifeq (off := 25) (tg := 30) (x_dk dn_232_0_0_ok 3 rfl) (by decide)) nx_if1))
  (e_Tok2
  (e_Lok (ld_iload_n_2 (x_dk dn_232_0_0_ok 4 rfl)))
  (e_Lok (ps_iconst_0 (x_dk dn_232_0_0_ok 5 rfl))))))
  (e_Tok2
  (e_Tok2
  (e_Lok (ld_aload_n_0 (x_dk dn_232_0_0_ok 6 rfl)))
  (e_Tok2
  (e_Lok (lk_11_27g ho_232 (x_dk dn_232_0_0_ok 7 rfl)))
  (e_Lok (ld_iload_n_1 (x_dk dn_232_0_0_ok 8 rfl)))))
  (e_Tok2
  (e_Tok2
  (e_Lok (e_st (I := eI) (er_aaload (x_dk dn_232_0_0_ok 9 rfl)) nx_aald))
  (e_Lok (lk_11_240g ho_232 (x_dk dn_232_0_0_ok 10 rfl))))
  (e_Tok2
  (e_Lok (lk_11_354g ho_232 (x_dk dn_232_0_0_ok 11 rfl)))
  (e_Lok (ps_iconst_1 (x_dk dn_232_0_0_ok 12 rfl)))))))
  (e_Tok2
  (e_Tok2
  (e_Tok2
  (e_Lok (sm_isub (x_dk dn_232_0_0_ok 13 rfl)))
  (e_Tok2
  (e_Lok (lk_11_82 ho_232 (x_dk dn_232_0_0_ok 14 rfl)))
  (e_Lok (e_st (I := eI) (er_ifne (off := 5) (tg := 32) (x_dk dn_232_0_0_ok 15 rfl) (by decide)) nx_if1))))
  (e_Tok2
  (e_Lok (ps_iconst_m1 (x_dk dn_232_0_0_ok 16 rfl)))
  (e_Tok2
  (e_Lok (e_rt (I := eI) (k := 1) ⟨(x_dk dn_232_0_0_ok 17 rfl), rfl⟩))
  (e_Lok (ld_aload_n_0 (x_dk dn_232_0_0_ok 18 rfl))))))
  (e_Tok2
  (e_Tok2
  (e_Lok (lk_11_27g ho_232 (x_dk dn_232_0_0_ok 19 rfl)))
  (e_Tok2
  (e_Lok (ld_iload_n_1 (x_dk dn_232_0_0_ok 20 rfl)))
  (e_Lok (e_st (I := eI) (er_aaload (x_dk dn_232_0_0_ok 21 rfl)) nx_aald))))
  (e_Tok2
  (e_Tok2
  (e_Lok (lk_11_357g ho_232 (x_dk dn_232_0_0_ok 22 rfl)))
  (e_Lok (ld_iload_n_2 (x_dk dn_232_0_0_ok 23 rfl))))
  (e_Tok2
  (e_Lok (sm_iaload (x_dk dn_232_0_0_ok 24 rfl)))
  (e_Lok (e_rt (I := eI) (k := 1) ⟨(x_dk dn_232_0_1_ok 0 rfl), rfl⟩)))))))
def te_232 : Nat → eE := te_232_0
theorem te_232_ok : ∀ pc, e_EOq eft cls elay eI n_232 pc (te_232 pc) := te_232_0_ok
theorem ho_233 : (xm_y n_233).cls = "RobotCellHouse" := rfl
def dn_233_0_0 : List (Nat × Instr × Nat) := [(0, .iload_n 1, 1), (1, .invokestatic 178, 3), (4, .ifCond .ne 5, 3), (7, .iconst (-1), 1), (8, .ireturn, 1), (9, .iload_n 2, 1), (10, .tableswitch 56 0 2 #[26, 36, 46], 26), (36, .aload_n 0, 1), (37, .getfield 32, 3), (40, .getfield 360, 3), (43, .iload_n 1, 1), (44, .iaload, 1), (45, .ireturn, 1), (46, .aload_n 0, 1), (47, .getfield 32, 3), (50, .getfield 362, 3), (53, .iload_n 1, 1), (54, .iaload, 1), (55, .ireturn, 1), (56, .aload_n 0, 1), (57, .getfield 32, 3), (60, .getfield 365, 3), (63, .iload_n 1, 1), (64, .iaload, 1), (65, .ireturn, 1)]
set_option maxRecDepth 20000 in
theorem dn_233_0_0_ok : dn_233_0_0.all (fun q => decide (decode (xm_b n_233) q.1 = .ok (q.2.1, q.2.2))) = true := xa_g_ok (by decide +kernel)
def dn_233_0_1 : List (Nat × Instr × Nat) := [(66, .iconst (-1), 1), (67, .ireturn, 1)]
set_option maxRecDepth 20000 in
theorem dn_233_0_1_ok : dn_233_0_1.all (fun q => decide (decode (xm_b n_233) q.1 = .ok (q.2.1, q.2.2))) = true := xa_g_ok (by decide +kernel)
def te_233_0 : Nat → eE := (e_T 45 (e_T 9 (e_T 4 (e_T 0 (e_L 0 (0, ei_load 1 0 1, 0, 0)) (e_T 1 (e_L 1 (2, e_nof, 245, 1)) (e_L 4 (0, ei_if1 1 9 7, 0, 0)))) (e_T 7 (e_L 7 (0, ei_push (0, (-1)) 8, 0, 0)) (e_T 8 (e_L 8 (1, e_nof, 1, 0)) (e_L 9 (0, ei_load 2 0 10, 0, 0))))) (e_T 37 (e_T 10 (e_L 10 (0, ei_sw [((-2147483648), (-1), 66), (0, 0, 36), (1, 1, 46), (2, 2, 56), (3, 2147483647, 66)], 0, 0)) (e_T 36 (e_L 36 (0, ei_load 0 2 37, 0, 0)) (e_L 37 (0, ei_getf eft elay 11 3 40, 0, 0)))) (e_T 43 (e_T 40 (e_L 40 (0, ei_getf eft elay 7 1 43, 0, 0)) (e_L 43 (0, ei_load 1 0 44, 0, 0))) (e_T 44 (e_L 44 (0, ei_ald elay false 45, 0, 0)) (e_L 45 (1, e_nof, 1, 0)))))) (e_T 56 (e_T 50 (e_T 46 (e_L 46 (0, ei_load 0 2 47, 0, 0)) (e_T 47 (e_L 47 (0, ei_getf eft elay 11 3 50, 0, 0)) (e_L 50 (0, ei_getf eft elay 7 0 53, 0, 0)))) (e_T 54 (e_T 53 (e_L 53 (0, ei_load 1 0 54, 0, 0)) (e_L 54 (0, ei_ald elay false 55, 0, 0))) (e_T 55 (e_L 55 (1, e_nof, 1, 0)) (e_L 56 (0, ei_load 0 2 57, 0, 0))))) (e_T 63 (e_T 57 (e_L 57 (0, ei_getf eft elay 11 3 60, 0, 0)) (e_T 60 (e_L 60 (0, ei_getf eft elay 7 2 63, 0, 0)) (e_L 63 (0, ei_load 1 0 64, 0, 0)))) (e_T 65 (e_T 64 (e_L 64 (0, ei_ald elay false 65, 0, 0)) (e_L 65 (1, e_nof, 1, 0))) (e_T 66 (e_L 66 (0, ei_push (0, (-1)) 67, 0, 0)) (e_L 67 (1, e_nof, 1, 0)))))))
set_option maxRecDepth 20000 in
set_option maxHeartbeats 4000000 in
theorem te_233_0_ok : ∀ pc, e_EOq eft cls elay eI n_233 pc (te_233_0 pc) :=
  (e_Tok2
  (e_Tok2
  (e_Tok2
  (e_Tok2
  (e_Lok (ld_iload_n_1 (x_dk dn_233_0_0_ok 0 rfl)))
  (e_Tok2
  (e_Lok (lk_11_178 ho_233 (x_dk dn_233_0_0_ok 1 rfl)))
  (e_Lok (e_st (I := eI) (er_ifne (off := 5) (tg := 9) (x_dk dn_233_0_0_ok 2 rfl) (by decide)) nx_if1))))
  (e_Tok2
  (e_Lok (ps_iconst_m1 (x_dk dn_233_0_0_ok 3 rfl)))
  (e_Tok2
  (e_Lok (e_rt (I := eI) (k := 1) ⟨(x_dk dn_233_0_0_ok 4 rfl), rfl⟩))
  (e_Lok (ld_iload_n_2 (x_dk dn_233_0_0_ok 5 rfl))))))
  (e_Tok2
  (e_Tok2
  (e_Lok (e_st (I := eI) (er_tsw (dflt := 56) (lo := 0) (hi := 2) (offs := #[26, 36, 46]) (len := 26) (n := 3) (x_dk dn_233_0_0_ok 6 rfl) (by decide) (by decide +kernel)) nx_sw))
  (e_Tok2
  (e_Lok (ld_aload_n_0 (x_dk dn_233_0_0_ok 7 rfl)))
  (e_Lok (lk_11_32g ho_233 (x_dk dn_233_0_0_ok 8 rfl)))))
  (e_Tok2
  (e_Tok2
  (e_Lok (lk_11_360g ho_233 (x_dk dn_233_0_0_ok 9 rfl)))
  (e_Lok (ld_iload_n_1 (x_dk dn_233_0_0_ok 10 rfl))))
  (e_Tok2
  (e_Lok (sm_iaload (x_dk dn_233_0_0_ok 11 rfl)))
  (e_Lok (e_rt (I := eI) (k := 1) ⟨(x_dk dn_233_0_0_ok 12 rfl), rfl⟩))))))
  (e_Tok2
  (e_Tok2
  (e_Tok2
  (e_Lok (ld_aload_n_0 (x_dk dn_233_0_0_ok 13 rfl)))
  (e_Tok2
  (e_Lok (lk_11_32g ho_233 (x_dk dn_233_0_0_ok 14 rfl)))
  (e_Lok (lk_11_362g ho_233 (x_dk dn_233_0_0_ok 15 rfl)))))
  (e_Tok2
  (e_Tok2
  (e_Lok (ld_iload_n_1 (x_dk dn_233_0_0_ok 16 rfl)))
  (e_Lok (sm_iaload (x_dk dn_233_0_0_ok 17 rfl))))
  (e_Tok2
  (e_Lok (e_rt (I := eI) (k := 1) ⟨(x_dk dn_233_0_0_ok 18 rfl), rfl⟩))
  (e_Lok (ld_aload_n_0 (x_dk dn_233_0_0_ok 19 rfl))))))
  (e_Tok2
  (e_Tok2
  (e_Lok (lk_11_32g ho_233 (x_dk dn_233_0_0_ok 20 rfl)))
  (e_Tok2
  (e_Lok (lk_11_365g ho_233 (x_dk dn_233_0_0_ok 21 rfl)))
  (e_Lok (ld_iload_n_1 (x_dk dn_233_0_0_ok 22 rfl)))))
  (e_Tok2
  (e_Tok2
  (e_Lok (sm_iaload (x_dk dn_233_0_0_ok 23 rfl)))
  (e_Lok (e_rt (I := eI) (k := 1) ⟨(x_dk dn_233_0_0_ok 24 rfl), rfl⟩)))
  (e_Tok2
  (e_Lok (ps_iconst_m1 (x_dk dn_233_0_1_ok 0 rfl)))
  (e_Lok (e_rt (I := eI) (k := 1) ⟨(x_dk dn_233_0_1_ok 1 rfl), rfl⟩)))))))
def te_233 : Nat → eE := te_233_0
theorem te_233_ok : ∀ pc, e_EOq eft cls elay eI n_233 pc (te_233 pc) := te_233_0_ok
end
