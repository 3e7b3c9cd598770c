noncomputable section
theorem ho_157 : (xm_y n_157).cls = "RobotCellHouse$Reader" := rfl
def dn_157_0_0 : List (Nat × Instr × Nat) := [(0, .aload_n 0, 1), (1, .invokevirtual 54, 3), (4, .aload_n 0, 1), (5, .bipush 20, 2), (7, .invokevirtual 180, 3), (10, .aload_n 0, 1), (11, .invokevirtual 195, 3), (14, .aload_n 0, 1), (15, .getfield 21, 3), (18, .iload_n 1, 1), (19, .iconst 0, 1), (20, .invokevirtual 198, 3), (23, .pop, 1), (24, .return_, 1)]
set_option maxRecDepth 20000 in
theorem dn_157_0_0_ok : dn_157_0_0.all (fun q => decide (decode (xm_b n_157) q.1 = .ok (q.2.1, q.2.2))) = true := xa_g_ok (by decide +kernel)
def te_157_0 : Nat → eE := (e_T 11 (e_T 4 (e_T 0 (e_L 0 (0, ei_load 0 2 1, 0, 0)) (e_T 1 (e_L 1 (2, e_nof, 123, 1)) (e_L 4 (0, ei_load 0 2 5, 0, 0)))) (e_T 7 (e_T 5 (e_L 5 (0, ei_push (0, 20) 7, 0, 0)) (e_L 7 (2, e_nof, 129, 2))) (e_T 10 (e_L 10 (0, ei_load 0 2 11, 0, 0)) (e_L 11 (2, e_nof, 144, 1))))) (e_T 18 (e_T 14 (e_L 14 (0, ei_load 0 2 15, 0, 0)) (e_T 15 (e_L 15 (0, ei_getf eft elay 8 3 18, 0, 0)) (e_L 18 (0, ei_load 1 0 19, 0, 0)))) (e_T 20 (e_T 19 (e_L 19 (0, ei_push (0, 0) 20, 0, 0)) (e_L 20 (2, e_nof, 21, 3))) (e_T 23 (e_L 23 (0, ei_stk ef_pop 24, 0, 0)) (e_L 24 (1, e_nof, 0, 0))))))
set_option maxRecDepth 20000 in
set_option maxHeartbeats 4000000 in
theorem te_157_0_ok : ∀ pc, e_EOq eft cls elay eI n_157 pc (te_157_0 pc) :=
  (e_Tok2
  (e_Tok2
  (e_Tok2
  (e_Lok (ld_aload_n_0 (x_dk dn_157_0_0_ok 0 rfl)))
  (e_Tok2
  (e_Lok (lk_8_54 ho_157 (x_dk dn_157_0_0_ok 1 rfl)))
  (e_Lok (ld_aload_n_0 (x_dk dn_157_0_0_ok 2 rfl)))))
  (e_Tok2
  (e_Tok2
  (e_Lok (ps_bipush_20 (x_dk dn_157_0_0_ok 3 rfl)))
  (e_Lok (lk_8_180 ho_157 (x_dk dn_157_0_0_ok 4 rfl))))
  (e_Tok2
  (e_Lok (ld_aload_n_0 (x_dk dn_157_0_0_ok 5 rfl)))
  (e_Lok (lk_8_195 ho_157 (x_dk dn_157_0_0_ok 6 rfl))))))
  (e_Tok2
  (e_Tok2
  (e_Lok (ld_aload_n_0 (x_dk dn_157_0_0_ok 7 rfl)))
  (e_Tok2
  (e_Lok (lk_8_21g ho_157 (x_dk dn_157_0_0_ok 8 rfl)))
  (e_Lok (ld_iload_n_1 (x_dk dn_157_0_0_ok 9 rfl)))))
  (e_Tok2
  (e_Tok2
  (e_Lok (ps_iconst_0 (x_dk dn_157_0_0_ok 10 rfl)))
  (e_Lok (lk_8_198 ho_157 (x_dk dn_157_0_0_ok 11 rfl))))
  (e_Tok2
  (e_Lok (e_st (I := eI) (er_pop (x_dk dn_157_0_0_ok 12 rfl)) (nx_stk bf_pop)))
  (e_Lok (e_rt (I := eI) (k := 0) ⟨(x_dk dn_157_0_0_ok 13 rfl), rfl⟩))))))
def te_157 : Nat → eE := te_157_0
theorem te_157_ok : ∀ pc, e_EOq eft cls elay eI n_157 pc (te_157 pc) := te_157_0_ok
theorem ho_158 : (xm_y n_158).cls = "RobotCellHouse$Reader" := rfl
def dn_158_0_0 : List (Nat × Instr × Nat) := [(0, .aload_n 0, 1), (1, .invokevirtual 257, 3), (4, .iconst 0, 1), (5, .istore_n 1, 1), (6, .iload_n 1, 1), (7, .sipush 4000, 3), (10, .if_icmp .ge 63, 3), (13, .aload_n 0, 1), (14, .getfield 57, 3), (17, .bipush 45, 2), (19, .if_icmp .ne 54, 3), (22, .aload_n 0, 1), (23, .getfield 21, 3), (26, .bipush 12, 2), (28, .iconst 0, 1), (29, .invokevirtual 198, 3), (32, .istore_n 2, 1), (33, .aload_n 0, 1), (34, .invokevirtual 54, 3), (37, .aload_n 0, 1), (38, .invokevirtual 257, 3), (41, .aload_n 0, 1), (42, .getfield 21, 3), (45, .bipush 11, 2), (47, .iconst 0, 1)]
set_option maxRecDepth 20000 in
theorem dn_158_0_0_ok : dn_158_0_0.all (fun q => decide (decode (xm_b n_158) q.1 = .ok (q.2.1, q.2.2))) = true := xa_g_ok (by decide +kernel)
def dn_158_0_1 : List (Nat × Instr × Nat) := [(48, .invokevirtual 198, 3), (51, .pop, 1), (52, .aload_n 0, 1), (53, .getfield 21, 3), (56, .iload_n 2, 1), (57, .aload_n 0, 1), (58, .getfield 21, 3), (61, .getfield 164, 3), (64, .invokevirtual 174, 3), (67, .iinc 1 1, 3), (70, .goto (-64), 3), (73, .return_, 1)]
set_option maxRecDepth 20000 in
theorem dn_158_0_1_ok : dn_158_0_1.all (fun q => decide (decode (xm_b n_158) q.1 = .ok (q.2.1, q.2.2))) = true := xa_g_ok (by decide +kernel)
def te_158_0 : Nat → eE := (e_T 33 (e_T 14 (e_T 5 (e_T 1 (e_T 0 (e_L 0 (0, ei_load 0 2 1, 0, 0)) (e_L 1 (2, e_nof, 159, 1))) (e_T 4 (e_L 4 (0, ei_push (0, 0) 5, 0, 0)) (e_L 5 (0, ei_stor 1 0 6, 0, 0)))) (e_T 7 (e_T 6 (e_L 6 (0, ei_load 1 0 7, 0, 0)) (e_L 7 (0, ei_push (0, 4000) 10, 0, 0))) (e_T 10 (e_L 10 (0, ei_if2 3 73 13, 0, 0)) (e_T 13 (e_L 13 (0, ei_load 0 2 14, 0, 0)) (e_L 14 (0, ei_getf eft elay 8 5 17, 0, 0)))))) (e_T 23 (e_T 19 (e_T 17 (e_L 17 (0, ei_push (0, 45) 19, 0, 0)) (e_L 19 (0, ei_if2 1 73 22, 0, 0))) (e_T 22 (e_L 22 (0, ei_load 0 2 23, 0, 0)) (e_L 23 (0, ei_getf eft elay 8 3 26, 0, 0)))) (e_T 28 (e_T 26 (e_L 26 (0, ei_push (0, 12) 28, 0, 0)) (e_L 28 (0, ei_push (0, 0) 29, 0, 0))) (e_T 29 (e_L 29 (2, e_nof, 21, 3)) (e_T 32 (e_L 32 (0, ei_stor 2 0 33, 0, 0)) (e_L 33 (0, ei_load 0 2 34, 0, 0))))))) (e_T 51 (e_T 41 (e_T 37 (e_T 34 (e_L 34 (2, e_nof, 123, 1)) (e_L 37 (0, ei_load 0 2 38, 0, 0))) (e_T 38 (e_L 38 (2, e_nof, 159, 1)) (e_L 41 (0, ei_load 0 2 42, 0, 0)))) (e_T 45 (e_T 42 (e_L 42 (0, ei_getf eft elay 8 3 45, 0, 0)) (e_L 45 (0, ei_push (0, 11) 47, 0, 0))) (e_T 47 (e_L 47 (0, ei_push (0, 0) 48, 0, 0)) (e_T 48 (e_L 48 (2, e_nof, 21, 3)) (e_L 51 (0, ei_stk ef_pop 52, 0, 0)))))) (e_T 58 (e_T 53 (e_T 52 (e_L 52 (0, ei_load 0 2 53, 0, 0)) (e_L 53 (0, ei_getf eft elay 8 3 56, 0, 0))) (e_T 56 (e_L 56 (0, ei_load 2 0 57, 0, 0)) (e_T 57 (e_L 57 (0, ei_load 0 2 58, 0, 0)) (e_L 58 (0, ei_getf eft elay 8 3 61, 0, 0))))) (e_T 64 (e_T 61 (e_L 61 (0, ei_getf eft elay 1 0 64, 0, 0)) (e_L 64 (2, e_nof, 22, 3))) (e_T 67 (e_L 67 (0, ei_inc 1 1 70, 0, 0)) (e_T 70 (e_L 70 (0, ei_goto 6, 0, 0)) (e_L 73 (1, e_nof, 0, 0))))))))
set_option maxRecDepth 20000 in
set_option maxHeartbeats 4000000 in
theorem te_158_0_ok : ∀ pc, e_EOq eft cls elay eI n_158 pc (te_158_0 pc) :=
  (e_Tok2
  (e_Tok2
  (e_Tok2
  (e_Tok2
  (e_Tok2
  (e_Lok (ld_aload_n_0 (x_dk dn_158_0_0_ok 0 rfl)))
  (e_Lok (lk_8_257 ho_158 (x_dk dn_158_0_0_ok 1 rfl))))
  (e_Tok2
  (e_Lok (ps_iconst_0 (x_dk dn_158_0_0_ok 2 rfl)))
  (e_Lok (e_st (I := eI) (er_istore_n (i := 1) (x_dk dn_158_0_0_ok 3 rfl) (by decide +kernel)) nx_stor))))
  (e_Tok2
  (e_Tok2
  (e_Lok (ld_iload_n_1 (x_dk dn_158_0_0_ok 4 rfl)))
  (e_Lok (ps_sipush_4000 (x_dk dn_158_0_0_ok 5 rfl))))
  (e_Tok2
  (e_Lok (e_st (I := eI) (er_icmpge (off := 63) (tg := 73) (x_dk dn_158_0_0_ok 6 rfl) (by decide)) nx_if2))
  (e_Tok2
  (e_Lok (ld_aload_n_0 (x_dk dn_158_0_0_ok 7 rfl)))
  (e_Lok (lk_8_57g ho_158 (x_dk dn_158_0_0_ok 8 rfl)))))))
  (e_Tok2
  (e_Tok2
  (e_Tok2
  (e_Lok (ps_bipush_45 (x_dk dn_158_0_0_ok 9 rfl)))
  (e_Lok (e_st (I := eI) (er_icmpne (off := 54) (tg := 73) (x_dk dn_158_0_0_ok 10 rfl) (by decide)) nx_if2)))
  (e_Tok2
  (e_Lok (ld_aload_n_0 (x_dk dn_158_0_0_ok 11 rfl)))
  (e_Lok (lk_8_21g ho_158 (x_dk dn_158_0_0_ok 12 rfl)))))
  (e_Tok2
  (e_Tok2
  (e_Lok (ps_bipush_12 (x_dk dn_158_0_0_ok 13 rfl)))
  (e_Lok (ps_iconst_0 (x_dk dn_158_0_0_ok 14 rfl))))
  (e_Tok2
  (e_Lok (lk_8_198 ho_158 (x_dk dn_158_0_0_ok 15 rfl)))
  (e_Tok2
  (e_Lok (e_st (I := eI) (er_istore_n (i := 2) (x_dk dn_158_0_0_ok 16 rfl) (by decide +kernel)) nx_stor))
  (e_Lok (ld_aload_n_0 (x_dk dn_158_0_0_ok 17 rfl))))))))
  (e_Tok2
  (e_Tok2
  (e_Tok2
  (e_Tok2
  (e_Lok (lk_8_54 ho_158 (x_dk dn_158_0_0_ok 18 rfl)))
  (e_Lok (ld_aload_n_0 (x_dk dn_158_0_0_ok 19 rfl))))
  (e_Tok2
  (e_Lok (lk_8_257 ho_158 (x_dk dn_158_0_0_ok 20 rfl)))
  (e_Lok (ld_aload_n_0 (x_dk dn_158_0_0_ok 21 rfl)))))
  (e_Tok2
  (e_Tok2
  (e_Lok (lk_8_21g ho_158 (x_dk dn_158_0_0_ok 22 rfl)))
  (e_Lok (ps_bipush_11 (x_dk dn_158_0_0_ok 23 rfl))))
  (e_Tok2
  (e_Lok (ps_iconst_0 (x_dk dn_158_0_0_ok 24 rfl)))
  (e_Tok2
  (e_Lok (lk_8_198 ho_158 (x_dk dn_158_0_1_ok 0 rfl)))
  (e_Lok (e_st (I := eI) (er_pop (x_dk dn_158_0_1_ok 1 rfl)) (nx_stk bf_pop)))))))
  (e_Tok2
  (e_Tok2
  (e_Tok2
  (e_Lok (ld_aload_n_0 (x_dk dn_158_0_1_ok 2 rfl)))
  (e_Lok (lk_8_21g ho_158 (x_dk dn_158_0_1_ok 3 rfl))))
  (e_Tok2
  (e_Lok (ld_iload_n_2 (x_dk dn_158_0_1_ok 4 rfl)))
  (e_Tok2
  (e_Lok (ld_aload_n_0 (x_dk dn_158_0_1_ok 5 rfl)))
  (e_Lok (lk_8_21g ho_158 (x_dk dn_158_0_1_ok 6 rfl))))))
  (e_Tok2
  (e_Tok2
  (e_Lok (lk_8_164g ho_158 (x_dk dn_158_0_1_ok 7 rfl)))
  (e_Lok (lk_8_174 ho_158 (x_dk dn_158_0_1_ok 8 rfl))))
  (e_Tok2
  (e_Lok (e_st (I := eI) (er_iinc (i := 1) (n := 1) (x_dk dn_158_0_1_ok 9 rfl) (by decide +kernel) (by decide)) nx_inc))
  (e_Tok2
  (e_Lok (e_st (I := eI) (er_goto (off := (-64)) (tg := 6) (x_dk dn_158_0_1_ok 10 rfl) (by decide)) nx_goto))
  (e_Lok (e_rt (I := eI) (k := 0) ⟨(x_dk dn_158_0_1_ok 11 rfl), rfl⟩))))))))
def te_158 : Nat → eE := te_158_0
theorem te_158_ok : ∀ pc, e_EOq eft cls elay eI n_158 pc (te_158 pc) := te_158_0_ok
theorem ho_159 : (xm_y n_159).cls = "RobotCellHouse$Reader" := rfl
def dn_159_0_0 : List (Nat × Instr × Nat) := [(0, .aload_n 0, 1), (1, .invokevirtual 260, 3), (4, .iconst 0, 1), (5, .istore_n 1, 1), (6, .iload_n 1, 1), (7, .sipush 4000, 3), (10, .if_icmp .ge 63, 3), (13, .aload_n 0, 1), (14, .getfield 57, 3), (17, .bipush 46, 2), (19, .if_icmp .ne 54, 3), (22, .aload_n 0, 1), (23, .getfield 21, 3), (26, .bipush 13, 2), (28, .iconst 0, 1), (29, .invokevirtual 198, 3), (32, .istore_n 2, 1), (33, .aload_n 0, 1), (34, .invokevirtual 54, 3), (37, .aload_n 0, 1), (38, .invokevirtual 260, 3), (41, .aload_n 0, 1), (42, .getfield 21, 3), (45, .bipush 11, 2), (47, .iconst 0, 1)]
set_option maxRecDepth 20000 in
theorem dn_159_0_0_ok : dn_159_0_0.all (fun q => decide (decode (xm_b n_159) q.1 = .ok (q.2.1, q.2.2))) = true := xa_g_ok (by decide +kernel)
def dn_159_0_1 : List (Nat × Instr × Nat) := [(48, .invokevirtual 198, 3), (51, .pop, 1), (52, .aload_n 0, 1), (53, .getfield 21, 3), (56, .iload_n 2, 1), (57, .aload_n 0, 1), (58, .getfield 21, 3), (61, .getfield 164, 3), (64, .invokevirtual 174, 3), (67, .iinc 1 1, 3), (70, .goto (-64), 3), (73, .return_, 1)]
set_option maxRecDepth 20000 in
theorem dn_159_0_1_ok : dn_159_0_1.all (fun q => decide (decode (xm_b n_159) q.1 = .ok (q.2.1, q.2.2))) = true := xa_g_ok (by decide +kernel)
def te_159_0 : Nat → eE := (e_T 33 (e_T 14 (e_T 5 (e_T 1 (e_T 0 (e_L 0 (0, ei_load 0 2 1, 0, 0)) (e_L 1 (2, e_nof, 160, 1))) (e_T 4 (e_L 4 (0, ei_push (0, 0) 5, 0, 0)) (e_L 5 (0, ei_stor 1 0 6, 0, 0)))) (e_T 7 (e_T 6 (e_L 6 (0, ei_load 1 0 7, 0, 0)) (e_L 7 (0, ei_push (0, 4000) 10, 0, 0))) (e_T 10 (e_L 10 (0, ei_if2 3 73 13, 0, 0)) (e_T 13 (e_L 13 (0, ei_load 0 2 14, 0, 0)) (e_L 14 (0, ei_getf eft elay 8 5 17, 0, 0)))))) (e_T 23 (e_T 19 (e_T 17 (e_L 17 (0, ei_push (0, 46) 19, 0, 0)) (e_L 19 (0, ei_if2 1 73 22, 0, 0))) (e_T 22 (e_L 22 (0, ei_load 0 2 23, 0, 0)) (e_L 23 (0, ei_getf eft elay 8 3 26, 0, 0)))) (e_T 28 (e_T 26 (e_L 26 (0, ei_push (0, 13) 28, 0, 0)) (e_L 28 (0, ei_push (0, 0) 29, 0, 0))) (e_T 29 (e_L 29 (2, e_nof, 21, 3)) (e_T 32 (e_L 32 (0, ei_stor 2 0 33, 0, 0)) (e_L 33 (0, ei_load 0 2 34, 0, 0))))))) (e_T 51 (e_T 41 (e_T 37 (e_T 34 (e_L 34 (2, e_nof, 123, 1)) (e_L 37 (0, ei_load 0 2 38, 0, 0))) (e_T 38 (e_L 38 (2, e_nof, 160, 1)) (e_L 41 (0, ei_load 0 2 42, 0, 0)))) (e_T 45 (e_T 42 (e_L 42 (0, ei_getf eft elay 8 3 45, 0, 0)) (e_L 45 (0, ei_push (0, 11) 47, 0, 0))) (e_T 47 (e_L 47 (0, ei_push (0, 0) 48, 0, 0)) (e_T 48 (e_L 48 (2, e_nof, 21, 3)) (e_L 51 (0, ei_stk ef_pop 52, 0, 0)))))) (e_T 58 (e_T 53 (e_T 52 (e_L 52 (0, ei_load 0 2 53, 0, 0)) (e_L 53 (0, ei_getf eft elay 8 3 56, 0, 0))) (e_T 56 (e_L 56 (0, ei_load 2 0 57, 0, 0)) (e_T 57 (e_L 57 (0, ei_load 0 2 58, 0, 0)) (e_L 58 (0, ei_getf eft elay 8 3 61, 0, 0))))) (e_T 64 (e_T 61 (e_L 61 (0, ei_getf eft elay 1 0 64, 0, 0)) (e_L 64 (2, e_nof, 22, 3))) (e_T 67 (e_L 67 (0, ei_inc 1 1 70, 0, 0)) (e_T 70 (e_L 70 (0, ei_goto 6, 0, 0)) (e_L 73 (1, e_nof, 0, 0))))))))
set_option maxRecDepth 20000 in
set_option maxHeartbeats 4000000 in
theorem te_159_0_ok : ∀ pc, e_EOq eft cls elay eI n_159 pc (te_159_0 pc) :=
  (e_Tok2
  (e_Tok2
  (e_Tok2
  (e_Tok2
  (e_Tok2
  (e_Lok (ld_aload_n_0 (x_dk dn_159_0_0_ok 0 rfl)))
  (e_Lok (lk_8_260 ho_159 (x_dk dn_159_0_0_ok 1 rfl))))
  (e_Tok2
  (e_Lok (ps_iconst_0 (x_dk dn_159_0_0_ok 2 rfl)))
  (e_Lok (e_st (I := eI) (er_istore_n (i := 1) (x_dk dn_159_0_0_ok 3 rfl) (by decide +kernel)) nx_stor))))
  (e_Tok2
  (e_Tok2
  (e_Lok (ld_iload_n_1 (x_dk dn_159_0_0_ok 4 rfl)))
  (e_Lok (ps_sipush_4000 (x_dk dn_159_0_0_ok 5 rfl))))
  (e_Tok2
  (e_Lok (e_st (I := eI) (er_icmpge (off := 63) (tg := 73) (x_dk dn_159_0_0_ok 6 rfl) (by decide)) nx_if2))
  (e_Tok2
  (e_Lok (ld_aload_n_0 (x_dk dn_159_0_0_ok 7 rfl)))
  (e_Lok (lk_8_57g ho_159 (x_dk dn_159_0_0_ok 8 rfl)))))))
  (e_Tok2
  (e_Tok2
  (e_Tok2
  (e_Lok (ps_bipush_46 (x_dk dn_159_0_0_ok 9 rfl)))
  (e_Lok (e_st (I := eI) (er_icmpne (off := 54) (tg := 73) (x_dk dn_159_0_0_ok 10 rfl) (by decide)) nx_if2)))
  (e_Tok2
  (e_Lok (ld_aload_n_0 (x_dk dn_159_0_0_ok 11 rfl)))
  (e_Lok (lk_8_21g ho_159 (x_dk dn_159_0_0_ok 12 rfl)))))
  (e_Tok2
  (e_Tok2
  (e_Lok (ps_bipush_13 (x_dk dn_159_0_0_ok 13 rfl)))
  (e_Lok (ps_iconst_0 (x_dk dn_159_0_0_ok 14 rfl))))
  (e_Tok2
  (e_Lok (lk_8_198 ho_159 (x_dk dn_159_0_0_ok 15 rfl)))
  (e_Tok2
  (e_Lok (e_st (I := eI) (er_istore_n (i := 2) (x_dk dn_159_0_0_ok 16 rfl) (by decide +kernel)) nx_stor))
  (e_Lok (ld_aload_n_0 (x_dk dn_159_0_0_ok 17 rfl))))))))
  (e_Tok2
  (e_Tok2
  (e_Tok2
  (e_Tok2
  (e_Lok (lk_8_54 ho_159 (x_dk dn_159_0_0_ok 18 rfl)))
  (e_Lok (ld_aload_n_0 (x_dk dn_159_0_0_ok 19 rfl))))
  (e_Tok2
  (e_Lok (lk_8_260 ho_159 (x_dk dn_159_0_0_ok 20 rfl)))
  (e_Lok (ld_aload_n_0 (x_dk dn_159_0_0_ok 21 rfl)))))
  (e_Tok2
  (e_Tok2
  (e_Lok (lk_8_21g ho_159 (x_dk dn_159_0_0_ok 22 rfl)))
  (e_Lok (ps_bipush_11 (x_dk dn_159_0_0_ok 23 rfl))))
  (e_Tok2
  (e_Lok (ps_iconst_0 (x_dk dn_159_0_0_ok 24 rfl)))
  (e_Tok2
  (e_Lok (lk_8_198 ho_159 (x_dk dn_159_0_1_ok 0 rfl)))
  (e_Lok (e_st (I := eI) (er_pop (x_dk dn_159_0_1_ok 1 rfl)) (nx_stk bf_pop)))))))
  (e_Tok2
  (e_Tok2
  (e_Tok2
  (e_Lok (ld_aload_n_0 (x_dk dn_159_0_1_ok 2 rfl)))
  (e_Lok (lk_8_21g ho_159 (x_dk dn_159_0_1_ok 3 rfl))))
  (e_Tok2
  (e_Lok (ld_iload_n_2 (x_dk dn_159_0_1_ok 4 rfl)))
  (e_Tok2
  (e_Lok (ld_aload_n_0 (x_dk dn_159_0_1_ok 5 rfl)))
  (e_Lok (lk_8_21g ho_159 (x_dk dn_159_0_1_ok 6 rfl))))))
  (e_Tok2
  (e_Tok2
  (e_Lok (lk_8_164g ho_159 (x_dk dn_159_0_1_ok 7 rfl)))
  (e_Lok (lk_8_174 ho_159 (x_dk dn_159_0_1_ok 8 rfl))))
  (e_Tok2
  (e_Lok (e_st (I := eI) (er_iinc (i := 1) (n := 1) (x_dk dn_159_0_1_ok 9 rfl) (by decide +kernel) (by decide)) nx_inc))
  (e_Tok2
  (e_Lok (e_st (I := eI) (er_goto (off := (-64)) (tg := 6) (x_dk dn_159_0_1_ok 10 rfl) (by decide)) nx_goto))
  (e_Lok (e_rt (I := eI) (k := 0) ⟨(x_dk dn_159_0_1_ok 11 rfl), rfl⟩))))))))
def te_159 : Nat → eE := te_159_0
theorem te_159_ok : ∀ pc, e_EOq eft cls elay eI n_159 pc (te_159 pc) := te_159_0_ok
theorem ho_160 : (xm_y n_160).cls = "RobotCellHouse$Reader" := rfl
def dn_160_0_0 : List (Nat × Instr × Nat) := [(0, .aload_n 0, 1), (1, .getfield 57, 3), (4, .bipush 47, 2), (6, .if_icmp .ne 41, 3), (9, .aload_n 0, 1), (10, .invokevirtual 251, 3), (13, .ifCond .ne 4, 3), (16, .return_, 1), (17, .aload_n 0, 1), (18, .invokevirtual 54, 3), (21, .aload_n 0, 1), (22, .invokevirtual 260, 3), (25, .aload_n 0, 1), (26, .dup, 1), (27, .getfield 42, 3), (30, .iconst 1, 1), (31, .isub, 1), (32, .putfield 42, 3), (35, .aload_n 0, 1), (36, .getfield 21, 3), (39, .bipush 10, 2), (41, .iconst 0, 1), (42, .invokevirtual 198, 3), (45, .pop, 1), (46, .return_, 1)]
set_option maxRecDepth 20000 in
theorem dn_160_0_0_ok : dn_160_0_0.all (fun q => decide (decode (xm_b n_160) q.1 = .ok (q.2.1, q.2.2))) = true := xa_g_ok (by decide +kernel)
def dn_160_0_1 : List (Nat × Instr × Nat) := [(47, .aload_n 0, 1), (48, .invokevirtual 263, 3), (51, .aload_n 0, 1), (52, .invokevirtual 266, 3), (55, .istore_n 1, 1), (56, .iload_n 1, 1), (57, .bipush 49, 2), (59, .if_icmp .ne 4, 3), (62, .return_, 1), (63, .aload_n 0, 1), (64, .invokevirtual 54, 3), (67, .aload_n 0, 1), (68, .invokevirtual 263, 3), (71, .aload_n 0, 1), (72, .getfield 21, 3), (75, .iload_n 1, 1), (76, .iconst 0, 1), (77, .invokevirtual 198, 3), (80, .pop, 1), (81, .return_, 1)]
set_option maxRecDepth 20000 in
theorem dn_160_0_1_ok : dn_160_0_1.all (fun q => decide (decode (xm_b n_160) q.1 = .ok (q.2.1, q.2.2))) = true := xa_g_ok (by decide +kernel)
def te_160_0 : Nat → eE := (e_T 21 (e_T 9 (e_T 1 (e_T 0 (e_L 0 (0, ei_load 0 2 1, 0, 0)) (e_L 1 (0, ei_getf eft elay 8 5 4, 0, 0))) (e_T 4 (e_L 4 (0, ei_push (0, 47) 6, 0, 0)) (e_T 6 (e_L 6 (0, ei_if2 1 47 9, 0, 0)) (e_L 9 (0, ei_load 0 2 10, 0, 0))))) (e_T 16 (e_T 10 (e_L 10 (2, e_nof, 132, 1)) (e_T 13 (e_L 13 (0, ei_if1 1 17 16, 0, 0)) (e_L 16 (1, e_nof, 0, 0)))) (e_T 17 (e_L 17 (0, ei_load 0 2 18, 0, 0)) (e_T 18 (e_L 18 (2, e_nof, 123, 1)) (e_L 21 (0, ei_load 0 2 22, 0, 0)))))) (e_T 30 (e_T 25 (e_T 22 (e_L 22 (2, e_nof, 160, 1)) (e_L 25 (0, ei_load 0 2 26, 0, 0))) (e_T 26 (e_L 26 (0, ei_stk ef_dup 27, 0, 0)) (e_T 27 (e_L 27 (0, ei_getf eft elay 8 11 30, 0, 0)) (e_L 30 (0, ei_push (0, 1) 31, 0, 0))))) (e_T 35 (e_T 31 (e_L 31 (0, ei_bin eF_sub 32, 0, 0)) (e_T 32 (e_L 32 (0, ei_putf eft elay 8 11 0 35, 0, 0)) (e_L 35 (0, ei_load 0 2 36, 0, 0)))) (e_T 36 (e_L 36 (0, ei_getf eft elay 8 3 39, 0, 0)) (e_T 39 (e_L 39 (0, ei_push (0, 10) 41, 0, 0)) (e_L 41 (0, ei_push (0, 0) 42, 0, 0)))))))
set_option maxRecDepth 20000 in
set_option maxHeartbeats 4000000 in
theorem te_160_0_ok : ∀ pc, e_EOq eft cls elay eI n_160 pc (te_160_0 pc) :=
  (e_Tok2
  (e_Tok2
  (e_Tok2
  (e_Tok2
  (e_Lok (ld_aload_n_0 (x_dk dn_160_0_0_ok 0 rfl)))
  (e_Lok (lk_8_57g ho_160 (x_dk dn_160_0_0_ok 1 rfl))))
  (e_Tok2
  (e_Lok (ps_bipush_47 (x_dk dn_160_0_0_ok 2 rfl)))
  (e_Tok2
  (e_Lok (e_st (I := eI) (er_icmpne (off := 41) (tg := 47) (x_dk dn_160_0_0_ok 3 rfl) (by decide)) nx_if2))
  (e_Lok (ld_aload_n_0 (x_dk dn_160_0_0_ok 4 rfl))))))
  (e_Tok2
  (e_Tok2
  (e_Lok (lk_8_251 ho_160 (x_dk dn_160_0_0_ok 5 rfl)))
  (e_Tok2
  (e_Lok (e_st (I := eI) (er_ifne (off := 4) (tg := 17) (x_dk dn_160_0_0_ok 6 rfl) (by decide)) nx_if1))
  (e_Lok (e_rt (I := eI) (k := 0) ⟨(x_dk dn_160_0_0_ok 7 rfl), rfl⟩))))
  (e_Tok2
  (e_Lok (ld_aload_n_0 (x_dk dn_160_0_0_ok 8 rfl)))
  (e_Tok2
  (e_Lok (lk_8_54 ho_160 (x_dk dn_160_0_0_ok 9 rfl)))
  (e_Lok (ld_aload_n_0 (x_dk dn_160_0_0_ok 10 rfl)))))))
  (e_Tok2
  (e_Tok2
  (e_Tok2
  (e_Lok (lk_8_260 ho_160 (x_dk dn_160_0_0_ok 11 rfl)))
  (e_Lok (ld_aload_n_0 (x_dk dn_160_0_0_ok 12 rfl))))
  (e_Tok2
  (e_Lok (e_st (I := eI) (er_dup (x_dk dn_160_0_0_ok 13 rfl)) (nx_stk bf_dup)))
  (e_Tok2
  (e_Lok (lk_8_42g ho_160 (x_dk dn_160_0_0_ok 14 rfl)))
  (e_Lok (ps_iconst_1 (x_dk dn_160_0_0_ok 15 rfl))))))
  (e_Tok2
  (e_Tok2
  (e_Lok (sm_isub (x_dk dn_160_0_0_ok 16 rfl)))
  (e_Tok2
  (e_Lok (lk_8_42p ho_160 (x_dk dn_160_0_0_ok 17 rfl)))
  (e_Lok (ld_aload_n_0 (x_dk dn_160_0_0_ok 18 rfl)))))
  (e_Tok2
  (e_Lok (lk_8_21g ho_160 (x_dk dn_160_0_0_ok 19 rfl)))
  (e_Tok2
  (e_Lok (ps_bipush_10 (x_dk dn_160_0_0_ok 20 rfl)))
  (e_Lok (ps_iconst_0 (x_dk dn_160_0_0_ok 21 rfl))))))))
def te_160_22 : Nat → eE := (e_T 59 (e_T 48 (e_T 45 (e_T 42 (e_L 42 (2, e_nof, 21, 3)) (e_L 45 (0, ei_stk ef_pop 46, 0, 0))) (e_T 46 (e_L 46 (1, e_nof, 0, 0)) (e_T 47 (e_L 47 (0, ei_load 0 2 48, 0, 0)) (e_L 48 (2, e_nof, 162, 1))))) (e_T 55 (e_T 51 (e_L 51 (0, ei_load 0 2 52, 0, 0)) (e_T 52 (e_L 52 (2, e_nof, 161, 1)) (e_L 55 (0, ei_stor 1 0 56, 0, 0)))) (e_T 56 (e_L 56 (0, ei_load 1 0 57, 0, 0)) (e_T 57 (e_L 57 (0, ei_push (0, 49) 59, 0, 0)) (e_L 59 (0, ei_if2 1 63 62, 0, 0)))))) (e_T 71 (e_T 64 (e_T 62 (e_L 62 (1, e_nof, 0, 0)) (e_T 63 (e_L 63 (0, ei_load 0 2 64, 0, 0)) (e_L 64 (2, e_nof, 123, 1)))) (e_T 67 (e_L 67 (0, ei_load 0 2 68, 0, 0)) (e_T 68 (e_L 68 (2, e_nof, 162, 1)) (e_L 71 (0, ei_load 0 2 72, 0, 0))))) (e_T 76 (e_T 72 (e_L 72 (0, ei_getf eft elay 8 3 75, 0, 0)) (e_T 75 (e_L 75 (0, ei_load 1 0 76, 0, 0)) (e_L 76 (0, ei_push (0, 0) 77, 0, 0)))) (e_T 77 (e_L 77 (2, e_nof, 21, 3)) (e_T 80 (e_L 80 (0, ei_stk ef_pop 81, 0, 0)) (e_L 81 (1, e_nof, 0, 0)))))))
set_option maxRecDepth 20000 in
set_option maxHeartbeats 4000000 in
theorem te_160_22_ok : ∀ pc, e_EOq eft cls elay eI n_160 pc (te_160_22 pc) :=
  (e_Tok2
  (e_Tok2
  (e_Tok2
  (e_Tok2
  (e_Lok (lk_8_198 ho_160 (x_dk dn_160_0_0_ok 22 rfl)))
  (e_Lok (e_st (I := eI) (er_pop (x_dk dn_160_0_0_ok 23 rfl)) (nx_stk bf_pop))))
  (e_Tok2
  (e_Lok (e_rt (I := eI) (k := 0) ⟨(x_dk dn_160_0_0_ok 24 rfl), rfl⟩))
  (e_Tok2
  (e_Lok (ld_aload_n_0 (x_dk dn_160_0_1_ok 0 rfl)))
  (e_Lok (lk_8_263 ho_160 (x_dk dn_160_0_1_ok 1 rfl))))))
  (e_Tok2
  (e_Tok2
  (e_Lok (ld_aload_n_0 (x_dk dn_160_0_1_ok 2 rfl)))
  (e_Tok2
  (e_Lok (lk_8_266 ho_160 (x_dk dn_160_0_1_ok 3 rfl)))
  (e_Lok (e_st (I := eI) (er_istore_n (i := 1) (x_dk dn_160_0_1_ok 4 rfl) (by decide +kernel)) nx_stor))))
  (e_Tok2
  (e_Lok (ld_iload_n_1 (x_dk dn_160_0_1_ok 5 rfl)))
  (e_Tok2
  (e_Lok (ps_bipush_49 (x_dk dn_160_0_1_ok 6 rfl)))
  (e_Lok (e_st (I := eI) (er_icmpne (off := 4) (tg := 63) (x_dk dn_160_0_1_ok 7 rfl) (by decide)) nx_if2))))))
  (e_Tok2
  (e_Tok2
  (e_Tok2
  (e_Lok (e_rt (I := eI) (k := 0) ⟨(x_dk dn_160_0_1_ok 8 rfl), rfl⟩))
  (e_Tok2
  (e_Lok (ld_aload_n_0 (x_dk dn_160_0_1_ok 9 rfl)))
  (e_Lok (lk_8_54 ho_160 (x_dk dn_160_0_1_ok 10 rfl)))))
  (e_Tok2
  (e_Lok (ld_aload_n_0 (x_dk dn_160_0_1_ok 11 rfl)))
  (e_Tok2
  (e_Lok (lk_8_263 ho_160 (x_dk dn_160_0_1_ok 12 rfl)))
  (e_Lok (ld_aload_n_0 (x_dk dn_160_0_1_ok 13 rfl))))))
  (e_Tok2
  (e_Tok2
  (e_Lok (lk_8_21g ho_160 (x_dk dn_160_0_1_ok 14 rfl)))
  (e_Tok2
  (e_Lok (ld_iload_n_1 (x_dk dn_160_0_1_ok 15 rfl)))
  (e_Lok (ps_iconst_0 (x_dk dn_160_0_1_ok 16 rfl)))))
  (e_Tok2
  (e_Lok (lk_8_198 ho_160 (x_dk dn_160_0_1_ok 17 rfl)))
  (e_Tok2
  (e_Lok (e_st (I := eI) (er_pop (x_dk dn_160_0_1_ok 18 rfl)) (nx_stk bf_pop)))
  (e_Lok (e_rt (I := eI) (k := 0) ⟨(x_dk dn_160_0_1_ok 19 rfl), rfl⟩)))))))
def te_160 : Nat → eE := (e_T 41 te_160_0 te_160_22)
theorem te_160_ok : ∀ pc, e_EOq eft cls elay eI n_160 pc (te_160 pc) := (e_Tok2 (te_160_0_ok) (te_160_22_ok))
theorem ho_161 : (xm_y n_161).cls = "RobotCellHouse$Reader" := rfl
def dn_161_0_0 : List (Nat × Instr × Nat) := [(0, .aload_n 0, 1), (1, .getfield 57, 3), (4, .tableswitch 78 5 15 #[63, 69, 75, 78, 78, 78, 78, 78, 60, 66, 72], 60), (64, .bipush 19, 2), (66, .ireturn, 1), (67, .bipush 20, 2), (69, .ireturn, 1), (70, .bipush 21, 2), (72, .ireturn, 1), (73, .bipush 22, 2), (75, .ireturn, 1), (76, .bipush 23, 2), (78, .ireturn, 1), (79, .bipush 24, 2), (81, .ireturn, 1), (82, .bipush 49, 2), (84, .ireturn, 1)]
set_option maxRecDepth 20000 in
theorem dn_161_0_0_ok : dn_161_0_0.all (fun q => decide (decode (xm_b n_161) q.1 = .ok (q.2.1, q.2.2))) = true := xa_g_ok (by decide +kernel)
def te_161_0 : Nat → eE := (e_T 70 (e_T 64 (e_T 1 (e_T 0 (e_L 0 (0, ei_load 0 2 1, 0, 0)) (e_L 1 (0, ei_getf eft elay 8 5 4, 0, 0))) (e_T 4 (e_L 4 (0, ei_sw [((-2147483648), 4, 82), (5, 5, 67), (6, 6, 73), (7, 7, 79), (8, 8, 82), (9, 9, 82), (10, 10, 82), (11, 11, 82), (12, 12, 82), (13, 13, 64), (14, 14, 70), (15, 15, 76), (16, 2147483647, 82)], 0, 0)) (e_L 64 (0, ei_push (0, 19) 66, 0, 0)))) (e_T 67 (e_T 66 (e_L 66 (1, e_nof, 1, 0)) (e_L 67 (0, ei_push (0, 20) 69, 0, 0))) (e_T 69 (e_L 69 (1, e_nof, 1, 0)) (e_L 70 (0, ei_push (0, 21) 72, 0, 0))))) (e_T 76 (e_T 73 (e_T 72 (e_L 72 (1, e_nof, 1, 0)) (e_L 73 (0, ei_push (0, 22) 75, 0, 0))) (e_T 75 (e_L 75 (1, e_nof, 1, 0)) (e_L 76 (0, ei_push (0, 23) 78, 0, 0)))) (e_T 79 (e_T 78 (e_L 78 (1, e_nof, 1, 0)) (e_L 79 (0, ei_push (0, 24) 81, 0, 0))) (e_T 81 (e_L 81 (1, e_nof, 1, 0)) (e_T 82 (e_L 82 (0, ei_push (0, 49) 84, 0, 0)) (e_L 84 (1, e_nof, 1, 0)))))))
set_option maxRecDepth 20000 in
set_option maxHeartbeats 4000000 in
theorem te_161_0_ok : ∀ pc, e_EOq eft cls elay eI n_161 pc (te_161_0 pc) :=
  (e_Tok2
  (e_Tok2
  (e_Tok2
  (e_Tok2
  (e_Lok (ld_aload_n_0 (x_dk dn_161_0_0_ok 0 rfl)))
  (e_Lok (lk_8_57g ho_161 (x_dk dn_161_0_0_ok 1 rfl))))
  (e_Tok2
  (e_Lok (e_st (I := eI) (er_tsw (dflt := 78) (lo := 5) (hi := 15) (offs := #[63, 69, 75, 78, 78, 78, 78, 78, 60, 66, 72]) (len := 60) (n := 11) (x_dk dn_161_0_0_ok 2 rfl) (by decide) (by decide +kernel)) nx_sw))
  (e_Lok (ps_bipush_19 (x_dk dn_161_0_0_ok 3 rfl)))))
  (e_Tok2
  (e_Tok2
  (e_Lok (e_rt (I := eI) (k := 1) ⟨(x_dk dn_161_0_0_ok 4 rfl), rfl⟩))
  (e_Lok (ps_bipush_20 (x_dk dn_161_0_0_ok 5 rfl))))
  (e_Tok2
  (e_Lok (e_rt (I := eI) (k := 1) ⟨(x_dk dn_161_0_0_ok 6 rfl), rfl⟩))
  (e_Lok (ps_bipush_21 (x_dk dn_161_0_0_ok 7 rfl))))))
  (e_Tok2
  (e_Tok2
  (e_Tok2
  (e_Lok (e_rt (I := eI) (k := 1) ⟨(x_dk dn_161_0_0_ok 8 rfl), rfl⟩))
  (e_Lok (ps_bipush_22 (x_dk dn_161_0_0_ok 9 rfl))))
  (e_Tok2
  (e_Lok (e_rt (I := eI) (k := 1) ⟨(x_dk dn_161_0_0_ok 10 rfl), rfl⟩))
  (e_Lok (ps_bipush_23 (x_dk dn_161_0_0_ok 11 rfl)))))
  (e_Tok2
  (e_Tok2
  (e_Lok (e_rt (I := eI) (k := 1) ⟨(x_dk dn_161_0_0_ok 12 rfl), rfl⟩))
  (e_Lok (ps_bipush_24 (x_dk dn_161_0_0_ok 13 rfl))))
  (e_Tok2
  (e_Lok (e_rt (I := eI) (k := 1) ⟨(x_dk dn_161_0_0_ok 14 rfl), rfl⟩))
  (e_Tok2
  (e_Lok (ps_bipush_49 (x_dk dn_161_0_0_ok 15 rfl)))
  (e_Lok (e_rt (I := eI) (k := 1) ⟨(x_dk dn_161_0_0_ok 16 rfl), rfl⟩)))))))
def te_161 : Nat → eE := te_161_0
theorem te_161_ok : ∀ pc, e_EOq eft cls elay eI n_161 pc (te_161 pc) := te_161_0_ok
theorem ho_162 : (xm_y n_162).cls = "RobotCellHouse$Reader" := rfl
def dn_162_0_0 : List (Nat × Instr × Nat) := [(0, .aload_n 0, 1), (1, .invokevirtual 269, 3), (4, .iconst 0, 1), (5, .istore_n 1, 1), (6, .iload_n 1, 1), (7, .sipush 4000, 3), (10, .if_icmp .ge 58, 3), (13, .aload_n 0, 1), (14, .getfield 57, 3), (17, .bipush 8, 2), (19, .bipush 9, 2), (21, .invokestatic 201, 3), (24, .ifCond .eq 44, 3), (27, .aload_n 0, 1), (28, .getfield 57, 3), (31, .bipush 8, 2), (33, .if_icmp .ne 8, 3), (36, .bipush 14, 2), (38, .goto 5, 3), (41, .bipush 15, 2), (43, .istore_n 2, 1), (44, .aload_n 0, 1), (45, .invokevirtual 54, 3), (48, .aload_n 0, 1), (49, .invokevirtual 269, 3)]
set_option maxRecDepth 20000 in
theorem dn_162_0_0_ok : dn_162_0_0.all (fun q => decide (decode (xm_b n_162) q.1 = .ok (q.2.1, q.2.2))) = true := xa_g_ok (by decide +kernel)
def dn_162_0_1 : List (Nat × Instr × Nat) := [(52, .aload_n 0, 1), (53, .getfield 21, 3), (56, .iload_n 2, 1), (57, .iconst 0, 1), (58, .invokevirtual 198, 3), (61, .pop, 1), (62, .iinc 1 1, 3), (65, .goto (-59), 3), (68, .return_, 1)]
set_option maxRecDepth 20000 in
theorem dn_162_0_1_ok : dn_162_0_1.all (fun q => decide (decode (xm_b n_162) q.1 = .ok (q.2.1, q.2.2))) = true := xa_g_ok (by decide +kernel)
def te_162_0 : Nat → eE := (e_T 33 (e_T 13 (e_T 5 (e_T 1 (e_T 0 (e_L 0 (0, ei_load 0 2 1, 0, 0)) (e_L 1 (2, e_nof, 163, 1))) (e_T 4 (e_L 4 (0, ei_push (0, 0) 5, 0, 0)) (e_L 5 (0, ei_stor 1 0 6, 0, 0)))) (e_T 7 (e_T 6 (e_L 6 (0, ei_load 1 0 7, 0, 0)) (e_L 7 (0, ei_push (0, 4000) 10, 0, 0))) (e_T 10 (e_L 10 (0, ei_if2 3 68 13, 0, 0)) (e_L 13 (0, ei_load 0 2 14, 0, 0))))) (e_T 21 (e_T 17 (e_T 14 (e_L 14 (0, ei_getf eft elay 8 5 17, 0, 0)) (e_L 17 (0, ei_push (0, 8) 19, 0, 0))) (e_T 19 (e_L 19 (0, ei_push (0, 9) 21, 0, 0)) (e_L 21 (2, e_nof, 242, 3)))) (e_T 27 (e_T 24 (e_L 24 (0, ei_if1 0 68 27, 0, 0)) (e_L 27 (0, ei_load 0 2 28, 0, 0))) (e_T 28 (e_L 28 (0, ei_getf eft elay 8 5 31, 0, 0)) (e_T 31 (e_L 31 (0, ei_push (0, 8) 33, 0, 0)) (e_L 33 (0, ei_if2 1 41 36, 0, 0))))))) (e_T 49 (e_T 43 (e_T 38 (e_T 36 (e_L 36 (0, ei_push (0, 14) 38, 0, 0)) (e_L 38 (0, ei_goto 43, 0, 0))) (e_T 41 (e_L 41 (0, ei_push (0, 15) 43, 0, 0)) (e_L 43 (0, ei_stor 2 0 44, 0, 0)))) (e_T 45 (e_T 44 (e_L 44 (0, ei_load 0 2 45, 0, 0)) (e_L 45 (2, e_nof, 123, 1))) (e_T 48 (e_L 48 (0, ei_load 0 2 49, 0, 0)) (e_L 49 (2, e_nof, 163, 1))))) (e_T 57 (e_T 53 (e_T 52 (e_L 52 (0, ei_load 0 2 53, 0, 0)) (e_L 53 (0, ei_getf eft elay 8 3 56, 0, 0))) (e_T 56 (e_L 56 (0, ei_load 2 0 57, 0, 0)) (e_L 57 (0, ei_push (0, 0) 58, 0, 0)))) (e_T 61 (e_T 58 (e_L 58 (2, e_nof, 21, 3)) (e_L 61 (0, ei_stk ef_pop 62, 0, 0))) (e_T 62 (e_L 62 (0, ei_inc 1 1 65, 0, 0)) (e_T 65 (e_L 65 (0, ei_goto 6, 0, 0)) (e_L 68 (1, e_nof, 0, 0))))))))
set_option maxRecDepth 20000 in
set_option maxHeartbeats 4000000 in
theorem te_162_0_ok : ∀ pc, e_EOq eft cls elay eI n_162 pc (te_162_0 pc) :=
  (e_Tok2
  (e_Tok2
  (e_Tok2
  (e_Tok2
  (e_Tok2
  (e_Lok (ld_aload_n_0 (x_dk dn_162_0_0_ok 0 rfl)))
  (e_Lok (lk_8_269 ho_162 (x_dk dn_162_0_0_ok 1 rfl))))
  (e_Tok2
  (e_Lok (ps_iconst_0 (x_dk dn_162_0_0_ok 2 rfl)))
  (e_Lok (e_st (I := eI) (er_istore_n (i := 1) (x_dk dn_162_0_0_ok 3 rfl) (by decide +kernel)) nx_stor))))
  (e_Tok2
  (e_Tok2
  (e_Lok (ld_iload_n_1 (x_dk dn_162_0_0_ok 4 rfl)))
  (e_Lok (ps_sipush_4000 (x_dk dn_162_0_0_ok 5 rfl))))
  (e_Tok2
  (e_Lok (e_st (I := eI) (er_icmpge (off := 58) (tg := 68) (x_dk dn_162_0_0_ok 6 rfl) (by decide)) nx_if2))
  (e_Lok (ld_aload_n_0 (x_dk dn_162_0_0_ok 7 rfl))))))
  (e_Tok2
  (e_Tok2
  (e_Tok2
  (e_Lok (lk_8_57g ho_162 (x_dk dn_162_0_0_ok 8 rfl)))
  (e_Lok (ps_bipush_8 (x_dk dn_162_0_0_ok 9 rfl))))
  (e_Tok2
  (e_Lok (ps_bipush_9 (x_dk dn_162_0_0_ok 10 rfl)))
  (e_Lok (lk_8_201 ho_162 (x_dk dn_162_0_0_ok 11 rfl)))))
  (e_Tok2
  (e_Tok2
  (e_Lok (e_st (I := eI) (er_ifeq (off := 44) (tg := 68) (x_dk dn_162_0_0_ok 12 rfl) (by decide)) nx_if1))
  (e_Lok (ld_aload_n_0 (x_dk dn_162_0_0_ok 13 rfl))))
  (e_Tok2
  (e_Lok (lk_8_57g ho_162 (x_dk dn_162_0_0_ok 14 rfl)))
  (e_Tok2
  (e_Lok (ps_bipush_8 (x_dk dn_162_0_0_ok 15 rfl)))
  (e_Lok (e_st (I := eI) (er_icmpne (off := 8) (tg := 41) (x_dk dn_162_0_0_ok 16 rfl) (by decide)) nx_if2)))))))
  (e_Tok2
  (e_Tok2
  (e_Tok2
  (e_Tok2
  (e_Lok (ps_bipush_14 (x_dk dn_162_0_0_ok 17 rfl)))
  (e_Lok (e_st (I := eI) (er_goto (off := 5) (tg := 43) (x_dk dn_162_0_0_ok 18 rfl) (by decide)) nx_goto)))
  (e_Tok2
  (e_Lok (ps_bipush_15 (x_dk dn_162_0_0_ok 19 rfl)))
  (e_Lok (e_st (I := eI) (er_istore_n (i := 2) (x_dk dn_162_0_0_ok 20 rfl) (by decide +kernel)) nx_stor))))
  (e_Tok2
  (e_Tok2
  (e_Lok (ld_aload_n_0 (x_dk dn_162_0_0_ok 21 rfl)))
  (e_Lok (lk_8_54 ho_162 (x_dk dn_162_0_0_ok 22 rfl))))
  (e_Tok2
  (e_Lok (ld_aload_n_0 (x_dk dn_162_0_0_ok 23 rfl)))
  (e_Lok (lk_8_269 ho_162 (x_dk dn_162_0_0_ok 24 rfl))))))
  (e_Tok2
  (e_Tok2
  (e_Tok2
  (e_Lok (ld_aload_n_0 (x_dk dn_162_0_1_ok 0 rfl)))
  (e_Lok (lk_8_21g ho_162 (x_dk dn_162_0_1_ok 1 rfl))))
  (e_Tok2
  (e_Lok (ld_iload_n_2 (x_dk dn_162_0_1_ok 2 rfl)))
  (e_Lok (ps_iconst_0 (x_dk dn_162_0_1_ok 3 rfl)))))
  (e_Tok2
  (e_Tok2
  (e_Lok (lk_8_198 ho_162 (x_dk dn_162_0_1_ok 4 rfl)))
  (e_Lok (e_st (I := eI) (er_pop (x_dk dn_162_0_1_ok 5 rfl)) (nx_stk bf_pop))))
  (e_Tok2
  (e_Lok (e_st (I := eI) (er_iinc (i := 1) (n := 1) (x_dk dn_162_0_1_ok 6 rfl) (by decide +kernel) (by decide)) nx_inc))
  (e_Tok2
  (e_Lok (e_st (I := eI) (er_goto (off := (-59)) (tg := 6) (x_dk dn_162_0_1_ok 7 rfl) (by decide)) nx_goto))
  (e_Lok (e_rt (I := eI) (k := 0) ⟨(x_dk dn_162_0_1_ok 8 rfl), rfl⟩))))))))
def te_162 : Nat → eE := te_162_0
theorem te_162_ok : ∀ pc, e_EOq eft cls elay eI n_162 pc (te_162 pc) := te_162_0_ok
theorem ho_163 : (xm_y n_163).cls = "RobotCellHouse$Reader" := rfl
def dn_163_0_0 : List (Nat × Instr × Nat) := [(0, .aload_n 0, 1), (1, .invokevirtual 272, 3), (4, .iconst 0, 1), (5, .istore_n 1, 1), (6, .iload_n 1, 1), (7, .sipush 4000, 3), (10, .if_icmp .ge 52, 3), (13, .aload_n 0, 1), (14, .getfield 57, 3), (17, .bipush 10, 2), (19, .bipush 12, 2), (21, .invokestatic 201, 3), (24, .ifCond .eq 38, 3), (27, .bipush 16, 2), (29, .aload_n 0, 1), (30, .getfield 57, 3), (33, .iadd, 1), (34, .bipush 10, 2), (36, .isub, 1), (37, .istore_n 2, 1), (38, .aload_n 0, 1), (39, .invokevirtual 54, 3), (42, .aload_n 0, 1), (43, .invokevirtual 272, 3), (46, .aload_n 0, 1)]
set_option maxRecDepth 20000 in
theorem dn_163_0_0_ok : dn_163_0_0.all (fun q => decide (decode (xm_b n_163) q.1 = .ok (q.2.1, q.2.2))) = true := xa_g_ok (by decide +kernel)
def dn_163_0_1 : List (Nat × Instr × Nat) := [(47, .getfield 21, 3), (50, .iload_n 2, 1), (51, .iconst 0, 1), (52, .invokevirtual 198, 3), (55, .pop, 1), (56, .iinc 1 1, 3), (59, .goto (-53), 3), (62, .return_, 1)]
set_option maxRecDepth 20000 in
theorem dn_163_0_1_ok : dn_163_0_1.all (fun q => decide (decode (xm_b n_163) q.1 = .ok (q.2.1, q.2.2))) = true := xa_g_ok (by decide +kernel)
def te_163_0 : Nat → eE := (e_T 30 (e_T 13 (e_T 5 (e_T 1 (e_T 0 (e_L 0 (0, ei_load 0 2 1, 0, 0)) (e_L 1 (2, e_nof, 164, 1))) (e_T 4 (e_L 4 (0, ei_push (0, 0) 5, 0, 0)) (e_L 5 (0, ei_stor 1 0 6, 0, 0)))) (e_T 7 (e_T 6 (e_L 6 (0, ei_load 1 0 7, 0, 0)) (e_L 7 (0, ei_push (0, 4000) 10, 0, 0))) (e_T 10 (e_L 10 (0, ei_if2 3 62 13, 0, 0)) (e_L 13 (0, ei_load 0 2 14, 0, 0))))) (e_T 21 (e_T 17 (e_T 14 (e_L 14 (0, ei_getf eft elay 8 5 17, 0, 0)) (e_L 17 (0, ei_push (0, 10) 19, 0, 0))) (e_T 19 (e_L 19 (0, ei_push (0, 12) 21, 0, 0)) (e_L 21 (2, e_nof, 242, 3)))) (e_T 27 (e_T 24 (e_L 24 (0, ei_if1 0 62 27, 0, 0)) (e_L 27 (0, ei_push (0, 16) 29, 0, 0))) (e_T 29 (e_L 29 (0, ei_load 0 2 30, 0, 0)) (e_L 30 (0, ei_getf eft elay 8 5 33, 0, 0)))))) (e_T 43 (e_T 37 (e_T 34 (e_T 33 (e_L 33 (0, ei_bin eF_add 34, 0, 0)) (e_L 34 (0, ei_push (0, 10) 36, 0, 0))) (e_T 36 (e_L 36 (0, ei_bin eF_sub 37, 0, 0)) (e_L 37 (0, ei_stor 2 0 38, 0, 0)))) (e_T 39 (e_T 38 (e_L 38 (0, ei_load 0 2 39, 0, 0)) (e_L 39 (2, e_nof, 123, 1))) (e_T 42 (e_L 42 (0, ei_load 0 2 43, 0, 0)) (e_L 43 (2, e_nof, 164, 1))))) (e_T 51 (e_T 47 (e_T 46 (e_L 46 (0, ei_load 0 2 47, 0, 0)) (e_L 47 (0, ei_getf eft elay 8 3 50, 0, 0))) (e_T 50 (e_L 50 (0, ei_load 2 0 51, 0, 0)) (e_L 51 (0, ei_push (0, 0) 52, 0, 0)))) (e_T 55 (e_T 52 (e_L 52 (2, e_nof, 21, 3)) (e_L 55 (0, ei_stk ef_pop 56, 0, 0))) (e_T 56 (e_L 56 (0, ei_inc 1 1 59, 0, 0)) (e_T 59 (e_L 59 (0, ei_goto 6, 0, 0)) (e_L 62 (1, e_nof, 0, 0))))))))
set_option maxRecDepth 20000 in
set_option maxHeartbeats 4000000 in
theorem te_163_0_ok : ∀ pc, e_EOq eft cls elay eI n_163 pc (te_163_0 pc) :=
  (e_Tok2
  (e_Tok2
  (e_Tok2
  (e_Tok2
  (e_Tok2
  (e_Lok (ld_aload_n_0 (x_dk dn_163_0_0_ok 0 rfl)))
  (e_Lok (lk_8_272 ho_163 (x_dk dn_163_0_0_ok 1 rfl))))
  (e_Tok2
  (e_Lok (ps_iconst_0 (x_dk dn_163_0_0_ok 2 rfl)))
  (e_Lok (e_st (I := eI) (er_istore_n (i := 1) (x_dk dn_163_0_0_ok 3 rfl) (by decide +kernel)) nx_stor))))
  (e_Tok2
  (e_Tok2
  (e_Lok (ld_iload_n_1 (x_dk dn_163_0_0_ok 4 rfl)))
  (e_Lok (ps_sipush_4000 (x_dk dn_163_0_0_ok 5 rfl))))
  (e_Tok2
  (e_Lok (e_st (I := eI) (er_icmpge (off := 52) (tg := 62) (x_dk dn_163_0_0_ok 6 rfl) (by decide)) nx_if2))
  (e_Lok (ld_aload_n_0 (x_dk dn_163_0_0_ok 7 rfl))))))
  (e_Tok2
  (e_Tok2
  (e_Tok2
  (e_Lok (lk_8_57g ho_163 (x_dk dn_163_0_0_ok 8 rfl)))
  (e_Lok (ps_bipush_10 (x_dk dn_163_0_0_ok 9 rfl))))
  (e_Tok2
  (e_Lok (ps_bipush_12 (x_dk dn_163_0_0_ok 10 rfl)))
  (e_Lok (lk_8_201 ho_163 (x_dk dn_163_0_0_ok 11 rfl)))))
  (e_Tok2
  (e_Tok2
  (e_Lok (e_st (I := eI) (er_ifeq (off := 38) (tg := 62) (x_dk dn_163_0_0_ok 12 rfl) (by decide)) nx_if1))
  (e_Lok (ps_bipush_16 (x_dk dn_163_0_0_ok 13 rfl))))
  (e_Tok2
  (e_Lok (ld_aload_n_0 (x_dk dn_163_0_0_ok 14 rfl)))
  (e_Lok (lk_8_57g ho_163 (x_dk dn_163_0_0_ok 15 rfl)))))))
  (e_Tok2
  (e_Tok2
  (e_Tok2
  (e_Tok2
  (e_Lok (sm_iadd (x_dk dn_163_0_0_ok 16 rfl)))
  (e_Lok (ps_bipush_10 (x_dk dn_163_0_0_ok 17 rfl))))
  (e_Tok2
  (e_Lok (sm_isub (x_dk dn_163_0_0_ok 18 rfl)))
  (e_Lok (e_st (I := eI) (er_istore_n (i := 2) (x_dk dn_163_0_0_ok 19 rfl) (by decide +kernel)) nx_stor))))
  (e_Tok2
  (e_Tok2
  (e_Lok (ld_aload_n_0 (x_dk dn_163_0_0_ok 20 rfl)))
  (e_Lok (lk_8_54 ho_163 (x_dk dn_163_0_0_ok 21 rfl))))
  (e_Tok2
  (e_Lok (ld_aload_n_0 (x_dk dn_163_0_0_ok 22 rfl)))
  (e_Lok (lk_8_272 ho_163 (x_dk dn_163_0_0_ok 23 rfl))))))
  (e_Tok2
  (e_Tok2
  (e_Tok2
  (e_Lok (ld_aload_n_0 (x_dk dn_163_0_0_ok 24 rfl)))
  (e_Lok (lk_8_21g ho_163 (x_dk dn_163_0_1_ok 0 rfl))))
  (e_Tok2
  (e_Lok (ld_iload_n_2 (x_dk dn_163_0_1_ok 1 rfl)))
  (e_Lok (ps_iconst_0 (x_dk dn_163_0_1_ok 2 rfl)))))
  (e_Tok2
  (e_Tok2
  (e_Lok (lk_8_198 ho_163 (x_dk dn_163_0_1_ok 3 rfl)))
  (e_Lok (e_st (I := eI) (er_pop (x_dk dn_163_0_1_ok 4 rfl)) (nx_stk bf_pop))))
  (e_Tok2
  (e_Lok (e_st (I := eI) (er_iinc (i := 1) (n := 1) (x_dk dn_163_0_1_ok 5 rfl) (by decide +kernel) (by decide)) nx_inc))
  (e_Tok2
  (e_Lok (e_st (I := eI) (er_goto (off := (-53)) (tg := 6) (x_dk dn_163_0_1_ok 6 rfl) (by decide)) nx_goto))
  (e_Lok (e_rt (I := eI) (k := 0) ⟨(x_dk dn_163_0_1_ok 7 rfl), rfl⟩))))))))
def te_163 : Nat → eE := te_163_0
theorem te_163_ok : ∀ pc, e_EOq eft cls elay eI n_163 pc (te_163 pc) := te_163_0_ok
theorem ho_164 : (xm_y n_164).cls = "RobotCellHouse$Reader" := rfl
def dn_164_0_0 : List (Nat × Instr × Nat) := [(0, .aload_n 0, 1), (1, .getfield 57, 3), (4, .bipush 9, 2), (6, .if_icmp .ne 43, 3), (9, .aload_n 0, 1), (10, .invokevirtual 251, 3), (13, .ifCond .ne 4, 3), (16, .return_, 1), (17, .aload_n 0, 1), (18, .invokevirtual 54, 3), (21, .aload_n 0, 1), (22, .invokevirtual 272, 3), (25, .aload_n 0, 1), (26, .dup, 1), (27, .getfield 42, 3), (30, .iconst 1, 1), (31, .isub, 1), (32, .putfield 42, 3), (35, .aload_n 0, 1), (36, .getfield 21, 3), (39, .bipush 9, 2), (41, .iconst 0, 1), (42, .invokevirtual 198, 3), (45, .pop, 1), (46, .goto 147, 3)]
set_option maxRecDepth 20000 in
theorem dn_164_0_0_ok : dn_164_0_0.all (fun q => decide (decode (xm_b n_164) q.1 = .ok (q.2.1, q.2.2))) = true := xa_g_ok (by decide +kernel)
def dn_164_0_1 : List (Nat × Instr × Nat) := [(49, .aload_n 0, 1), (50, .getfield 57, 3), (53, .iconst 2, 1), (54, .if_icmp .ne 14, 3), (57, .aload_n 0, 1), (58, .invokevirtual 275, 3), (61, .aload_n 0, 1), (62, .invokevirtual 54, 3), (65, .goto 128, 3), (68, .aload_n 0, 1), (69, .getfield 57, 3), (72, .iconst 1, 1), (73, .if_icmp .ne 23, 3), (76, .aload_n 0, 1), (77, .getfield 21, 3), (80, .iconst 2, 1), (81, .aload_n 0, 1), (82, .invokevirtual 248, 3), (85, .invokevirtual 198, 3), (88, .pop, 1), (89, .aload_n 0, 1), (90, .invokevirtual 54, 3), (93, .goto 100, 3), (96, .aload_n 0, 1), (97, .getfield 57, 3)]
set_option maxRecDepth 20000 in
theorem dn_164_0_1_ok : dn_164_0_1.all (fun q => decide (decode (xm_b n_164) q.1 = .ok (q.2.1, q.2.2))) = true := xa_g_ok (by decide +kernel)
def dn_164_0_2 : List (Nat × Instr × Nat) := [(100, .bipush 48, 2), (102, .if_icmp .eq 12, 3), (105, .aload_n 0, 1), (106, .getfield 57, 3), (109, .bipush 49, 2), (111, .if_icmp .ne 39, 3), (114, .aload_n 0, 1), (115, .getfield 57, 3), (118, .bipush 48, 2), (120, .if_icmp .ne 7, 3), (123, .iconst 3, 1), (124, .goto 4, 3), (127, .iconst 4, 1), (128, .istore_n 1, 1), (129, .aload_n 0, 1), (130, .invokevirtual 54, 3), (133, .aload_n 0, 1), (134, .invokevirtual 278, 3), (137, .aload_n 0, 1), (138, .getfield 21, 3), (141, .iload_n 1, 1), (142, .iconst 0, 1), (143, .invokevirtual 198, 3), (146, .pop, 1), (147, .goto 46, 3)]
set_option maxRecDepth 20000 in
theorem dn_164_0_2_ok : dn_164_0_2.all (fun q => decide (decode (xm_b n_164) q.1 = .ok (q.2.1, q.2.2))) = true := xa_g_ok (by decide +kernel)
def dn_164_0_3 : List (Nat × Instr × Nat) := [(150, .aload_n 0, 1), (151, .getfield 57, 3), (154, .bipush 50, 2), (156, .bipush 53, 2), (158, .invokestatic 201, 3), (161, .ifCond .eq 28, 3), (164, .aload_n 0, 1), (165, .getfield 21, 3), (168, .iconst 5, 1), (169, .aload_n 0, 1), (170, .getfield 57, 3), (173, .iadd, 1), (174, .bipush 50, 2), (176, .isub, 1), (177, .iconst 0, 1), (178, .invokevirtual 198, 3), (181, .pop, 1), (182, .aload_n 0, 1), (183, .invokevirtual 54, 3), (186, .goto 7, 3), (189, .aload_n 0, 1), (190, .invokevirtual 278, 3), (193, .return_, 1)]
set_option maxRecDepth 20000 in
theorem dn_164_0_3_ok : dn_164_0_3.all (fun q => decide (decode (xm_b n_164) q.1 = .ok (q.2.1, q.2.2))) = true := xa_g_ok (by decide +kernel)
def te_164_0 : Nat → eE := (e_T 22 (e_T 10 (e_T 4 (e_T 0 (e_L 0 (0, ei_load 0 2 1, 0, 0)) (e_T 1 (e_L 1 (0, ei_getf eft elay 8 5 4, 0, 0)) (e_L 4 (0, ei_push (0, 9) 6, 0, 0)))) (e_T 6 (e_L 6 (0, ei_if2 1 49 9, 0, 0)) (e_T 9 (e_L 9 (0, ei_load 0 2 10, 0, 0)) (e_L 10 (2, e_nof, 132, 1))))) (e_T 17 (e_T 13 (e_L 13 (0, ei_if1 1 17 16, 0, 0)) (e_T 16 (e_L 16 (1, e_nof, 0, 0)) (e_L 17 (0, ei_load 0 2 18, 0, 0)))) (e_T 18 (e_L 18 (2, e_nof, 123, 1)) (e_T 21 (e_L 21 (0, ei_load 0 2 22, 0, 0)) (e_L 22 (2, e_nof, 164, 1)))))) (e_T 32 (e_T 27 (e_T 25 (e_L 25 (0, ei_load 0 2 26, 0, 0)) (e_T 26 (e_L 26 (0, ei_stk ef_dup 27, 0, 0)) (e_L 27 (0, ei_getf eft elay 8 11 30, 0, 0)))) (e_T 30 (e_L 30 (0, ei_push (0, 1) 31, 0, 0)) (e_T 31 (e_L 31 (0, ei_bin eF_sub 32, 0, 0)) (e_L 32 (0, ei_putf eft elay 8 11 0 35, 0, 0))))) (e_T 39 (e_T 35 (e_L 35 (0, ei_load 0 2 36, 0, 0)) (e_T 36 (e_L 36 (0, ei_getf eft elay 8 3 39, 0, 0)) (e_L 39 (0, ei_push (0, 9) 41, 0, 0)))) (e_T 41 (e_L 41 (0, ei_push (0, 0) 42, 0, 0)) (e_T 42 (e_L 42 (2, e_nof, 21, 3)) (e_L 45 (0, ei_stk ef_pop 46, 0, 0)))))))
set_option maxRecDepth 20000 in
set_option maxHeartbeats 4000000 in
theorem te_164_0_ok : ∀ pc, e_EOq eft cls elay eI n_164 pc (te_164_0 pc) :=
  (e_Tok2
  (e_Tok2
  (e_Tok2
  (e_Tok2
  (e_Lok (ld_aload_n_0 (x_dk dn_164_0_0_ok 0 rfl)))
  (e_Tok2
  (e_Lok (lk_8_57g ho_164 (x_dk dn_164_0_0_ok 1 rfl)))
  (e_Lok (ps_bipush_9 (x_dk dn_164_0_0_ok 2 rfl)))))
  (e_Tok2
  (e_Lok (e_st (I := eI) (er_icmpne (off := 43) (tg := 49) (x_dk dn_164_0_0_ok 3 rfl) (by decide)) nx_if2))
  (e_Tok2
  (e_Lok (ld_aload_n_0 (x_dk dn_164_0_0_ok 4 rfl)))
  (e_Lok (lk_8_251 ho_164 (x_dk dn_164_0_0_ok 5 rfl))))))
  (e_Tok2
  (e_Tok2
  (e_Lok (e_st (I := eI) (er_ifne (off := 4) (tg := 17) (x_dk dn_164_0_0_ok 6 rfl) (by decide)) nx_if1))
  (e_Tok2
  (e_Lok (e_rt (I := eI) (k := 0) ⟨(x_dk dn_164_0_0_ok 7 rfl), rfl⟩))
  (e_Lok (ld_aload_n_0 (x_dk dn_164_0_0_ok 8 rfl)))))
  (e_Tok2
  (e_Lok (lk_8_54 ho_164 (x_dk dn_164_0_0_ok 9 rfl)))
  (e_Tok2
  (e_Lok (ld_aload_n_0 (x_dk dn_164_0_0_ok 10 rfl)))
  (e_Lok (lk_8_272 ho_164 (x_dk dn_164_0_0_ok 11 rfl)))))))
  (e_Tok2
  (e_Tok2
  (e_Tok2
  (e_Lok (ld_aload_n_0 (x_dk dn_164_0_0_ok 12 rfl)))
  (e_Tok2
  (e_Lok (e_st (I := eI) (er_dup (x_dk dn_164_0_0_ok 13 rfl)) (nx_stk bf_dup)))
  (e_Lok (lk_8_42g ho_164 (x_dk dn_164_0_0_ok 14 rfl)))))
  (e_Tok2
  (e_Lok (ps_iconst_1 (x_dk dn_164_0_0_ok 15 rfl)))
  (e_Tok2
  (e_Lok (sm_isub (x_dk dn_164_0_0_ok 16 rfl)))
  (e_Lok (lk_8_42p ho_164 (x_dk dn_164_0_0_ok 17 rfl))))))
  (e_Tok2
  (e_Tok2
  (e_Lok (ld_aload_n_0 (x_dk dn_164_0_0_ok 18 rfl)))
  (e_Tok2
  (e_Lok (lk_8_21g ho_164 (x_dk dn_164_0_0_ok 19 rfl)))
  (e_Lok (ps_bipush_9 (x_dk dn_164_0_0_ok 20 rfl)))))
  (e_Tok2
  (e_Lok (ps_iconst_0 (x_dk dn_164_0_0_ok 21 rfl)))
  (e_Tok2
  (e_Lok (lk_8_198 ho_164 (x_dk dn_164_0_0_ok 22 rfl)))
  (e_Lok (e_st (I := eI) (er_pop (x_dk dn_164_0_0_ok 23 rfl)) (nx_stk bf_pop))))))))
def te_164_24 : Nat → eE := (e_T 69 (e_T 57 (e_T 50 (e_T 46 (e_L 46 (0, ei_goto 193, 0, 0)) (e_T 49 (e_L 49 (0, ei_load 0 2 50, 0, 0)) (e_L 50 (0, ei_getf eft elay 8 5 53, 0, 0)))) (e_T 53 (e_L 53 (0, ei_push (0, 2) 54, 0, 0)) (e_T 54 (e_L 54 (0, ei_if2 1 68 57, 0, 0)) (e_L 57 (0, ei_load 0 2 58, 0, 0))))) (e_T 62 (e_T 58 (e_L 58 (2, e_nof, 166, 1)) (e_T 61 (e_L 61 (0, ei_load 0 2 62, 0, 0)) (e_L 62 (2, e_nof, 123, 1)))) (e_T 65 (e_L 65 (0, ei_goto 193, 0, 0)) (e_T 68 (e_L 68 (0, ei_load 0 2 69, 0, 0)) (e_L 69 (0, ei_getf eft elay 8 5 72, 0, 0)))))) (e_T 81 (e_T 76 (e_T 72 (e_L 72 (0, ei_push (0, 1) 73, 0, 0)) (e_T 73 (e_L 73 (0, ei_if2 1 96 76, 0, 0)) (e_L 76 (0, ei_load 0 2 77, 0, 0)))) (e_T 77 (e_L 77 (0, ei_getf eft elay 8 3 80, 0, 0)) (e_T 80 (e_L 80 (0, ei_push (0, 2) 81, 0, 0)) (e_L 81 (0, ei_load 0 2 82, 0, 0))))) (e_T 88 (e_T 82 (e_L 82 (2, e_nof, 137, 1)) (e_T 85 (e_L 85 (2, e_nof, 21, 3)) (e_L 88 (0, ei_stk ef_pop 89, 0, 0)))) (e_T 90 (e_T 89 (e_L 89 (0, ei_load 0 2 90, 0, 0)) (e_L 90 (2, e_nof, 123, 1))) (e_T 93 (e_L 93 (0, ei_goto 193, 0, 0)) (e_L 96 (0, ei_load 0 2 97, 0, 0)))))))
set_option maxRecDepth 20000 in
set_option maxHeartbeats 4000000 in
theorem te_164_24_ok : ∀ pc, e_EOq eft cls elay eI n_164 pc (te_164_24 pc) :=
  (e_Tok2
  (e_Tok2
  (e_Tok2
  (e_Tok2
  (e_Lok (e_st (I := eI) (er_goto (off := 147) (tg := 193) (x_dk dn_164_0_0_ok 24 rfl) (by decide)) nx_goto))
  (e_Tok2
  (e_Lok (ld_aload_n_0 (x_dk dn_164_0_1_ok 0 rfl)))
  (e_Lok (lk_8_57g ho_164 (x_dk dn_164_0_1_ok 1 rfl)))))
  (e_Tok2
  (e_Lok (ps_iconst_2 (x_dk dn_164_0_1_ok 2 rfl)))
  (e_Tok2
  (e_Lok (e_st (I := eI) (er_icmpne (off := 14) (tg := 68) (x_dk dn_164_0_1_ok 3 rfl) (by decide)) nx_if2))
  (e_Lok (ld_aload_n_0 (x_dk dn_164_0_1_ok 4 rfl))))))
  (e_Tok2
  (e_Tok2
  (e_Lok (lk_8_275 ho_164 (x_dk dn_164_0_1_ok 5 rfl)))
  (e_Tok2
  (e_Lok (ld_aload_n_0 (x_dk dn_164_0_1_ok 6 rfl)))
  (e_Lok (lk_8_54 ho_164 (x_dk dn_164_0_1_ok 7 rfl)))))
  (e_Tok2
  (e_Lok (e_st (I := eI) (er_goto (off := 128) (tg := 193) (x_dk dn_164_0_1_ok 8 rfl) (by decide)) nx_goto))
  (e_Tok2
  (e_Lok (ld_aload_n_0 (x_dk dn_164_0_1_ok 9 rfl)))
  (e_Lok (lk_8_57g ho_164 (x_dk dn_164_0_1_ok 10 rfl)))))))
  (e_Tok2
  (e_Tok2
  (e_Tok2
  (e_Lok (ps_iconst_1 (x_dk dn_164_0_1_ok 11 rfl)))
  (e_Tok2
  (e_Lok (e_st (I := eI) (er_icmpne (off := 23) (tg := 96) (x_dk dn_164_0_1_ok 12 rfl) (by decide)) nx_if2))
  (e_Lok (ld_aload_n_0 (x_dk dn_164_0_1_ok 13 rfl)))))
  (e_Tok2
  (e_Lok (lk_8_21g ho_164 (x_dk dn_164_0_1_ok 14 rfl)))
  (e_Tok2
  (e_Lok (ps_iconst_2 (x_dk dn_164_0_1_ok 15 rfl)))
  (e_Lok (ld_aload_n_0 (x_dk dn_164_0_1_ok 16 rfl))))))
  (e_Tok2
  (e_Tok2
  (e_Lok (lk_8_248 ho_164 (x_dk dn_164_0_1_ok 17 rfl)))
  (e_Tok2
  (e_Lok (lk_8_198 ho_164 (x_dk dn_164_0_1_ok 18 rfl)))
  (e_Lok (e_st (I := eI) (er_pop (x_dk dn_164_0_1_ok 19 rfl)) (nx_stk bf_pop)))))
  (e_Tok2
  (e_Tok2
  (e_Lok (ld_aload_n_0 (x_dk dn_164_0_1_ok 20 rfl)))
  (e_Lok (lk_8_54 ho_164 (x_dk dn_164_0_1_ok 21 rfl))))
  (e_Tok2
  (e_Lok (e_st (I := eI) (er_goto (off := 100) (tg := 193) (x_dk dn_164_0_1_ok 22 rfl) (by decide)) nx_goto))
  (e_Lok (ld_aload_n_0 (x_dk dn_164_0_1_ok 23 rfl))))))))
def te_164_49 : Nat → eE := (e_T 123 (e_T 109 (e_T 102 (e_T 97 (e_L 97 (0, ei_getf eft elay 8 5 100, 0, 0)) (e_T 100 (e_L 100 (0, ei_push (0, 48) 102, 0, 0)) (e_L 102 (0, ei_if2 0 114 105, 0, 0)))) (e_T 105 (e_L 105 (0, ei_load 0 2 106, 0, 0)) (e_T 106 (e_L 106 (0, ei_getf eft elay 8 5 109, 0, 0)) (e_L 109 (0, ei_push (0, 49) 111, 0, 0))))) (e_T 115 (e_T 111 (e_L 111 (0, ei_if2 1 150 114, 0, 0)) (e_T 114 (e_L 114 (0, ei_load 0 2 115, 0, 0)) (e_L 115 (0, ei_getf eft elay 8 5 118, 0, 0)))) (e_T 118 (e_L 118 (0, ei_push (0, 48) 120, 0, 0)) (e_T 120 (e_L 120 (0, ei_if2 1 127 123, 0, 0)) (e_L 123 (0, ei_push (0, 3) 124, 0, 0)))))) (e_T 133 (e_T 128 (e_T 124 (e_L 124 (0, ei_goto 128, 0, 0)) (e_T 127 (e_L 127 (0, ei_push (0, 4) 128, 0, 0)) (e_L 128 (0, ei_stor 1 0 129, 0, 0)))) (e_T 129 (e_L 129 (0, ei_load 0 2 130, 0, 0)) (e_T 130 (e_L 130 (2, e_nof, 123, 1)) (e_L 133 (0, ei_load 0 2 134, 0, 0))))) (e_T 138 (e_T 134 (e_L 134 (2, e_nof, 165, 1)) (e_T 137 (e_L 137 (0, ei_load 0 2 138, 0, 0)) (e_L 138 (0, ei_getf eft elay 8 3 141, 0, 0)))) (e_T 141 (e_L 141 (0, ei_load 1 0 142, 0, 0)) (e_T 142 (e_L 142 (0, ei_push (0, 0) 143, 0, 0)) (e_L 143 (2, e_nof, 21, 3)))))))
set_option maxRecDepth 20000 in
set_option maxHeartbeats 4000000 in
theorem te_164_49_ok : ∀ pc, e_EOq eft cls elay eI n_164 pc (te_164_49 pc) :=
  (e_Tok2
  (e_Tok2
  (e_Tok2
  (e_Tok2
  (e_Lok (lk_8_57g ho_164 (x_dk dn_164_0_1_ok 24 rfl)))
  (e_Tok2
  (e_Lok (ps_bipush_48 (x_dk dn_164_0_2_ok 0 rfl)))
  (e_Lok (e_st (I := eI) (er_icmpeq (off := 12) (tg := 114) (x_dk dn_164_0_2_ok 1 rfl) (by decide)) nx_if2))))
  (e_Tok2
  (e_Lok (ld_aload_n_0 (x_dk dn_164_0_2_ok 2 rfl)))
  (e_Tok2
  (e_Lok (lk_8_57g ho_164 (x_dk dn_164_0_2_ok 3 rfl)))
  (e_Lok (ps_bipush_49 (x_dk dn_164_0_2_ok 4 rfl))))))
  (e_Tok2
  (e_Tok2
  (e_Lok (e_st (I := eI) (er_icmpne (off := 39) (tg := 150) (x_dk dn_164_0_2_ok 5 rfl) (by decide)) nx_if2))
  (e_Tok2
  (e_Lok (ld_aload_n_0 (x_dk dn_164_0_2_ok 6 rfl)))
  (e_Lok (lk_8_57g ho_164 (x_dk dn_164_0_2_ok 7 rfl)))))
  (e_Tok2
  (e_Lok (ps_bipush_48 (x_dk dn_164_0_2_ok 8 rfl)))
  (e_Tok2
  (e_Lok (e_st (I := eI) (er_icmpne (off := 7) (tg := 127) (x_dk dn_164_0_2_ok 9 rfl) (by decide)) nx_if2))
  (e_Lok (ps_iconst_3 (x_dk dn_164_0_2_ok 10 rfl)))))))
  (e_Tok2
  (e_Tok2
  (e_Tok2
  (e_Lok (e_st (I := eI) (er_goto (off := 4) (tg := 128) (x_dk dn_164_0_2_ok 11 rfl) (by decide)) nx_goto))
  (e_Tok2
  (e_Lok (ps_iconst_4 (x_dk dn_164_0_2_ok 12 rfl)))
  (e_Lok (e_st (I := eI) (er_istore_n (i := 1) (x_dk dn_164_0_2_ok 13 rfl) (by decide +kernel)) nx_stor))))
  (e_Tok2
  (e_Lok (ld_aload_n_0 (x_dk dn_164_0_2_ok 14 rfl)))
  (e_Tok2
  (e_Lok (lk_8_54 ho_164 (x_dk dn_164_0_2_ok 15 rfl)))
  (e_Lok (ld_aload_n_0 (x_dk dn_164_0_2_ok 16 rfl))))))
  (e_Tok2
  (e_Tok2
  (e_Lok (lk_8_278 ho_164 (x_dk dn_164_0_2_ok 17 rfl)))
  (e_Tok2
  (e_Lok (ld_aload_n_0 (x_dk dn_164_0_2_ok 18 rfl)))
  (e_Lok (lk_8_21g ho_164 (x_dk dn_164_0_2_ok 19 rfl)))))
  (e_Tok2
  (e_Lok (ld_iload_n_1 (x_dk dn_164_0_2_ok 20 rfl)))
  (e_Tok2
  (e_Lok (ps_iconst_0 (x_dk dn_164_0_2_ok 21 rfl)))
  (e_Lok (lk_8_198 ho_164 (x_dk dn_164_0_2_ok 22 rfl))))))))
def te_164_73 : Nat → eE := (e_T 169 (e_T 156 (e_T 150 (e_T 146 (e_L 146 (0, ei_stk ef_pop 147, 0, 0)) (e_T 147 (e_L 147 (0, ei_goto 193, 0, 0)) (e_L 150 (0, ei_load 0 2 151, 0, 0)))) (e_T 151 (e_L 151 (0, ei_getf eft elay 8 5 154, 0, 0)) (e_T 154 (e_L 154 (0, ei_push (0, 50) 156, 0, 0)) (e_L 156 (0, ei_push (0, 53) 158, 0, 0))))) (e_T 164 (e_T 158 (e_L 158 (2, e_nof, 242, 3)) (e_T 161 (e_L 161 (0, ei_if1 0 189 164, 0, 0)) (e_L 164 (0, ei_load 0 2 165, 0, 0)))) (e_T 165 (e_L 165 (0, ei_getf eft elay 8 3 168, 0, 0)) (e_T 168 (e_L 168 (0, ei_push (0, 5) 169, 0, 0)) (e_L 169 (0, ei_load 0 2 170, 0, 0)))))) (e_T 178 (e_T 174 (e_T 170 (e_L 170 (0, ei_getf eft elay 8 5 173, 0, 0)) (e_T 173 (e_L 173 (0, ei_bin eF_add 174, 0, 0)) (e_L 174 (0, ei_push (0, 50) 176, 0, 0)))) (e_T 176 (e_L 176 (0, ei_bin eF_sub 177, 0, 0)) (e_T 177 (e_L 177 (0, ei_push (0, 0) 178, 0, 0)) (e_L 178 (2, e_nof, 21, 3))))) (e_T 183 (e_T 181 (e_L 181 (0, ei_stk ef_pop 182, 0, 0)) (e_T 182 (e_L 182 (0, ei_load 0 2 183, 0, 0)) (e_L 183 (2, e_nof, 123, 1)))) (e_T 189 (e_T 186 (e_L 186 (0, ei_goto 193, 0, 0)) (e_L 189 (0, ei_load 0 2 190, 0, 0))) (e_T 190 (e_L 190 (2, e_nof, 165, 1)) (e_L 193 (1, e_nof, 0, 0)))))))
set_option maxRecDepth 20000 in
set_option maxHeartbeats 4000000 in
theorem te_164_73_ok : ∀ pc, e_EOq eft cls elay eI n_164 pc (te_164_73 pc) :=
  (e_Tok2
  (e_Tok2
  (e_Tok2
  (e_Tok2
  (e_Lok (e_st (I := eI) (er_pop (x_dk dn_164_0_2_ok 23 rfl)) (nx_stk bf_pop)))
  (e_Tok2
  (e_Lok (e_st (I := eI) (er_goto (off := 46) (tg := 193) (x_dk dn_164_0_2_ok 24 rfl) (by decide)) nx_goto))
  (e_Lok (ld_aload_n_0 (x_dk dn_164_0_3_ok 0 rfl)))))
  (e_Tok2
  (e_Lok (lk_8_57g ho_164 (x_dk dn_164_0_3_ok 1 rfl)))
  (e_Tok2
  (e_Lok (ps_bipush_50 (x_dk dn_164_0_3_ok 2 rfl)))
  (e_Lok (ps_bipush_53 (x_dk dn_164_0_3_ok 3 rfl))))))
  (e_Tok2
  (e_Tok2
  (e_Lok (lk_8_201 ho_164 (x_dk dn_164_0_3_ok 4 rfl)))
  (e_Tok2
  (e_Lok (e_st (I := eI) (er_ifeq (off := 28) (tg := 189) (x_dk dn_164_0_3_ok 5 rfl) (by decide)) nx_if1))
  (e_Lok (ld_aload_n_0 (x_dk dn_164_0_3_ok 6 rfl)))))
  (e_Tok2
  (e_Lok (lk_8_21g ho_164 (x_dk dn_164_0_3_ok 7 rfl)))
  (e_Tok2
  (e_Lok (ps_iconst_5 (x_dk dn_164_0_3_ok 8 rfl)))
  (e_Lok (ld_aload_n_0 (x_dk dn_164_0_3_ok 9 rfl)))))))
  (e_Tok2
  (e_Tok2
  (e_Tok2
  (e_Lok (lk_8_57g ho_164 (x_dk dn_164_0_3_ok 10 rfl)))
  (e_Tok2
  (e_Lok (sm_iadd (x_dk dn_164_0_3_ok 11 rfl)))
  (e_Lok (ps_bipush_50 (x_dk dn_164_0_3_ok 12 rfl)))))
  (e_Tok2
  (e_Lok (sm_isub (x_dk dn_164_0_3_ok 13 rfl)))
  (e_Tok2
  (e_Lok (ps_iconst_0 (x_dk dn_164_0_3_ok 14 rfl)))
  (e_Lok (lk_8_198 ho_164 (x_dk dn_164_0_3_ok 15 rfl))))))
  (e_Tok2
  (e_Tok2
  (e_Lok (e_st (I := eI) (er_pop (x_dk dn_164_0_3_ok 16 rfl)) (nx_stk bf_pop)))
  (e_Tok2
  (e_Lok (ld_aload_n_0 (x_dk dn_164_0_3_ok 17 rfl)))
  (e_Lok (lk_8_54 ho_164 (x_dk dn_164_0_3_ok 18 rfl)))))
  (e_Tok2
  (e_Tok2
  (e_Lok (e_st (I := eI) (er_goto (off := 7) (tg := 193) (x_dk dn_164_0_3_ok 19 rfl) (by decide)) nx_goto))
  (e_Lok (ld_aload_n_0 (x_dk dn_164_0_3_ok 20 rfl))))
  (e_Tok2
  (e_Lok (lk_8_278 ho_164 (x_dk dn_164_0_3_ok 21 rfl)))
  (e_Lok (e_rt (I := eI) (k := 0) ⟨(x_dk dn_164_0_3_ok 22 rfl), rfl⟩)))))))
def te_164 : Nat → eE := (e_T 96 (e_T 45 te_164_0 te_164_24) (e_T 143 te_164_49 te_164_73))
theorem te_164_ok : ∀ pc, e_EOq eft cls elay eI n_164 pc (te_164 pc) := (e_Tok2 ((e_Tok2 (te_164_0_ok) (te_164_24_ok))) ((e_Tok2 (te_164_49_ok) (te_164_73_ok))))
theorem ho_165 : (xm_y n_165).cls = "RobotCellHouse$Reader" := rfl
def dn_165_0_0 : List (Nat × Instr × Nat) := [(0, .aload_n 0, 1), (1, .getfield 57, 3), (4, .bipush 16, 2), (6, .if_icmp .eq 8, 3), (9, .aload_n 0, 1), (10, .invokevirtual 66, 3), (13, .return_, 1), (14, .aload_n 0, 1), (15, .invokevirtual 251, 3), (18, .ifCond .ne 4, 3), (21, .return_, 1), (22, .aload_n 0, 1), (23, .invokevirtual 54, 3), (26, .aload_n 0, 1), (27, .invokevirtual 245, 3), (30, .aload_n 0, 1), (31, .bipush 17, 2), (33, .invokevirtual 180, 3), (36, .aload_n 0, 1), (37, .dup, 1), (38, .getfield 42, 3), (41, .iconst 1, 1), (42, .isub, 1), (43, .putfield 42, 3), (46, .return_, 1)]
set_option maxRecDepth 20000 in
theorem dn_165_0_0_ok : dn_165_0_0.all (fun q => decide (decode (xm_b n_165) q.1 = .ok (q.2.1, q.2.2))) = true := xa_g_ok (by decide +kernel)
def te_165_0 : Nat → eE := (e_T 22 (e_T 10 (e_T 4 (e_T 0 (e_L 0 (0, ei_load 0 2 1, 0, 0)) (e_T 1 (e_L 1 (0, ei_getf eft elay 8 5 4, 0, 0)) (e_L 4 (0, ei_push (0, 16) 6, 0, 0)))) (e_T 6 (e_L 6 (0, ei_if2 0 14 9, 0, 0)) (e_T 9 (e_L 9 (0, ei_load 0 2 10, 0, 0)) (e_L 10 (2, e_nof, 130, 1))))) (e_T 15 (e_T 13 (e_L 13 (1, e_nof, 0, 0)) (e_T 14 (e_L 14 (0, ei_load 0 2 15, 0, 0)) (e_L 15 (2, e_nof, 132, 1)))) (e_T 18 (e_L 18 (0, ei_if1 1 22 21, 0, 0)) (e_T 21 (e_L 21 (1, e_nof, 0, 0)) (e_L 22 (0, ei_load 0 2 23, 0, 0)))))) (e_T 33 (e_T 27 (e_T 23 (e_L 23 (2, e_nof, 123, 1)) (e_T 26 (e_L 26 (0, ei_load 0 2 27, 0, 0)) (e_L 27 (2, e_nof, 158, 1)))) (e_T 30 (e_L 30 (0, ei_load 0 2 31, 0, 0)) (e_T 31 (e_L 31 (0, ei_push (0, 17) 33, 0, 0)) (e_L 33 (2, e_nof, 129, 2))))) (e_T 38 (e_T 36 (e_L 36 (0, ei_load 0 2 37, 0, 0)) (e_T 37 (e_L 37 (0, ei_stk ef_dup 38, 0, 0)) (e_L 38 (0, ei_getf eft elay 8 11 41, 0, 0)))) (e_T 42 (e_T 41 (e_L 41 (0, ei_push (0, 1) 42, 0, 0)) (e_L 42 (0, ei_bin eF_sub 43, 0, 0))) (e_T 43 (e_L 43 (0, ei_putf eft elay 8 11 0 46, 0, 0)) (e_L 46 (1, e_nof, 0, 0)))))))
set_option maxRecDepth 20000 in
set_option maxHeartbeats 4000000 in
theorem te_165_0_ok : ∀ pc, e_EOq eft cls elay eI n_165 pc (te_165_0 pc) :=
  (e_Tok2
  (e_Tok2
  (e_Tok2
  (e_Tok2
  (e_Lok (ld_aload_n_0 (x_dk dn_165_0_0_ok 0 rfl)))
  (e_Tok2
  (e_Lok (lk_8_57g ho_165 (x_dk dn_165_0_0_ok 1 rfl)))
  (e_Lok (ps_bipush_16 (x_dk dn_165_0_0_ok 2 rfl)))))
  (e_Tok2
  (e_Lok (e_st (I := eI) (er_icmpeq (off := 8) (tg := 14) (x_dk dn_165_0_0_ok 3 rfl) (by decide)) nx_if2))
  (e_Tok2
  (e_Lok (ld_aload_n_0 (x_dk dn_165_0_0_ok 4 rfl)))
  (e_Lok (lk_8_66 ho_165 (x_dk dn_165_0_0_ok 5 rfl))))))
  (e_Tok2
  (e_Tok2
  (e_Lok (e_rt (I := eI) (k := 0) ⟨(x_dk dn_165_0_0_ok 6 rfl), rfl⟩))
  (e_Tok2
  (e_Lok (ld_aload_n_0 (x_dk dn_165_0_0_ok 7 rfl)))
  (e_Lok (lk_8_251 ho_165 (x_dk dn_165_0_0_ok 8 rfl)))))
  (e_Tok2
  (e_Lok (e_st (I := eI) (er_ifne (off := 4) (tg := 22) (x_dk dn_165_0_0_ok 9 rfl) (by decide)) nx_if1))
  (e_Tok2
  (e_Lok (e_rt (I := eI) (k := 0) ⟨(x_dk dn_165_0_0_ok 10 rfl), rfl⟩))
  (e_Lok (ld_aload_n_0 (x_dk dn_165_0_0_ok 11 rfl)))))))
  (e_Tok2
  (e_Tok2
  (e_Tok2
  (e_Lok (lk_8_54 ho_165 (x_dk dn_165_0_0_ok 12 rfl)))
  (e_Tok2
  (e_Lok (ld_aload_n_0 (x_dk dn_165_0_0_ok 13 rfl)))
  (e_Lok (lk_8_245 ho_165 (x_dk dn_165_0_0_ok 14 rfl)))))
  (e_Tok2
  (e_Lok (ld_aload_n_0 (x_dk dn_165_0_0_ok 15 rfl)))
  (e_Tok2
  (e_Lok (ps_bipush_17 (x_dk dn_165_0_0_ok 16 rfl)))
  (e_Lok (lk_8_180 ho_165 (x_dk dn_165_0_0_ok 17 rfl))))))
  (e_Tok2
  (e_Tok2
  (e_Lok (ld_aload_n_0 (x_dk dn_165_0_0_ok 18 rfl)))
  (e_Tok2
  (e_Lok (e_st (I := eI) (er_dup (x_dk dn_165_0_0_ok 19 rfl)) (nx_stk bf_dup)))
  (e_Lok (lk_8_42g ho_165 (x_dk dn_165_0_0_ok 20 rfl)))))
  (e_Tok2
  (e_Tok2
  (e_Lok (ps_iconst_1 (x_dk dn_165_0_0_ok 21 rfl)))
  (e_Lok (sm_isub (x_dk dn_165_0_0_ok 22 rfl))))
  (e_Tok2
  (e_Lok (lk_8_42p ho_165 (x_dk dn_165_0_0_ok 23 rfl)))
  (e_Lok (e_rt (I := eI) (k := 0) ⟨(x_dk dn_165_0_0_ok 24 rfl), rfl⟩)))))))
def te_165 : Nat → eE := te_165_0
theorem te_165_ok : ∀ pc, e_EOq eft cls elay eI n_165 pc (te_165 pc) := te_165_0_ok
theorem ho_166 : (xm_y n_166).cls = "RobotCellHouse$Reader" := rfl
def dn_166_0_0 : List (Nat × Instr × Nat) := [(0, .aload_n 0, 1), (1, .getfield 132, 3), (4, .bipush 16, 2), (6, .ishr, 1), (7, .istore_n 1, 1), (8, .iload_n 1, 1), (9, .ifCond .ne 19, 3), (12, .aload_n 0, 1), (13, .getfield 21, 3), (16, .iconst 0, 1), (17, .aload_n 0, 1), (18, .getfield 132, 3), (21, .invokevirtual 198, 3), (24, .pop, 1), (25, .goto 30, 3), (28, .aload_n 0, 1), (29, .getfield 21, 3), (32, .iconst 0, 1), (33, .iload_n 1, 1), (34, .invokevirtual 198, 3), (37, .pop, 1), (38, .aload_n 0, 1), (39, .getfield 21, 3), (42, .iconst 1, 1), (43, .aload_n 0, 1)]
set_option maxRecDepth 20000 in
theorem dn_166_0_0_ok : dn_166_0_0.all (fun q => decide (decode (xm_b n_166) q.1 = .ok (q.2.1, q.2.2))) = true := xa_g_ok (by decide +kernel)
def dn_166_0_1 : List (Nat × Instr × Nat) := [(44, .getfield 132, 3), (47, .ldc_w 281, 3), (50, .iand, 1), (51, .invokevirtual 198, 3), (54, .pop, 1), (55, .return_, 1)]
set_option maxRecDepth 20000 in
theorem dn_166_0_1_ok : dn_166_0_1.all (fun q => decide (decode (xm_b n_166) q.1 = .ok (q.2.1, q.2.2))) = true := xa_g_ok (by decide +kernel)
def te_166_0 : Nat → eE := (e_T 25 (e_T 9 (e_T 4 (e_T 0 (e_L 0 (0, ei_load 0 2 1, 0, 0)) (e_T 1 (e_L 1 (0, ei_getf eft elay 8 8 4, 0, 0)) (e_L 4 (0, ei_push (0, 16) 6, 0, 0)))) (e_T 7 (e_T 6 (e_L 6 (0, ei_bin (eB (fun x y => x >>> (y &&& 31))) 7, 0, 0)) (e_L 7 (0, ei_stor 1 0 8, 0, 0))) (e_T 8 (e_L 8 (0, ei_load 1 0 9, 0, 0)) (e_L 9 (0, ei_if1 1 28 12, 0, 0))))) (e_T 17 (e_T 13 (e_T 12 (e_L 12 (0, ei_load 0 2 13, 0, 0)) (e_L 13 (0, ei_getf eft elay 8 3 16, 0, 0))) (e_T 16 (e_L 16 (0, ei_push (0, 0) 17, 0, 0)) (e_L 17 (0, ei_load 0 2 18, 0, 0)))) (e_T 21 (e_T 18 (e_L 18 (0, ei_getf eft elay 8 8 21, 0, 0)) (e_L 21 (2, e_nof, 21, 3))) (e_T 24 (e_L 24 (0, ei_stk ef_pop 25, 0, 0)) (e_L 25 (0, ei_goto 55, 0, 0)))))) (e_T 39 (e_T 33 (e_T 29 (e_T 28 (e_L 28 (0, ei_load 0 2 29, 0, 0)) (e_L 29 (0, ei_getf eft elay 8 3 32, 0, 0))) (e_T 32 (e_L 32 (0, ei_push (0, 0) 33, 0, 0)) (e_L 33 (0, ei_load 1 0 34, 0, 0)))) (e_T 37 (e_T 34 (e_L 34 (2, e_nof, 21, 3)) (e_L 37 (0, ei_stk ef_pop 38, 0, 0))) (e_T 38 (e_L 38 (0, ei_load 0 2 39, 0, 0)) (e_L 39 (0, ei_getf eft elay 8 3 42, 0, 0))))) (e_T 47 (e_T 43 (e_T 42 (e_L 42 (0, ei_push (0, 1) 43, 0, 0)) (e_L 43 (0, ei_load 0 2 44, 0, 0))) (e_T 44 (e_L 44 (0, ei_getf eft elay 8 8 47, 0, 0)) (e_L 47 (0, ei_push (0, 65535) 50, 0, 0)))) (e_T 51 (e_T 50 (e_L 50 (0, ei_bin (eB (fun x y => x &&& y)) 51, 0, 0)) (e_L 51 (2, e_nof, 21, 3))) (e_T 54 (e_L 54 (0, ei_stk ef_pop 55, 0, 0)) (e_L 55 (1, e_nof, 0, 0)))))))
set_option maxRecDepth 20000 in
set_option maxHeartbeats 4000000 in
theorem te_166_0_ok : ∀ pc, e_EOq eft cls elay eI n_166 pc (te_166_0 pc) :=
  (e_Tok2
  (e_Tok2
  (e_Tok2
  (e_Tok2
  (e_Lok (ld_aload_n_0 (x_dk dn_166_0_0_ok 0 rfl)))
  (e_Tok2
  (e_Lok (lk_8_132g ho_166 (x_dk dn_166_0_0_ok 1 rfl)))
  (e_Lok (ps_bipush_16 (x_dk dn_166_0_0_ok 2 rfl)))))
  (e_Tok2
  (e_Tok2
  (e_Lok (e_st (I := eI) (er_ishr (x_dk dn_166_0_0_ok 3 rfl)) nx_bin))
  (e_Lok (e_st (I := eI) (er_istore_n (i := 1) (x_dk dn_166_0_0_ok 4 rfl) (by decide +kernel)) nx_stor)))
  (e_Tok2
  (e_Lok (ld_iload_n_1 (x_dk dn_166_0_0_ok 5 rfl)))
  (e_Lok (e_st (I := eI) (er_ifne (off := 19) (tg := 28) (x_dk dn_166_0_0_ok 6 rfl) (by decide)) nx_if1)))))
  (e_Tok2
  (e_Tok2
  (e_Tok2
  (e_Lok (ld_aload_n_0 (x_dk dn_166_0_0_ok 7 rfl)))
  (e_Lok (lk_8_21g ho_166 (x_dk dn_166_0_0_ok 8 rfl))))
  (e_Tok2
  (e_Lok (ps_iconst_0 (x_dk dn_166_0_0_ok 9 rfl)))
  (e_Lok (ld_aload_n_0 (x_dk dn_166_0_0_ok 10 rfl)))))
  (e_Tok2
  (e_Tok2
  (e_Lok (lk_8_132g ho_166 (x_dk dn_166_0_0_ok 11 rfl)))
  (e_Lok (lk_8_198 ho_166 (x_dk dn_166_0_0_ok 12 rfl))))
  (e_Tok2
  (e_Lok (e_st (I := eI) (er_pop (x_dk dn_166_0_0_ok 13 rfl)) (nx_stk bf_pop)))
  (e_Lok (e_st (I := eI) (er_goto (off := 30) (tg := 55) (x_dk dn_166_0_0_ok 14 rfl) (by decide)) nx_goto))))))
  (e_Tok2
  (e_Tok2
  (e_Tok2
  (e_Tok2
  (e_Lok (ld_aload_n_0 (x_dk dn_166_0_0_ok 15 rfl)))
  (e_Lok (lk_8_21g ho_166 (x_dk dn_166_0_0_ok 16 rfl))))
  (e_Tok2
  (e_Lok (ps_iconst_0 (x_dk dn_166_0_0_ok 17 rfl)))
  (e_Lok (ld_iload_n_1 (x_dk dn_166_0_0_ok 18 rfl)))))
  (e_Tok2
  (e_Tok2
  (e_Lok (lk_8_198 ho_166 (x_dk dn_166_0_0_ok 19 rfl)))
  (e_Lok (e_st (I := eI) (er_pop (x_dk dn_166_0_0_ok 20 rfl)) (nx_stk bf_pop))))
  (e_Tok2
  (e_Lok (ld_aload_n_0 (x_dk dn_166_0_0_ok 21 rfl)))
  (e_Lok (lk_8_21g ho_166 (x_dk dn_166_0_0_ok 22 rfl))))))
  (e_Tok2
  (e_Tok2
  (e_Tok2
  (e_Lok (ps_iconst_1 (x_dk dn_166_0_0_ok 23 rfl)))
  (e_Lok (ld_aload_n_0 (x_dk dn_166_0_0_ok 24 rfl))))
  (e_Tok2
  (e_Lok (lk_8_132g ho_166 (x_dk dn_166_0_1_ok 0 rfl)))
  (e_Lok (e_st (I := eI) (er_ldcw (ix := 281) (z := 65535) (v := 65535) (x_dk dn_166_0_1_ok 1 rfl) (in_t6 (List.mem_of_getElem? (i := 89) rfl) rfl) (by decide)) (nx_push (Or.inl rfl))))))
  (e_Tok2
  (e_Tok2
  (e_Lok (e_st (I := eI) (er_iand (x_dk dn_166_0_1_ok 2 rfl)) nx_bin))
  (e_Lok (lk_8_198 ho_166 (x_dk dn_166_0_1_ok 3 rfl))))
  (e_Tok2
  (e_Lok (e_st (I := eI) (er_pop (x_dk dn_166_0_1_ok 4 rfl)) (nx_stk bf_pop)))
  (e_Lok (e_rt (I := eI) (k := 0) ⟨(x_dk dn_166_0_1_ok 5 rfl), rfl⟩)))))))
def te_166 : Nat → eE := te_166_0
theorem te_166_ok : ∀ pc, e_EOq eft cls elay eI n_166 pc (te_166 pc) := te_166_0_ok
theorem ho_167 : (xm_y n_167).cls = "RobotCellHouse$Shapes" := rfl
def dn_167_0_0 : List (Nat × Instr × Nat) := [(0, .aload_n 0, 1), (1, .getfield 45, 3), (4, .bipush 16, 2), (6, .if_icmp .lt 6, 3), (9, .bipush (-3), 2), (11, .ireturn, 1), (12, .aload_n 0, 1), (13, .getfield 9, 3), (16, .aload_n 0, 1), (17, .getfield 45, 3), (20, .iload_n 1, 1), (21, .iastore, 1), (22, .aload_n 0, 1), (23, .getfield 15, 3), (26, .aload_n 0, 1), (27, .getfield 45, 3), (30, .iload_n 2, 1), (31, .iastore, 1), (32, .aload_n 0, 1), (33, .getfield 18, 3), (36, .aload_n 0, 1), (37, .getfield 45, 3), (40, .iload_n 3, 1), (41, .iastore, 1), (42, .aload_n 0, 1)]
set_option maxRecDepth 20000 in
theorem dn_167_0_0_ok : dn_167_0_0.all (fun q => decide (decode (xm_b n_167) q.1 = .ok (q.2.1, q.2.2))) = true := xa_g_ok (by decide +kernel)
def dn_167_0_1 : List (Nat × Instr × Nat) := [(43, .getfield 21, 3), (46, .aload_n 0, 1), (47, .getfield 45, 3), (50, .iload 4, 2), (52, .iastore, 1), (53, .aload_n 0, 1), (54, .getfield 24, 3), (57, .aload_n 0, 1), (58, .getfield 45, 3), (61, .iload 5, 2), (63, .iastore, 1), (64, .aload_n 0, 1), (65, .dup, 1), (66, .getfield 45, 3), (69, .iconst 1, 1), (70, .iadd, 1), (71, .putfield 45, 3), (74, .aload_n 0, 1), (75, .getfield 45, 3), (78, .iconst 1, 1), (79, .isub, 1), (80, .ireturn, 1)]
set_option maxRecDepth 20000 in
theorem dn_167_0_1_ok : dn_167_0_1.all (fun q => decide (decode (xm_b n_167) q.1 = .ok (q.2.1, q.2.2))) = true := xa_g_ok (by decide +kernel)
def te_167_0 : Nat → eE := (e_T 20 (e_T 9 (e_T 1 (e_T 0 (e_L 0 (0, ei_load 0 2 1, 0, 0)) (e_L 1 (0, ei_getf eft elay 9 0 4, 0, 0))) (e_T 4 (e_L 4 (0, ei_push (0, 16) 6, 0, 0)) (e_T 6 (e_L 6 (0, ei_if2 2 12 9, 0, 0)) (e_L 9 (0, ei_push (0, (-3)) 11, 0, 0))))) (e_T 13 (e_T 11 (e_L 11 (1, e_nof, 1, 0)) (e_T 12 (e_L 12 (0, ei_load 0 2 13, 0, 0)) (e_L 13 (0, ei_getf eft elay 9 2 16, 0, 0)))) (e_T 16 (e_L 16 (0, ei_load 0 2 17, 0, 0)) (e_T 17 (e_L 17 (0, ei_getf eft elay 9 0 20, 0, 0)) (e_L 20 (0, ei_load 1 0 21, 0, 0)))))) (e_T 30 (e_T 23 (e_T 21 (e_L 21 (0, ei_ast elay false 22, 0, 0)) (e_T 22 (e_L 22 (0, ei_load 0 2 23, 0, 0)) (e_L 23 (0, ei_getf eft elay 9 3 26, 0, 0)))) (e_T 26 (e_L 26 (0, ei_load 0 2 27, 0, 0)) (e_T 27 (e_L 27 (0, ei_getf eft elay 9 0 30, 0, 0)) (e_L 30 (0, ei_load 2 0 31, 0, 0))))) (e_T 33 (e_T 31 (e_L 31 (0, ei_ast elay false 32, 0, 0)) (e_T 32 (e_L 32 (0, ei_load 0 2 33, 0, 0)) (e_L 33 (0, ei_getf eft elay 9 4 36, 0, 0)))) (e_T 36 (e_L 36 (0, ei_load 0 2 37, 0, 0)) (e_T 37 (e_L 37 (0, ei_getf eft elay 9 0 40, 0, 0)) (e_L 40 (0, ei_load 3 0 41, 0, 0)))))))
set_option maxRecDepth 20000 in
set_option maxHeartbeats 4000000 in
theorem te_167_0_ok : ∀ pc, e_EOq eft cls elay eI n_167 pc (te_167_0 pc) :=
  (e_Tok2
  (e_Tok2
  (e_Tok2
  (e_Tok2
  (e_Lok (ld_aload_n_0 (x_dk dn_167_0_0_ok 0 rfl)))
  (e_Lok (lk_9_45g ho_167 (x_dk dn_167_0_0_ok 1 rfl))))
  (e_Tok2
  (e_Lok (ps_bipush_16 (x_dk dn_167_0_0_ok 2 rfl)))
  (e_Tok2
  (e_Lok (e_st (I := eI) (er_icmplt (off := 6) (tg := 12) (x_dk dn_167_0_0_ok 3 rfl) (by decide)) nx_if2))
  (e_Lok (ps_bipush_m3 (x_dk dn_167_0_0_ok 4 rfl))))))
  (e_Tok2
  (e_Tok2
  (e_Lok (e_rt (I := eI) (k := 1) ⟨(x_dk dn_167_0_0_ok 5 rfl), rfl⟩))
  (e_Tok2
  (e_Lok (ld_aload_n_0 (x_dk dn_167_0_0_ok 6 rfl)))
  (e_Lok (lk_9_9g ho_167 (x_dk dn_167_0_0_ok 7 rfl)))))
  (e_Tok2
  (e_Lok (ld_aload_n_0 (x_dk dn_167_0_0_ok 8 rfl)))
  (e_Tok2
  (e_Lok (lk_9_45g ho_167 (x_dk dn_167_0_0_ok 9 rfl)))
  (e_Lok (ld_iload_n_1 (x_dk dn_167_0_0_ok 10 rfl)))))))
  (e_Tok2
  (e_Tok2
  (e_Tok2
  (e_Lok (sm_iastore (x_dk dn_167_0_0_ok 11 rfl)))
  (e_Tok2
  (e_Lok (ld_aload_n_0 (x_dk dn_167_0_0_ok 12 rfl)))
  (e_Lok (lk_9_15g ho_167 (x_dk dn_167_0_0_ok 13 rfl)))))
  (e_Tok2
  (e_Lok (ld_aload_n_0 (x_dk dn_167_0_0_ok 14 rfl)))
  (e_Tok2
  (e_Lok (lk_9_45g ho_167 (x_dk dn_167_0_0_ok 15 rfl)))
  (e_Lok (ld_iload_n_2 (x_dk dn_167_0_0_ok 16 rfl))))))
  (e_Tok2
  (e_Tok2
  (e_Lok (sm_iastore (x_dk dn_167_0_0_ok 17 rfl)))
  (e_Tok2
  (e_Lok (ld_aload_n_0 (x_dk dn_167_0_0_ok 18 rfl)))
  (e_Lok (lk_9_18g ho_167 (x_dk dn_167_0_0_ok 19 rfl)))))
  (e_Tok2
  (e_Lok (ld_aload_n_0 (x_dk dn_167_0_0_ok 20 rfl)))
  (e_Tok2
  (e_Lok (lk_9_45g ho_167 (x_dk dn_167_0_0_ok 21 rfl)))
  (e_Lok (ld_iload_n_3 (x_dk dn_167_0_0_ok 22 rfl))))))))
def te_167_23 : Nat → eE := (e_T 61 (e_T 50 (e_T 43 (e_T 41 (e_L 41 (0, ei_ast elay false 42, 0, 0)) (e_T 42 (e_L 42 (0, ei_load 0 2 43, 0, 0)) (e_L 43 (0, ei_getf eft elay 9 5 46, 0, 0)))) (e_T 46 (e_L 46 (0, ei_load 0 2 47, 0, 0)) (e_T 47 (e_L 47 (0, ei_getf eft elay 9 0 50, 0, 0)) (e_L 50 (0, ei_load 4 0 52, 0, 0))))) (e_T 54 (e_T 52 (e_L 52 (0, ei_ast elay false 53, 0, 0)) (e_T 53 (e_L 53 (0, ei_load 0 2 54, 0, 0)) (e_L 54 (0, ei_getf eft elay 9 6 57, 0, 0)))) (e_T 57 (e_L 57 (0, ei_load 0 2 58, 0, 0)) (e_T 58 (e_L 58 (0, ei_getf eft elay 9 0 61, 0, 0)) (e_L 61 (0, ei_load 5 0 63, 0, 0)))))) (e_T 70 (e_T 65 (e_T 63 (e_L 63 (0, ei_ast elay false 64, 0, 0)) (e_T 64 (e_L 64 (0, ei_load 0 2 65, 0, 0)) (e_L 65 (0, ei_stk ef_dup 66, 0, 0)))) (e_T 66 (e_L 66 (0, ei_getf eft elay 9 0 69, 0, 0)) (e_T 69 (e_L 69 (0, ei_push (0, 1) 70, 0, 0)) (e_L 70 (0, ei_bin eF_add 71, 0, 0))))) (e_T 75 (e_T 71 (e_L 71 (0, ei_putf eft elay 9 0 0 74, 0, 0)) (e_T 74 (e_L 74 (0, ei_load 0 2 75, 0, 0)) (e_L 75 (0, ei_getf eft elay 9 0 78, 0, 0)))) (e_T 78 (e_L 78 (0, ei_push (0, 1) 79, 0, 0)) (e_T 79 (e_L 79 (0, ei_bin eF_sub 80, 0, 0)) (e_L 80 (1, e_nof, 1, 0)))))))
set_option maxRecDepth 20000 in
set_option maxHeartbeats 4000000 in
theorem te_167_23_ok : ∀ pc, e_EOq eft cls elay eI n_167 pc (te_167_23 pc) :=
  (e_Tok2
  (e_Tok2
  (e_Tok2
  (e_Tok2
  (e_Lok (sm_iastore (x_dk dn_167_0_0_ok 23 rfl)))
  (e_Tok2
  (e_Lok (ld_aload_n_0 (x_dk dn_167_0_0_ok 24 rfl)))
  (e_Lok (lk_9_21g ho_167 (x_dk dn_167_0_1_ok 0 rfl)))))
  (e_Tok2
  (e_Lok (ld_aload_n_0 (x_dk dn_167_0_1_ok 1 rfl)))
  (e_Tok2
  (e_Lok (lk_9_45g ho_167 (x_dk dn_167_0_1_ok 2 rfl)))
  (e_Lok (ld_iload_4 (x_dk dn_167_0_1_ok 3 rfl))))))
  (e_Tok2
  (e_Tok2
  (e_Lok (sm_iastore (x_dk dn_167_0_1_ok 4 rfl)))
  (e_Tok2
  (e_Lok (ld_aload_n_0 (x_dk dn_167_0_1_ok 5 rfl)))
  (e_Lok (lk_9_24g ho_167 (x_dk dn_167_0_1_ok 6 rfl)))))
  (e_Tok2
  (e_Lok (ld_aload_n_0 (x_dk dn_167_0_1_ok 7 rfl)))
  (e_Tok2
  (e_Lok (lk_9_45g ho_167 (x_dk dn_167_0_1_ok 8 rfl)))
  (e_Lok (ld_iload_5 (x_dk dn_167_0_1_ok 9 rfl)))))))
  (e_Tok2
  (e_Tok2
  (e_Tok2
  (e_Lok (sm_iastore (x_dk dn_167_0_1_ok 10 rfl)))
  (e_Tok2
  (e_Lok (ld_aload_n_0 (x_dk dn_167_0_1_ok 11 rfl)))
  (e_Lok (e_st (I := eI) (er_dup (x_dk dn_167_0_1_ok 12 rfl)) (nx_stk bf_dup)))))
  (e_Tok2
  (e_Lok (lk_9_45g ho_167 (x_dk dn_167_0_1_ok 13 rfl)))
  (e_Tok2
  (e_Lok (ps_iconst_1 (x_dk dn_167_0_1_ok 14 rfl)))
  (e_Lok (sm_iadd (x_dk dn_167_0_1_ok 15 rfl))))))
  (e_Tok2
  (e_Tok2
  (e_Lok (lk_9_45p ho_167 (x_dk dn_167_0_1_ok 16 rfl)))
  (e_Tok2
  (e_Lok (ld_aload_n_0 (x_dk dn_167_0_1_ok 17 rfl)))
  (e_Lok (lk_9_45g ho_167 (x_dk dn_167_0_1_ok 18 rfl)))))
  (e_Tok2
  (e_Lok (ps_iconst_1 (x_dk dn_167_0_1_ok 19 rfl)))
  (e_Tok2
  (e_Lok (sm_isub (x_dk dn_167_0_1_ok 20 rfl)))
  (e_Lok (e_rt (I := eI) (k := 1) ⟨(x_dk dn_167_0_1_ok 21 rfl), rfl⟩)))))))
def te_167 : Nat → eE := (e_T 40 te_167_0 te_167_23)
theorem te_167_ok : ∀ pc, e_EOq eft cls elay eI n_167 pc (te_167 pc) := (e_Tok2 (te_167_0_ok) (te_167_23_ok))
theorem ho_168 : (xm_y n_168).cls = "RobotCellHouse$Shapes" := rfl
def dn_168_0_0 : List (Nat × Instr × Nat) := [(0, .aload_n 0, 1), (1, .getfield 49, 3), (4, .bipush 8, 2), (6, .if_icmp .lt 6, 3), (9, .bipush (-3), 2), (11, .ireturn, 1), (12, .aload_n 0, 1), (13, .getfield 27, 3), (16, .aload_n 0, 1), (17, .getfield 49, 3), (20, .iload_n 1, 1), (21, .iastore, 1), (22, .aload_n 0, 1), (23, .getfield 33, 3), (26, .aload_n 0, 1), (27, .getfield 49, 3), (30, .iload_n 2, 1), (31, .iastore, 1), (32, .aload_n 0, 1), (33, .getfield 36, 3), (36, .aload_n 0, 1), (37, .getfield 49, 3), (40, .iload_n 3, 1), (41, .iastore, 1), (42, .aload_n 0, 1)]
set_option maxRecDepth 20000 in
theorem dn_168_0_0_ok : dn_168_0_0.all (fun q => decide (decode (xm_b n_168) q.1 = .ok (q.2.1, q.2.2))) = true := xa_g_ok (by decide +kernel)
def dn_168_0_1 : List (Nat × Instr × Nat) := [(43, .getfield 39, 3), (46, .aload_n 0, 1), (47, .getfield 49, 3), (50, .iload_n 2, 1), (51, .iload 4, 2), (53, .iadd, 1), (54, .iastore, 1), (55, .aload_n 0, 1), (56, .getfield 42, 3), (59, .aload_n 0, 1), (60, .getfield 49, 3), (63, .iload_n 3, 1), (64, .iload 5, 2), (66, .iadd, 1), (67, .iastore, 1), (68, .aload_n 0, 1), (69, .getfield 30, 3), (72, .aload_n 0, 1), (73, .getfield 49, 3), (76, .iconst (-1), 1), (77, .iastore, 1), (78, .aload_n 0, 1), (79, .dup, 1), (80, .getfield 49, 3), (83, .iconst 1, 1)]
set_option maxRecDepth 20000 in
theorem dn_168_0_1_ok : dn_168_0_1.all (fun q => decide (decode (xm_b n_168) q.1 = .ok (q.2.1, q.2.2))) = true := xa_g_ok (by decide +kernel)
def dn_168_0_2 : List (Nat × Instr × Nat) := [(84, .iadd, 1), (85, .putfield 49, 3), (88, .aload_n 0, 1), (89, .getfield 49, 3), (92, .iconst 1, 1), (93, .isub, 1), (94, .ireturn, 1)]
set_option maxRecDepth 20000 in
theorem dn_168_0_2_ok : dn_168_0_2.all (fun q => decide (decode (xm_b n_168) q.1 = .ok (q.2.1, q.2.2))) = true := xa_g_ok (by decide +kernel)
def te_168_0 : Nat → eE := (e_T 23 (e_T 12 (e_T 4 (e_T 0 (e_L 0 (0, ei_load 0 2 1, 0, 0)) (e_T 1 (e_L 1 (0, ei_getf eft elay 9 1 4, 0, 0)) (e_L 4 (0, ei_push (0, 8) 6, 0, 0)))) (e_T 9 (e_T 6 (e_L 6 (0, ei_if2 2 12 9, 0, 0)) (e_L 9 (0, ei_push (0, (-3)) 11, 0, 0))) (e_T 11 (e_L 11 (1, e_nof, 1, 0)) (e_L 12 (0, ei_load 0 2 13, 0, 0))))) (e_T 17 (e_T 13 (e_L 13 (0, ei_getf eft elay 9 7 16, 0, 0)) (e_T 16 (e_L 16 (0, ei_load 0 2 17, 0, 0)) (e_L 17 (0, ei_getf eft elay 9 1 20, 0, 0)))) (e_T 21 (e_T 20 (e_L 20 (0, ei_load 1 0 21, 0, 0)) (e_L 21 (0, ei_ast elay false 22, 0, 0))) (e_T 22 (e_L 22 (0, ei_load 0 2 23, 0, 0)) (e_L 23 (0, ei_getf eft elay 9 9 26, 0, 0)))))) (e_T 36 (e_T 30 (e_T 26 (e_L 26 (0, ei_load 0 2 27, 0, 0)) (e_T 27 (e_L 27 (0, ei_getf eft elay 9 1 30, 0, 0)) (e_L 30 (0, ei_load 2 0 31, 0, 0)))) (e_T 32 (e_T 31 (e_L 31 (0, ei_ast elay false 32, 0, 0)) (e_L 32 (0, ei_load 0 2 33, 0, 0))) (e_T 33 (e_L 33 (0, ei_getf eft elay 9 10 36, 0, 0)) (e_L 36 (0, ei_load 0 2 37, 0, 0))))) (e_T 41 (e_T 37 (e_L 37 (0, ei_getf eft elay 9 1 40, 0, 0)) (e_T 40 (e_L 40 (0, ei_load 3 0 41, 0, 0)) (e_L 41 (0, ei_ast elay false 42, 0, 0)))) (e_T 43 (e_T 42 (e_L 42 (0, ei_load 0 2 43, 0, 0)) (e_L 43 (0, ei_getf eft elay 9 11 46, 0, 0))) (e_T 46 (e_L 46 (0, ei_load 0 2 47, 0, 0)) (e_L 47 (0, ei_getf eft elay 9 1 50, 0, 0)))))))
set_option maxRecDepth 20000 in
set_option maxHeartbeats 4000000 in
theorem te_168_0_ok : ∀ pc, e_EOq eft cls elay eI n_168 pc (te_168_0 pc) :=
  (e_Tok2
  (e_Tok2
  (e_Tok2
  (e_Tok2
  (e_Lok (ld_aload_n_0 (x_dk dn_168_0_0_ok 0 rfl)))
  (e_Tok2
  (e_Lok (lk_9_49g ho_168 (x_dk dn_168_0_0_ok 1 rfl)))
  (e_Lok (ps_bipush_8 (x_dk dn_168_0_0_ok 2 rfl)))))
  (e_Tok2
  (e_Tok2
  (e_Lok (e_st (I := eI) (er_icmplt (off := 6) (tg := 12) (x_dk dn_168_0_0_ok 3 rfl) (by decide)) nx_if2))
  (e_Lok (ps_bipush_m3 (x_dk dn_168_0_0_ok 4 rfl))))
  (e_Tok2
  (e_Lok (e_rt (I := eI) (k := 1) ⟨(x_dk dn_168_0_0_ok 5 rfl), rfl⟩))
  (e_Lok (ld_aload_n_0 (x_dk dn_168_0_0_ok 6 rfl))))))
  (e_Tok2
  (e_Tok2
  (e_Lok (lk_9_27g ho_168 (x_dk dn_168_0_0_ok 7 rfl)))
  (e_Tok2
  (e_Lok (ld_aload_n_0 (x_dk dn_168_0_0_ok 8 rfl)))
  (e_Lok (lk_9_49g ho_168 (x_dk dn_168_0_0_ok 9 rfl)))))
  (e_Tok2
  (e_Tok2
  (e_Lok (ld_iload_n_1 (x_dk dn_168_0_0_ok 10 rfl)))
  (e_Lok (sm_iastore (x_dk dn_168_0_0_ok 11 rfl))))
  (e_Tok2
  (e_Lok (ld_aload_n_0 (x_dk dn_168_0_0_ok 12 rfl)))
  (e_Lok (lk_9_33g ho_168 (x_dk dn_168_0_0_ok 13 rfl)))))))
  (e_Tok2
  (e_Tok2
  (e_Tok2
  (e_Lok (ld_aload_n_0 (x_dk dn_168_0_0_ok 14 rfl)))
  (e_Tok2
  (e_Lok (lk_9_49g ho_168 (x_dk dn_168_0_0_ok 15 rfl)))
  (e_Lok (ld_iload_n_2 (x_dk dn_168_0_0_ok 16 rfl)))))
  (e_Tok2
  (e_Tok2
  (e_Lok (sm_iastore (x_dk dn_168_0_0_ok 17 rfl)))
  (e_Lok (ld_aload_n_0 (x_dk dn_168_0_0_ok 18 rfl))))
  (e_Tok2
  (e_Lok (lk_9_36g ho_168 (x_dk dn_168_0_0_ok 19 rfl)))
  (e_Lok (ld_aload_n_0 (x_dk dn_168_0_0_ok 20 rfl))))))
  (e_Tok2
  (e_Tok2
  (e_Lok (lk_9_49g ho_168 (x_dk dn_168_0_0_ok 21 rfl)))
  (e_Tok2
  (e_Lok (ld_iload_n_3 (x_dk dn_168_0_0_ok 22 rfl)))
  (e_Lok (sm_iastore (x_dk dn_168_0_0_ok 23 rfl)))))
  (e_Tok2
  (e_Tok2
  (e_Lok (ld_aload_n_0 (x_dk dn_168_0_0_ok 24 rfl)))
  (e_Lok (lk_9_39g ho_168 (x_dk dn_168_0_1_ok 0 rfl))))
  (e_Tok2
  (e_Lok (ld_aload_n_0 (x_dk dn_168_0_1_ok 1 rfl)))
  (e_Lok (lk_9_49g ho_168 (x_dk dn_168_0_1_ok 2 rfl))))))))
def te_168_28 : Nat → eE := (e_T 69 (e_T 59 (e_T 53 (e_T 50 (e_L 50 (0, ei_load 2 0 51, 0, 0)) (e_T 51 (e_L 51 (0, ei_load 4 0 53, 0, 0)) (e_L 53 (0, ei_bin eF_add 54, 0, 0)))) (e_T 55 (e_T 54 (e_L 54 (0, ei_ast elay false 55, 0, 0)) (e_L 55 (0, ei_load 0 2 56, 0, 0))) (e_T 56 (e_L 56 (0, ei_getf eft elay 9 12 59, 0, 0)) (e_L 59 (0, ei_load 0 2 60, 0, 0))))) (e_T 64 (e_T 60 (e_L 60 (0, ei_getf eft elay 9 1 63, 0, 0)) (e_T 63 (e_L 63 (0, ei_load 3 0 64, 0, 0)) (e_L 64 (0, ei_load 5 0 66, 0, 0)))) (e_T 67 (e_T 66 (e_L 66 (0, ei_bin eF_add 67, 0, 0)) (e_L 67 (0, ei_ast elay false 68, 0, 0))) (e_T 68 (e_L 68 (0, ei_load 0 2 69, 0, 0)) (e_L 69 (0, ei_getf eft elay 9 8 72, 0, 0)))))) (e_T 80 (e_T 76 (e_T 72 (e_L 72 (0, ei_load 0 2 73, 0, 0)) (e_T 73 (e_L 73 (0, ei_getf eft elay 9 1 76, 0, 0)) (e_L 76 (0, ei_push (0, (-1)) 77, 0, 0)))) (e_T 78 (e_T 77 (e_L 77 (0, ei_ast elay false 78, 0, 0)) (e_L 78 (0, ei_load 0 2 79, 0, 0))) (e_T 79 (e_L 79 (0, ei_stk ef_dup 80, 0, 0)) (e_L 80 (0, ei_getf eft elay 9 1 83, 0, 0))))) (e_T 88 (e_T 84 (e_T 83 (e_L 83 (0, ei_push (0, 1) 84, 0, 0)) (e_L 84 (0, ei_bin eF_add 85, 0, 0))) (e_T 85 (e_L 85 (0, ei_putf eft elay 9 1 0 88, 0, 0)) (e_L 88 (0, ei_load 0 2 89, 0, 0)))) (e_T 92 (e_T 89 (e_L 89 (0, ei_getf eft elay 9 1 92, 0, 0)) (e_L 92 (0, ei_push (0, 1) 93, 0, 0))) (e_T 93 (e_L 93 (0, ei_bin eF_sub 94, 0, 0)) (e_L 94 (1, e_nof, 1, 0)))))))
set_option maxRecDepth 20000 in
set_option maxHeartbeats 4000000 in
theorem te_168_28_ok : ∀ pc, e_EOq eft cls elay eI n_168 pc (te_168_28 pc) :=
  (e_Tok2
  (e_Tok2
  (e_Tok2
  (e_Tok2
  (e_Lok (ld_iload_n_2 (x_dk dn_168_0_1_ok 3 rfl)))
  (e_Tok2
  (e_Lok (ld_iload_4 (x_dk dn_168_0_1_ok 4 rfl)))
  (e_Lok (sm_iadd (x_dk dn_168_0_1_ok 5 rfl)))))
  (e_Tok2
  (e_Tok2
  (e_Lok (sm_iastore (x_dk dn_168_0_1_ok 6 rfl)))
  (e_Lok (ld_aload_n_0 (x_dk dn_168_0_1_ok 7 rfl))))
  (e_Tok2
  (e_Lok (lk_9_42g ho_168 (x_dk dn_168_0_1_ok 8 rfl)))
  (e_Lok (ld_aload_n_0 (x_dk dn_168_0_1_ok 9 rfl))))))
  (e_Tok2
  (e_Tok2
  (e_Lok (lk_9_49g ho_168 (x_dk dn_168_0_1_ok 10 rfl)))
  (e_Tok2
  (e_Lok (ld_iload_n_3 (x_dk dn_168_0_1_ok 11 rfl)))
  (e_Lok (ld_iload_5 (x_dk dn_168_0_1_ok 12 rfl)))))
  (e_Tok2
  (e_Tok2
  (e_Lok (sm_iadd (x_dk dn_168_0_1_ok 13 rfl)))
  (e_Lok (sm_iastore (x_dk dn_168_0_1_ok 14 rfl))))
  (e_Tok2
  (e_Lok (ld_aload_n_0 (x_dk dn_168_0_1_ok 15 rfl)))
  (e_Lok (lk_9_30g ho_168 (x_dk dn_168_0_1_ok 16 rfl)))))))
  (e_Tok2
  (e_Tok2
  (e_Tok2
  (e_Lok (ld_aload_n_0 (x_dk dn_168_0_1_ok 17 rfl)))
  (e_Tok2
  (e_Lok (lk_9_49g ho_168 (x_dk dn_168_0_1_ok 18 rfl)))
  (e_Lok (ps_iconst_m1 (x_dk dn_168_0_1_ok 19 rfl)))))
  (e_Tok2
  (e_Tok2
  (e_Lok (sm_iastore (x_dk dn_168_0_1_ok 20 rfl)))
  (e_Lok (ld_aload_n_0 (x_dk dn_168_0_1_ok 21 rfl))))
  (e_Tok2
  (e_Lok (e_st (I := eI) (er_dup (x_dk dn_168_0_1_ok 22 rfl)) (nx_stk bf_dup)))
  (e_Lok (lk_9_49g ho_168 (x_dk dn_168_0_1_ok 23 rfl))))))
  (e_Tok2
  (e_Tok2
  (e_Tok2
  (e_Lok (ps_iconst_1 (x_dk dn_168_0_1_ok 24 rfl)))
  (e_Lok (sm_iadd (x_dk dn_168_0_2_ok 0 rfl))))
  (e_Tok2
  (e_Lok (lk_9_49p ho_168 (x_dk dn_168_0_2_ok 1 rfl)))
  (e_Lok (ld_aload_n_0 (x_dk dn_168_0_2_ok 2 rfl)))))
  (e_Tok2
  (e_Tok2
  (e_Lok (lk_9_49g ho_168 (x_dk dn_168_0_2_ok 3 rfl)))
  (e_Lok (ps_iconst_1 (x_dk dn_168_0_2_ok 4 rfl))))
  (e_Tok2
  (e_Lok (sm_isub (x_dk dn_168_0_2_ok 5 rfl)))
  (e_Lok (e_rt (I := eI) (k := 1) ⟨(x_dk dn_168_0_2_ok 6 rfl), rfl⟩)))))))
def te_168 : Nat → eE := (e_T 47 te_168_0 te_168_28)
theorem te_168_ok : ∀ pc, e_EOq eft cls elay eI n_168 pc (te_168 pc) := (e_Tok2 (te_168_0_ok) (te_168_28_ok))
theorem ho_169 : (xm_y n_169).cls = "RobotCellHouse$Shapes" := rfl
def dn_169_0_0 : List (Nat × Instr × Nat) := [(0, .iconst 0, 1), (1, .istore_n 2, 1), (2, .iload_n 2, 1), (3, .aload_n 0, 1), (4, .getfield 49, 3), (7, .if_icmp .ge 49, 3), (10, .aload_n 1, 1), (11, .aload_n 0, 1), (12, .getfield 27, 3), (15, .iload_n 2, 1), (16, .iaload, 1), (17, .aaload, 1), (18, .astore_n 3, 1), (19, .iconst 1, 1), (20, .istore 4, 2), (22, .iload 4, 2), (24, .aload_n 3, 1), (25, .getfield 52, 3), (28, .if_icmp .gt 22, 3), (31, .aload_n 0, 1), (32, .iload_n 2, 1), (33, .aload_n 3, 1), (34, .iload 4, 2), (36, .invokevirtual 57, 3), (39, .ifCond .eq 5, 3)]
set_option maxRecDepth 20000 in
theorem dn_169_0_0_ok : dn_169_0_0.all (fun q => decide (decode (xm_b n_169) q.1 = .ok (q.2.1, q.2.2))) = true := xa_g_ok (by decide +kernel)
def dn_169_0_1 : List (Nat × Instr × Nat) := [(42, .iload_n 2, 1), (43, .ireturn, 1), (44, .iinc 4 1, 3), (47, .goto (-25), 3), (50, .iinc 2 1, 3), (53, .goto (-51), 3), (56, .iconst (-1), 1), (57, .ireturn, 1)]
set_option maxRecDepth 20000 in
theorem dn_169_0_1_ok : dn_169_0_1.all (fun q => decide (decode (xm_b n_169) q.1 = .ok (q.2.1, q.2.2))) = true := xa_g_ok (by decide +kernel)
def te_169_0 : Nat → eE := (e_T 22 (e_T 11 (e_T 3 (e_T 1 (e_T 0 (e_L 0 (0, ei_push (0, 0) 1, 0, 0)) (e_L 1 (0, ei_stor 2 0 2, 0, 0))) (e_T 2 (e_L 2 (0, ei_load 2 0 3, 0, 0)) (e_L 3 (0, ei_load 0 2 4, 0, 0)))) (e_T 7 (e_T 4 (e_L 4 (0, ei_getf eft elay 9 1 7, 0, 0)) (e_L 7 (0, ei_if2 3 56 10, 0, 0))) (e_T 10 (e_L 10 (0, ei_load 1 2 11, 0, 0)) (e_L 11 (0, ei_load 0 2 12, 0, 0))))) (e_T 17 (e_T 15 (e_T 12 (e_L 12 (0, ei_getf eft elay 9 7 15, 0, 0)) (e_L 15 (0, ei_load 2 0 16, 0, 0))) (e_T 16 (e_L 16 (0, ei_ald elay false 17, 0, 0)) (e_L 17 (0, ei_aald elay 18, 0, 0)))) (e_T 19 (e_T 18 (e_L 18 (0, ei_stor 3 2 19, 0, 0)) (e_L 19 (0, ei_push (0, 1) 20, 0, 0))) (e_T 20 (e_L 20 (0, ei_stor 4 0 22, 0, 0)) (e_L 22 (0, ei_load 4 0 24, 0, 0)))))) (e_T 36 (e_T 31 (e_T 25 (e_T 24 (e_L 24 (0, ei_load 3 2 25, 0, 0)) (e_L 25 (0, ei_getf eft elay 0 8 28, 0, 0))) (e_T 28 (e_L 28 (0, ei_if2 4 50 31, 0, 0)) (e_L 31 (0, ei_load 0 2 32, 0, 0)))) (e_T 33 (e_T 32 (e_L 32 (0, ei_load 2 0 33, 0, 0)) (e_L 33 (0, ei_load 3 2 34, 0, 0))) (e_T 34 (e_L 34 (0, ei_load 4 0 36, 0, 0)) (e_L 36 (2, e_nof, 170, 4))))) (e_T 44 (e_T 42 (e_T 39 (e_L 39 (0, ei_if1 0 44 42, 0, 0)) (e_L 42 (0, ei_load 2 0 43, 0, 0))) (e_T 43 (e_L 43 (1, e_nof, 1, 0)) (e_L 44 (0, ei_inc 4 1 47, 0, 0)))) (e_T 50 (e_T 47 (e_L 47 (0, ei_goto 22, 0, 0)) (e_L 50 (0, ei_inc 2 1 53, 0, 0))) (e_T 53 (e_L 53 (0, ei_goto 2, 0, 0)) (e_T 56 (e_L 56 (0, ei_push (0, (-1)) 57, 0, 0)) (e_L 57 (1, e_nof, 1, 0))))))))
set_option maxRecDepth 20000 in
set_option maxHeartbeats 4000000 in
theorem te_169_0_ok : ∀ pc, e_EOq eft cls elay eI n_169 pc (te_169_0 pc) :=
  (e_Tok2
  (e_Tok2
  (e_Tok2
  (e_Tok2
  (e_Tok2
  (e_Lok (ps_iconst_0 (x_dk dn_169_0_0_ok 0 rfl)))
  (e_Lok (e_st (I := eI) (er_istore_n (i := 2) (x_dk dn_169_0_0_ok 1 rfl) (by decide +kernel)) nx_stor)))
  (e_Tok2
  (e_Lok (ld_iload_n_2 (x_dk dn_169_0_0_ok 2 rfl)))
  (e_Lok (ld_aload_n_0 (x_dk dn_169_0_0_ok 3 rfl)))))
  (e_Tok2
  (e_Tok2
  (e_Lok (lk_9_49g ho_169 (x_dk dn_169_0_0_ok 4 rfl)))
  (e_Lok (e_st (I := eI) (er_icmpge (off := 49) (tg := 56) (x_dk dn_169_0_0_ok 5 rfl) (by decide)) nx_if2)))
  (e_Tok2
  (e_Lok (ld_aload_n_1 (x_dk dn_169_0_0_ok 6 rfl)))
  (e_Lok (ld_aload_n_0 (x_dk dn_169_0_0_ok 7 rfl))))))
  (e_Tok2
  (e_Tok2
  (e_Tok2
  (e_Lok (lk_9_27g ho_169 (x_dk dn_169_0_0_ok 8 rfl)))
  (e_Lok (ld_iload_n_2 (x_dk dn_169_0_0_ok 9 rfl))))
  (e_Tok2
  (e_Lok (sm_iaload (x_dk dn_169_0_0_ok 10 rfl)))
  (e_Lok (e_st (I := eI) (er_aaload (x_dk dn_169_0_0_ok 11 rfl)) nx_aald))))
  (e_Tok2
  (e_Tok2
  (e_Lok (e_st (I := eI) (er_astore_n (i := 3) (x_dk dn_169_0_0_ok 12 rfl) (by decide +kernel)) nx_stor))
  (e_Lok (ps_iconst_1 (x_dk dn_169_0_0_ok 13 rfl))))
  (e_Tok2
  (e_Lok (e_st (I := eI) (er_istore (i := 4) (x_dk dn_169_0_0_ok 14 rfl) (by decide +kernel)) nx_stor))
  (e_Lok (ld_iload_4 (x_dk dn_169_0_0_ok 15 rfl)))))))
  (e_Tok2
  (e_Tok2
  (e_Tok2
  (e_Tok2
  (e_Lok (ld_aload_n_3 (x_dk dn_169_0_0_ok 16 rfl)))
  (e_Lok (lk_9_52g ho_169 (x_dk dn_169_0_0_ok 17 rfl))))
  (e_Tok2
  (e_Lok (e_st (I := eI) (er_icmpgt (off := 22) (tg := 50) (x_dk dn_169_0_0_ok 18 rfl) (by decide)) nx_if2))
  (e_Lok (ld_aload_n_0 (x_dk dn_169_0_0_ok 19 rfl)))))
  (e_Tok2
  (e_Tok2
  (e_Lok (ld_iload_n_2 (x_dk dn_169_0_0_ok 20 rfl)))
  (e_Lok (ld_aload_n_3 (x_dk dn_169_0_0_ok 21 rfl))))
  (e_Tok2
  (e_Lok (ld_iload_4 (x_dk dn_169_0_0_ok 22 rfl)))
  (e_Lok (lk_9_57 ho_169 (x_dk dn_169_0_0_ok 23 rfl))))))
  (e_Tok2
  (e_Tok2
  (e_Tok2
  (e_Lok (e_st (I := eI) (er_ifeq (off := 5) (tg := 44) (x_dk dn_169_0_0_ok 24 rfl) (by decide)) nx_if1))
  (e_Lok (ld_iload_n_2 (x_dk dn_169_0_1_ok 0 rfl))))
  (e_Tok2
  (e_Lok (e_rt (I := eI) (k := 1) ⟨(x_dk dn_169_0_1_ok 1 rfl), rfl⟩))
  (e_Lok (e_st (I := eI) (er_iinc (i := 4) (n := 1) (x_dk dn_169_0_1_ok 2 rfl) (by decide +kernel) (by decide)) nx_inc))))
  (e_Tok2
  (e_Tok2
  (e_Lok (e_st (I := eI) (er_goto (off := (-25)) (tg := 22) (x_dk dn_169_0_1_ok 3 rfl) (by decide)) nx_goto))
  (e_Lok (e_st (I := eI) (er_iinc (i := 2) (n := 1) (x_dk dn_169_0_1_ok 4 rfl) (by decide +kernel) (by decide)) nx_inc)))
  (e_Tok2
  (e_Lok (e_st (I := eI) (er_goto (off := (-51)) (tg := 2) (x_dk dn_169_0_1_ok 5 rfl) (by decide)) nx_goto))
  (e_Tok2
  (e_Lok (ps_iconst_m1 (x_dk dn_169_0_1_ok 6 rfl)))
  (e_Lok (e_rt (I := eI) (k := 1) ⟨(x_dk dn_169_0_1_ok 7 rfl), rfl⟩))))))))
def te_169 : Nat → eE := te_169_0
theorem te_169_ok : ∀ pc, e_EOq eft cls elay eI n_169 pc (te_169 pc) := te_169_0_ok
end
