noncomputable section
theorem ho_294 : (xm_y n_294).cls = "RobotCellHouseModel" := rfl
def dn_294_0_0 : List (Nat × Instr × Nat) := [(0, .iload_n 1, 1), (1, .i2l, 1), (2, .lconst 0, 1), (3, .ldc2_w 367, 3), (6, .invokestatic 301, 3), (9, .ifCond .ne 5, 3), (12, .iconst (-1), 1), (13, .ireturn, 1), (14, .aload_n 0, 1), (15, .getfield 265, 3), (18, .ifCond .eq 6, 3), (21, .bipush (-2), 2), (23, .ireturn, 1), (24, .aload_n 0, 1), (25, .getfield 137, 3), (28, .iload_n 1, 1), (29, .iload_n 2, 1), (30, .bastore, 1), (31, .iconst 0, 1), (32, .ireturn, 1)]
set_option maxRecDepth 20000 in
theorem dn_294_0_0_ok : dn_294_0_0.all (fun q => decide (decode (xm_b n_294) q.1 = .ok (q.2.1, q.2.2))) = true := xa_g_ok (by decide +kernel)
def te_294_0 : Nat → eE := (e_T 15 (e_T 6 (e_T 1 (e_T 0 (e_L 0 (0, ei_load 1 0 1, 0, 0)) (e_L 1 (0, ei_un (fun x => (4, x)) 2, 0, 0))) (e_T 2 (e_L 2 (0, ei_push (4, 0) 3, 0, 0)) (e_T 3 (e_L 3 (0, ei_push (4, 7) 6, 0, 0)) (e_L 6 (2, e_nof, 266, 3))))) (e_T 12 (e_T 9 (e_L 9 (0, ei_if1 1 14 12, 0, 0)) (e_L 12 (0, ei_push (0, (-1)) 13, 0, 0))) (e_T 13 (e_L 13 (1, e_nof, 1, 0)) (e_T 14 (e_L 14 (0, ei_load 0 2 15, 0, 0)) (e_L 15 (0, ei_getf eft elay 12 3 18, 0, 0)))))) (e_T 25 (e_T 21 (e_T 18 (e_L 18 (0, ei_if1 0 24 21, 0, 0)) (e_L 21 (0, ei_push (0, (-2)) 23, 0, 0))) (e_T 23 (e_L 23 (1, e_nof, 1, 0)) (e_T 24 (e_L 24 (0, ei_load 0 2 25, 0, 0)) (e_L 25 (0, ei_getf eft elay 12 51 28, 0, 0))))) (e_T 29 (e_T 28 (e_L 28 (0, ei_load 1 0 29, 0, 0)) (e_L 29 (0, ei_load 2 0 30, 0, 0))) (e_T 30 (e_L 30 (0, ei_ast elay true 31, 0, 0)) (e_T 31 (e_L 31 (0, ei_push (0, 0) 32, 0, 0)) (e_L 32 (1, e_nof, 1, 0)))))))
set_option maxRecDepth 20000 in
set_option maxHeartbeats 4000000 in
theorem te_294_0_ok : ∀ pc, e_EOq eft cls elay eI n_294 pc (te_294_0 pc) :=
  (e_Tok2
  (e_Tok2
  (e_Tok2
  (e_Tok2
  (e_Lok (ld_iload_n_1 (x_dk dn_294_0_0_ok 0 rfl)))
  (e_Lok (e_st (I := eI) (er_i2l (x_dk dn_294_0_0_ok 1 rfl)) (nx_un (fun _ => rfl)))))
  (e_Tok2
  (e_Lok (ps_lconst_0 (x_dk dn_294_0_0_ok 2 rfl)))
  (e_Tok2
  (e_Lok (e_st (I := eI) (er_ldc2 (ix := 367) (z := 7) (v := 7) (x_dk dn_294_0_0_ok 3 rfl) (in_t11 (List.mem_of_getElem? (i := 120) rfl) rfl) (by decide)) (nx_push (Or.inl rfl))))
  (e_Lok (lk_12_301 ho_294 (x_dk dn_294_0_0_ok 4 rfl))))))
  (e_Tok2
  (e_Tok2
  (e_Lok (e_st (I := eI) (er_ifne (off := 5) (tg := 14) (x_dk dn_294_0_0_ok 5 rfl) (by decide)) nx_if1))
  (e_Lok (ps_iconst_m1 (x_dk dn_294_0_0_ok 6 rfl))))
  (e_Tok2
  (e_Lok (e_rt (I := eI) (k := 1) ⟨(x_dk dn_294_0_0_ok 7 rfl), rfl⟩))
  (e_Tok2
  (e_Lok (ld_aload_n_0 (x_dk dn_294_0_0_ok 8 rfl)))
  (e_Lok (lk_12_265g ho_294 (x_dk dn_294_0_0_ok 9 rfl)))))))
  (e_Tok2
  (e_Tok2
  (e_Tok2
  (e_Lok (e_st (I := eI) (er_ifeq (off := 6) (tg := 24) (x_dk dn_294_0_0_ok 10 rfl) (by decide)) nx_if1))
  (e_Lok (ps_bipush_m2 (x_dk dn_294_0_0_ok 11 rfl))))
  (e_Tok2
  (e_Lok (e_rt (I := eI) (k := 1) ⟨(x_dk dn_294_0_0_ok 12 rfl), rfl⟩))
  (e_Tok2
  (e_Lok (ld_aload_n_0 (x_dk dn_294_0_0_ok 13 rfl)))
  (e_Lok (lk_12_137g ho_294 (x_dk dn_294_0_0_ok 14 rfl))))))
  (e_Tok2
  (e_Tok2
  (e_Lok (ld_iload_n_1 (x_dk dn_294_0_0_ok 15 rfl)))
  (e_Lok (ld_iload_n_2 (x_dk dn_294_0_0_ok 16 rfl))))
  (e_Tok2
  (e_Lok (e_st (I := eI) (er_bastore (x_dk dn_294_0_0_ok 17 rfl)) nx_ast))
  (e_Tok2
  (e_Lok (ps_iconst_0 (x_dk dn_294_0_0_ok 18 rfl)))
  (e_Lok (e_rt (I := eI) (k := 1) ⟨(x_dk dn_294_0_0_ok 19 rfl), rfl⟩)))))))
def te_294 : Nat → eE := te_294_0
theorem te_294_ok : ∀ pc, e_EOq eft cls elay eI n_294 pc (te_294 pc) := te_294_0_ok
theorem ho_295 : (xm_y n_295).cls = "RobotCellHouseModel" := rfl
def dn_295_0_0 : List (Nat × Instr × Nat) := [(0, .iload_n 1, 1), (1, .i2l, 1), (2, .lconst 0, 1), (3, .ldc2_w 352, 3), (6, .invokestatic 301, 3), (9, .ifCond .eq 15, 3), (12, .iload_n 2, 1), (13, .i2l, 1), (14, .lconst 0, 1), (15, .ldc2_w 352, 3), (18, .invokestatic 301, 3), (21, .ifCond .ne 5, 3), (24, .iconst (-1), 1), (25, .ireturn, 1), (26, .iconst 0, 1), (27, .istore 4, 2), (29, .iload_n 1, 1), (30, .istore 5, 2), (32, .iload 5, 2), (34, .ifCond .lt 33, 3), (37, .iload 4, 2), (39, .ifCond .ne 28, 3), (42, .iload 5, 2), (44, .iload_n 2, 1), (45, .if_icmp .ne 7, 3)]
set_option maxRecDepth 20000 in
theorem dn_295_0_0_ok : dn_295_0_0.all (fun q => decide (decode (xm_b n_295) q.1 = .ok (q.2.1, q.2.2))) = true := xa_g_ok (by decide +kernel)
def dn_295_0_1 : List (Nat × Instr × Nat) := [(48, .iconst 1, 1), (49, .goto 4, 3), (52, .iconst 0, 1), (53, .istore 4, 2), (55, .aload_n 0, 1), (56, .getfield 140, 3), (59, .iload 5, 2), (61, .iaload, 1), (62, .istore 5, 2), (64, .goto (-32), 3), (67, .aload_n 0, 1), (68, .getfield 265, 3), (71, .ifCond .ne 17, 3), (74, .aload_n 0, 1), (75, .getfield 140, 3), (78, .iload_n 2, 1), (79, .iaload, 1), (80, .ifCond .ge 8, 3), (83, .iload 4, 2), (85, .ifCond .eq 6, 3), (88, .bipush (-2), 2), (90, .ireturn, 1), (91, .aload_n 0, 1), (92, .getfield 140, 3), (95, .iload_n 2, 1)]
set_option maxRecDepth 20000 in
theorem dn_295_0_1_ok : dn_295_0_1.all (fun q => decide (decode (xm_b n_295) q.1 = .ok (q.2.1, q.2.2))) = true := xa_g_ok (by decide +kernel)
def dn_295_0_2 : List (Nat × Instr × Nat) := [(96, .iload_n 1, 1), (97, .iastore, 1), (98, .aload_n 0, 1), (99, .getfield 143, 3), (102, .iload_n 2, 1), (103, .iload_n 3, 1), (104, .bastore, 1), (105, .iconst 0, 1), (106, .ireturn, 1)]
set_option maxRecDepth 20000 in
theorem dn_295_0_2_ok : dn_295_0_2.all (fun q => decide (decode (xm_b n_295) q.1 = .ok (q.2.1, q.2.2))) = true := xa_g_ok (by decide +kernel)
def te_295_0 : Nat → eE := (e_T 25 (e_T 12 (e_T 2 (e_T 0 (e_L 0 (0, ei_load 1 0 1, 0, 0)) (e_T 1 (e_L 1 (0, ei_un (fun x => (4, x)) 2, 0, 0)) (e_L 2 (0, ei_push (4, 0) 3, 0, 0)))) (e_T 6 (e_T 3 (e_L 3 (0, ei_push (4, 63) 6, 0, 0)) (e_L 6 (2, e_nof, 266, 3))) (e_T 9 (e_L 9 (0, ei_if1 0 24 12, 0, 0)) (e_L 12 (0, ei_load 2 0 13, 0, 0))))) (e_T 15 (e_T 13 (e_L 13 (0, ei_un (fun x => (4, x)) 14, 0, 0)) (e_T 14 (e_L 14 (0, ei_push (4, 0) 15, 0, 0)) (e_L 15 (0, ei_push (4, 63) 18, 0, 0)))) (e_T 21 (e_T 18 (e_L 18 (2, e_nof, 266, 3)) (e_L 21 (0, ei_if1 1 26 24, 0, 0))) (e_T 24 (e_L 24 (0, ei_push (0, (-1)) 25, 0, 0)) (e_L 25 (1, e_nof, 1, 0)))))) (e_T 37 (e_T 29 (e_T 26 (e_L 26 (0, ei_push (0, 0) 27, 0, 0)) (e_T 27 (e_L 27 (0, ei_stor 4 0 29, 0, 0)) (e_L 29 (0, ei_load 1 0 30, 0, 0)))) (e_T 32 (e_T 30 (e_L 30 (0, ei_stor 5 0 32, 0, 0)) (e_L 32 (0, ei_load 5 0 34, 0, 0))) (e_T 34 (e_L 34 (0, ei_if1 2 67 37, 0, 0)) (e_L 37 (0, ei_load 4 0 39, 0, 0))))) (e_T 45 (e_T 42 (e_T 39 (e_L 39 (0, ei_if1 1 67 42, 0, 0)) (e_L 42 (0, ei_load 5 0 44, 0, 0))) (e_T 44 (e_L 44 (0, ei_load 2 0 45, 0, 0)) (e_L 45 (0, ei_if2 1 52 48, 0, 0)))) (e_T 49 (e_T 48 (e_L 48 (0, ei_push (0, 1) 49, 0, 0)) (e_L 49 (0, ei_goto 53, 0, 0))) (e_T 52 (e_L 52 (0, ei_push (0, 0) 53, 0, 0)) (e_L 53 (0, ei_stor 4 0 55, 0, 0)))))))
set_option maxRecDepth 20000 in
set_option maxHeartbeats 4000000 in
theorem te_295_0_ok : ∀ pc, e_EOq eft cls elay eI n_295 pc (te_295_0 pc) :=
  (e_Tok2
  (e_Tok2
  (e_Tok2
  (e_Tok2
  (e_Lok (ld_iload_n_1 (x_dk dn_295_0_0_ok 0 rfl)))
  (e_Tok2
  (e_Lok (e_st (I := eI) (er_i2l (x_dk dn_295_0_0_ok 1 rfl)) (nx_un (fun _ => rfl))))
  (e_Lok (ps_lconst_0 (x_dk dn_295_0_0_ok 2 rfl)))))
  (e_Tok2
  (e_Tok2
  (e_Lok (e_st (I := eI) (er_ldc2 (ix := 352) (z := 63) (v := 63) (x_dk dn_295_0_0_ok 3 rfl) (in_t11 (List.mem_of_getElem? (i := 81) rfl) rfl) (by decide)) (nx_push (Or.inl rfl))))
  (e_Lok (lk_12_301 ho_295 (x_dk dn_295_0_0_ok 4 rfl))))
  (e_Tok2
  (e_Lok (e_st (I := eI) (er_ifeq (off := 15) (tg := 24) (x_dk dn_295_0_0_ok 5 rfl) (by decide)) nx_if1))
  (e_Lok (ld_iload_n_2 (x_dk dn_295_0_0_ok 6 rfl))))))
  (e_Tok2
  (e_Tok2
  (e_Lok (e_st (I := eI) (er_i2l (x_dk dn_295_0_0_ok 7 rfl)) (nx_un (fun _ => rfl))))
  (e_Tok2
  (e_Lok (ps_lconst_0 (x_dk dn_295_0_0_ok 8 rfl)))
  (e_Lok (e_st (I := eI) (er_ldc2 (ix := 352) (z := 63) (v := 63) (x_dk dn_295_0_0_ok 9 rfl) (in_t11 (List.mem_of_getElem? (i := 81) rfl) rfl) (by decide)) (nx_push (Or.inl rfl))))))
  (e_Tok2
  (e_Tok2
  (e_Lok (lk_12_301 ho_295 (x_dk dn_295_0_0_ok 10 rfl)))
  (e_Lok (e_st (I := eI) (er_ifne (off := 5) (tg := 26) (x_dk dn_295_0_0_ok 11 rfl) (by decide)) nx_if1)))
  (e_Tok2
  (e_Lok (ps_iconst_m1 (x_dk dn_295_0_0_ok 12 rfl)))
  (e_Lok (e_rt (I := eI) (k := 1) ⟨(x_dk dn_295_0_0_ok 13 rfl), rfl⟩))))))
  (e_Tok2
  (e_Tok2
  (e_Tok2
  (e_Lok (ps_iconst_0 (x_dk dn_295_0_0_ok 14 rfl)))
  (e_Tok2
  (e_Lok (e_st (I := eI) (er_istore (i := 4) (x_dk dn_295_0_0_ok 15 rfl) (by decide +kernel)) nx_stor))
  (e_Lok (ld_iload_n_1 (x_dk dn_295_0_0_ok 16 rfl)))))
  (e_Tok2
  (e_Tok2
  (e_Lok (e_st (I := eI) (er_istore (i := 5) (x_dk dn_295_0_0_ok 17 rfl) (by decide +kernel)) nx_stor))
  (e_Lok (ld_iload_5 (x_dk dn_295_0_0_ok 18 rfl))))
  (e_Tok2
  (e_Lok (e_st (I := eI) (er_iflt (off := 33) (tg := 67) (x_dk dn_295_0_0_ok 19 rfl) (by decide)) nx_if1))
  (e_Lok (ld_iload_4 (x_dk dn_295_0_0_ok 20 rfl))))))
  (e_Tok2
  (e_Tok2
  (e_Tok2
  (e_Lok (e_st (I := eI) (er_ifne (off := 28) (tg := 67) (x_dk dn_295_0_0_ok 21 rfl) (by decide)) nx_if1))
  (e_Lok (ld_iload_5 (x_dk dn_295_0_0_ok 22 rfl))))
  (e_Tok2
  (e_Lok (ld_iload_n_2 (x_dk dn_295_0_0_ok 23 rfl)))
  (e_Lok (e_st (I := eI) (er_icmpne (off := 7) (tg := 52) (x_dk dn_295_0_0_ok 24 rfl) (by decide)) nx_if2))))
  (e_Tok2
  (e_Tok2
  (e_Lok (ps_iconst_1 (x_dk dn_295_0_1_ok 0 rfl)))
  (e_Lok (e_st (I := eI) (er_goto (off := 4) (tg := 53) (x_dk dn_295_0_1_ok 1 rfl) (by decide)) nx_goto)))
  (e_Tok2
  (e_Lok (ps_iconst_0 (x_dk dn_295_0_1_ok 2 rfl)))
  (e_Lok (e_st (I := eI) (er_istore (i := 4) (x_dk dn_295_0_1_ok 3 rfl) (by decide +kernel)) nx_stor)))))))
def te_295_29 : Nat → eE := (e_T 83 (e_T 67 (e_T 59 (e_T 55 (e_L 55 (0, ei_load 0 2 56, 0, 0)) (e_T 56 (e_L 56 (0, ei_getf eft elay 12 52 59, 0, 0)) (e_L 59 (0, ei_load 5 0 61, 0, 0)))) (e_T 62 (e_T 61 (e_L 61 (0, ei_ald elay false 62, 0, 0)) (e_L 62 (0, ei_stor 5 0 64, 0, 0))) (e_T 64 (e_L 64 (0, ei_goto 32, 0, 0)) (e_L 67 (0, ei_load 0 2 68, 0, 0))))) (e_T 75 (e_T 71 (e_T 68 (e_L 68 (0, ei_getf eft elay 12 3 71, 0, 0)) (e_L 71 (0, ei_if1 1 88 74, 0, 0))) (e_T 74 (e_L 74 (0, ei_load 0 2 75, 0, 0)) (e_L 75 (0, ei_getf eft elay 12 52 78, 0, 0)))) (e_T 79 (e_T 78 (e_L 78 (0, ei_load 2 0 79, 0, 0)) (e_L 79 (0, ei_ald elay false 80, 0, 0))) (e_T 80 (e_L 80 (0, ei_if1 3 88 83, 0, 0)) (e_L 83 (0, ei_load 4 0 85, 0, 0)))))) (e_T 96 (e_T 90 (e_T 85 (e_L 85 (0, ei_if1 0 91 88, 0, 0)) (e_T 88 (e_L 88 (0, ei_push (0, (-2)) 90, 0, 0)) (e_L 90 (1, e_nof, 1, 0)))) (e_T 92 (e_T 91 (e_L 91 (0, ei_load 0 2 92, 0, 0)) (e_L 92 (0, ei_getf eft elay 12 52 95, 0, 0))) (e_T 95 (e_L 95 (0, ei_load 2 0 96, 0, 0)) (e_L 96 (0, ei_load 1 0 97, 0, 0))))) (e_T 102 (e_T 98 (e_T 97 (e_L 97 (0, ei_ast elay false 98, 0, 0)) (e_L 98 (0, ei_load 0 2 99, 0, 0))) (e_T 99 (e_L 99 (0, ei_getf eft elay 12 53 102, 0, 0)) (e_L 102 (0, ei_load 2 0 103, 0, 0)))) (e_T 104 (e_T 103 (e_L 103 (0, ei_load 3 0 104, 0, 0)) (e_L 104 (0, ei_ast elay true 105, 0, 0))) (e_T 105 (e_L 105 (0, ei_push (0, 0) 106, 0, 0)) (e_L 106 (1, e_nof, 1, 0)))))))
set_option maxRecDepth 20000 in
set_option maxHeartbeats 4000000 in
theorem te_295_29_ok : ∀ pc, e_EOq eft cls elay eI n_295 pc (te_295_29 pc) :=
  (e_Tok2
  (e_Tok2
  (e_Tok2
  (e_Tok2
  (e_Lok (ld_aload_n_0 (x_dk dn_295_0_1_ok 4 rfl)))
  (e_Tok2
  (e_Lok (lk_12_140g ho_295 (x_dk dn_295_0_1_ok 5 rfl)))
  (e_Lok (ld_iload_5 (x_dk dn_295_0_1_ok 6 rfl)))))
  (e_Tok2
  (e_Tok2
  (e_Lok (sm_iaload (x_dk dn_295_0_1_ok 7 rfl)))
  (e_Lok (e_st (I := eI) (er_istore (i := 5) (x_dk dn_295_0_1_ok 8 rfl) (by decide +kernel)) nx_stor)))
  (e_Tok2
  (e_Lok (e_st (I := eI) (er_goto (off := (-32)) (tg := 32) (x_dk dn_295_0_1_ok 9 rfl) (by decide)) nx_goto))
  (e_Lok (ld_aload_n_0 (x_dk dn_295_0_1_ok 10 rfl))))))
  (e_Tok2
  (e_Tok2
  (e_Tok2
  (e_Lok (lk_12_265g ho_295 (x_dk dn_295_0_1_ok 11 rfl)))
  (e_Lok (e_st (I := eI) (er_ifne (off := 17) (tg := 88) (x_dk dn_295_0_1_ok 12 rfl) (by decide)) nx_if1)))
  (e_Tok2
  (e_Lok (ld_aload_n_0 (x_dk dn_295_0_1_ok 13 rfl)))
  (e_Lok (lk_12_140g ho_295 (x_dk dn_295_0_1_ok 14 rfl)))))
  (e_Tok2
  (e_Tok2
  (e_Lok (ld_iload_n_2 (x_dk dn_295_0_1_ok 15 rfl)))
  (e_Lok (sm_iaload (x_dk dn_295_0_1_ok 16 rfl))))
  (e_Tok2
  (e_Lok (e_st (I := eI) (er_ifge (off := 8) (tg := 88) (x_dk dn_295_0_1_ok 17 rfl) (by decide)) nx_if1))
  (e_Lok (ld_iload_4 (x_dk dn_295_0_1_ok 18 rfl)))))))
  (e_Tok2
  (e_Tok2
  (e_Tok2
  (e_Lok (e_st (I := eI) (er_ifeq (off := 6) (tg := 91) (x_dk dn_295_0_1_ok 19 rfl) (by decide)) nx_if1))
  (e_Tok2
  (e_Lok (ps_bipush_m2 (x_dk dn_295_0_1_ok 20 rfl)))
  (e_Lok (e_rt (I := eI) (k := 1) ⟨(x_dk dn_295_0_1_ok 21 rfl), rfl⟩))))
  (e_Tok2
  (e_Tok2
  (e_Lok (ld_aload_n_0 (x_dk dn_295_0_1_ok 22 rfl)))
  (e_Lok (lk_12_140g ho_295 (x_dk dn_295_0_1_ok 23 rfl))))
  (e_Tok2
  (e_Lok (ld_iload_n_2 (x_dk dn_295_0_1_ok 24 rfl)))
  (e_Lok (ld_iload_n_1 (x_dk dn_295_0_2_ok 0 rfl))))))
  (e_Tok2
  (e_Tok2
  (e_Tok2
  (e_Lok (sm_iastore (x_dk dn_295_0_2_ok 1 rfl)))
  (e_Lok (ld_aload_n_0 (x_dk dn_295_0_2_ok 2 rfl))))
  (e_Tok2
  (e_Lok (lk_12_143g ho_295 (x_dk dn_295_0_2_ok 3 rfl)))
  (e_Lok (ld_iload_n_2 (x_dk dn_295_0_2_ok 4 rfl)))))
  (e_Tok2
  (e_Tok2
  (e_Lok (ld_iload_n_3 (x_dk dn_295_0_2_ok 5 rfl)))
  (e_Lok (e_st (I := eI) (er_bastore (x_dk dn_295_0_2_ok 6 rfl)) nx_ast)))
  (e_Tok2
  (e_Lok (ps_iconst_0 (x_dk dn_295_0_2_ok 7 rfl)))
  (e_Lok (e_rt (I := eI) (k := 1) ⟨(x_dk dn_295_0_2_ok 8 rfl), rfl⟩)))))))
def te_295 : Nat → eE := (e_T 53 te_295_0 te_295_29)
theorem te_295_ok : ∀ pc, e_EOq eft cls elay eI n_295 pc (te_295 pc) := (e_Tok2 (te_295_0_ok) (te_295_29_ok))
theorem ho_296 : (xm_y n_296).cls = "RobotCellHouseModel" := rfl
def dn_296_0_0 : List (Nat × Instr × Nat) := [(0, .aload_n 0, 1), (1, .getfield 265, 3), (4, .ifCond .eq 6, 3), (7, .bipush (-2), 2), (9, .ireturn, 1), (10, .aload_n 0, 1), (11, .iconst 1, 1), (12, .putfield 265, 3), (15, .aload_n 0, 1), (16, .iconst 0, 1), (17, .putfield 288, 3), (20, .aload_n 0, 1), (21, .invokevirtual 369, 3), (24, .iconst 0, 1), (25, .istore_n 1, 1), (26, .iload_n 1, 1), (27, .ldc 7, 2), (29, .if_icmp .ge 21, 3), (32, .aload_n 0, 1), (33, .getfield 14, 3), (36, .iload_n 1, 1), (37, .aload_n 0, 1), (38, .getfield 8, 3), (41, .iload_n 1, 1), (42, .iaload, 1)]
set_option maxRecDepth 20000 in
theorem dn_296_0_0_ok : dn_296_0_0.all (fun q => decide (decode (xm_b n_296) q.1 = .ok (q.2.1, q.2.2))) = true := xa_g_ok (by decide +kernel)
def dn_296_0_1 : List (Nat × Instr × Nat) := [(43, .iastore, 1), (44, .iinc 1 1, 3), (47, .goto (-21), 3), (50, .aload_n 0, 1), (51, .getfield 269, 3), (54, .ireturn, 1)]
set_option maxRecDepth 20000 in
theorem dn_296_0_1_ok : dn_296_0_1.all (fun q => decide (decode (xm_b n_296) q.1 = .ok (q.2.1, q.2.2))) = true := xa_g_ok (by decide +kernel)
def te_296_0 : Nat → eE := (e_T 25 (e_T 11 (e_T 4 (e_T 0 (e_L 0 (0, ei_load 0 2 1, 0, 0)) (e_T 1 (e_L 1 (0, ei_getf eft elay 12 3 4, 0, 0)) (e_L 4 (0, ei_if1 0 10 7, 0, 0)))) (e_T 9 (e_T 7 (e_L 7 (0, ei_push (0, (-2)) 9, 0, 0)) (e_L 9 (1, e_nof, 1, 0))) (e_T 10 (e_L 10 (0, ei_load 0 2 11, 0, 0)) (e_L 11 (0, ei_push (0, 1) 12, 0, 0))))) (e_T 17 (e_T 15 (e_T 12 (e_L 12 (0, ei_putf eft elay 12 3 1 15, 0, 0)) (e_L 15 (0, ei_load 0 2 16, 0, 0))) (e_T 16 (e_L 16 (0, ei_push (0, 0) 17, 0, 0)) (e_L 17 (0, ei_putf eft elay 12 5 0 20, 0, 0)))) (e_T 21 (e_T 20 (e_L 20 (0, ei_load 0 2 21, 0, 0)) (e_L 21 (2, e_nof, 303, 1))) (e_T 24 (e_L 24 (0, ei_push (0, 0) 25, 0, 0)) (e_L 25 (0, ei_stor 1 0 26, 0, 0)))))) (e_T 38 (e_T 32 (e_T 27 (e_T 26 (e_L 26 (0, ei_load 1 0 27, 0, 0)) (e_L 27 (0, ei_push (0, 33060) 29, 0, 0))) (e_T 29 (e_L 29 (0, ei_if2 3 50 32, 0, 0)) (e_L 32 (0, ei_load 0 2 33, 0, 0)))) (e_T 36 (e_T 33 (e_L 33 (0, ei_getf eft elay 12 1 36, 0, 0)) (e_L 36 (0, ei_load 1 0 37, 0, 0))) (e_T 37 (e_L 37 (0, ei_load 0 2 38, 0, 0)) (e_L 38 (0, ei_getf eft elay 12 0 41, 0, 0))))) (e_T 44 (e_T 42 (e_T 41 (e_L 41 (0, ei_load 1 0 42, 0, 0)) (e_L 42 (0, ei_ald elay false 43, 0, 0))) (e_T 43 (e_L 43 (0, ei_ast elay false 44, 0, 0)) (e_L 44 (0, ei_inc 1 1 47, 0, 0)))) (e_T 50 (e_T 47 (e_L 47 (0, ei_goto 26, 0, 0)) (e_L 50 (0, ei_load 0 2 51, 0, 0))) (e_T 51 (e_L 51 (0, ei_getf eft elay 12 10 54, 0, 0)) (e_L 54 (1, e_nof, 1, 0)))))))
set_option maxRecDepth 20000 in
set_option maxHeartbeats 4000000 in
theorem te_296_0_ok : ∀ pc, e_EOq eft cls elay eI n_296 pc (te_296_0 pc) :=
  (e_Tok2
  (e_Tok2
  (e_Tok2
  (e_Tok2
  (e_Lok (ld_aload_n_0 (x_dk dn_296_0_0_ok 0 rfl)))
  (e_Tok2
  (e_Lok (lk_12_265g ho_296 (x_dk dn_296_0_0_ok 1 rfl)))
  (e_Lok (e_st (I := eI) (er_ifeq (off := 6) (tg := 10) (x_dk dn_296_0_0_ok 2 rfl) (by decide)) nx_if1))))
  (e_Tok2
  (e_Tok2
  (e_Lok (ps_bipush_m2 (x_dk dn_296_0_0_ok 3 rfl)))
  (e_Lok (e_rt (I := eI) (k := 1) ⟨(x_dk dn_296_0_0_ok 4 rfl), rfl⟩)))
  (e_Tok2
  (e_Lok (ld_aload_n_0 (x_dk dn_296_0_0_ok 5 rfl)))
  (e_Lok (ps_iconst_1 (x_dk dn_296_0_0_ok 6 rfl))))))
  (e_Tok2
  (e_Tok2
  (e_Tok2
  (e_Lok (lk_12_265p ho_296 (x_dk dn_296_0_0_ok 7 rfl)))
  (e_Lok (ld_aload_n_0 (x_dk dn_296_0_0_ok 8 rfl))))
  (e_Tok2
  (e_Lok (ps_iconst_0 (x_dk dn_296_0_0_ok 9 rfl)))
  (e_Lok (lk_12_288p ho_296 (x_dk dn_296_0_0_ok 10 rfl)))))
  (e_Tok2
  (e_Tok2
  (e_Lok (ld_aload_n_0 (x_dk dn_296_0_0_ok 11 rfl)))
  (e_Lok (lk_12_369 ho_296 (x_dk dn_296_0_0_ok 12 rfl))))
  (e_Tok2
  (e_Lok (ps_iconst_0 (x_dk dn_296_0_0_ok 13 rfl)))
  (e_Lok (e_st (I := eI) (er_istore_n (i := 1) (x_dk dn_296_0_0_ok 14 rfl) (by decide +kernel)) nx_stor))))))
  (e_Tok2
  (e_Tok2
  (e_Tok2
  (e_Tok2
  (e_Lok (ld_iload_n_1 (x_dk dn_296_0_0_ok 15 rfl)))
  (e_Lok (e_st (I := eI) (er_ldc (ix := 7) (z := 33060) (v := 33060) (x_dk dn_296_0_0_ok 16 rfl) (in_t9 (List.mem_of_getElem? (i := 86) rfl) rfl) (by decide)) (nx_push (Or.inl rfl)))))
  (e_Tok2
  (e_Lok (e_st (I := eI) (er_icmpge (off := 21) (tg := 50) (x_dk dn_296_0_0_ok 17 rfl) (by decide)) nx_if2))
  (e_Lok (ld_aload_n_0 (x_dk dn_296_0_0_ok 18 rfl)))))
  (e_Tok2
  (e_Tok2
  (e_Lok (lk_12_14g ho_296 (x_dk dn_296_0_0_ok 19 rfl)))
  (e_Lok (ld_iload_n_1 (x_dk dn_296_0_0_ok 20 rfl))))
  (e_Tok2
  (e_Lok (ld_aload_n_0 (x_dk dn_296_0_0_ok 21 rfl)))
  (e_Lok (lk_12_8g ho_296 (x_dk dn_296_0_0_ok 22 rfl))))))
  (e_Tok2
  (e_Tok2
  (e_Tok2
  (e_Lok (ld_iload_n_1 (x_dk dn_296_0_0_ok 23 rfl)))
  (e_Lok (sm_iaload (x_dk dn_296_0_0_ok 24 rfl))))
  (e_Tok2
  (e_Lok (sm_iastore (x_dk dn_296_0_1_ok 0 rfl)))
  (e_Lok (e_st (I := eI) (er_iinc (i := 1) (n := 1) (x_dk dn_296_0_1_ok 1 rfl) (by decide +kernel) (by decide)) nx_inc))))
  (e_Tok2
  (e_Tok2
  (e_Lok (e_st (I := eI) (er_goto (off := (-21)) (tg := 26) (x_dk dn_296_0_1_ok 2 rfl) (by decide)) nx_goto))
  (e_Lok (ld_aload_n_0 (x_dk dn_296_0_1_ok 3 rfl))))
  (e_Tok2
  (e_Lok (lk_12_269g ho_296 (x_dk dn_296_0_1_ok 4 rfl)))
  (e_Lok (e_rt (I := eI) (k := 1) ⟨(x_dk dn_296_0_1_ok 5 rfl), rfl⟩)))))))
def te_296 : Nat → eE := te_296_0
theorem te_296_ok : ∀ pc, e_EOq eft cls elay eI n_296 pc (te_296 pc) := te_296_0_ok
theorem ho_297 : (xm_y n_297).cls = "RobotCellHouseModel" := rfl
def dn_297_0_0 : List (Nat × Instr × Nat) := [(0, .lload_n 0, 1), (1, .bipush 30, 2), (3, .lshr, 1), (4, .lstore 4, 2), (6, .lload_n 0, 1), (7, .ldc2_w 372, 3), (10, .land, 1), (11, .lstore 6, 2), (13, .lload_n 2, 1), (14, .bipush 30, 2), (16, .lshr, 1), (17, .lstore 8, 2), (19, .lload_n 2, 1), (20, .ldc2_w 372, 3), (23, .land, 1), (24, .lstore 10, 2), (26, .lload 4, 2), (28, .lload 8, 2), (30, .lmul, 1), (31, .lload 4, 2), (33, .lload 10, 2), (35, .lmul, 1), (36, .lload 6, 2), (38, .lload 8, 2), (40, .lmul, 1)]
set_option maxRecDepth 20000 in
theorem dn_297_0_0_ok : dn_297_0_0.all (fun q => decide (decode (xm_b n_297) q.1 = .ok (q.2.1, q.2.2))) = true := xa_g_ok (by decide +kernel)
def dn_297_0_1 : List (Nat × Instr × Nat) := [(41, .ladd, 1), (42, .lload 6, 2), (44, .lload 10, 2), (46, .lmul, 1), (47, .bipush 30, 2), (49, .lshr, 1), (50, .ladd, 1), (51, .bipush 30, 2), (53, .lshr, 1), (54, .ladd, 1), (55, .lreturn, 1)]
set_option maxRecDepth 20000 in
theorem dn_297_0_1_ok : dn_297_0_1.all (fun q => decide (decode (xm_b n_297) q.1 = .ok (q.2.1, q.2.2))) = true := xa_g_ok (by decide +kernel)
def te_297_0 : Nat → eE := (e_T 28 (e_T 13 (e_T 4 (e_T 1 (e_T 0 (e_L 0 (0, ei_load 0 1 1, 0, 0)) (e_L 1 (0, ei_push (0, 30) 3, 0, 0))) (e_T 3 (e_L 3 (0, ei_shL (eSh (fun x y => x >>> (y.toInt64 &&& 63))) 4, 0, 0)) (e_L 4 (0, ei_stor 4 1 6, 0, 0)))) (e_T 7 (e_T 6 (e_L 6 (0, ei_load 0 1 7, 0, 0)) (e_L 7 (0, ei_push (4, 1073741823) 10, 0, 0))) (e_T 10 (e_L 10 (0, ei_binL eG_and 11, 0, 0)) (e_T 11 (e_L 11 (0, ei_stor 6 1 13, 0, 0)) (e_L 13 (0, ei_load 2 1 14, 0, 0)))))) (e_T 19 (e_T 16 (e_T 14 (e_L 14 (0, ei_push (0, 30) 16, 0, 0)) (e_L 16 (0, ei_shL (eSh (fun x y => x >>> (y.toInt64 &&& 63))) 17, 0, 0))) (e_T 17 (e_L 17 (0, ei_stor 8 1 19, 0, 0)) (e_L 19 (0, ei_load 2 1 20, 0, 0)))) (e_T 23 (e_T 20 (e_L 20 (0, ei_push (4, 1073741823) 23, 0, 0)) (e_L 23 (0, ei_binL eG_and 24, 0, 0))) (e_T 24 (e_L 24 (0, ei_stor 10 1 26, 0, 0)) (e_T 26 (e_L 26 (0, ei_load 4 1 28, 0, 0)) (e_L 28 (0, ei_load 8 1 30, 0, 0))))))) (e_T 42 (e_T 35 (e_T 31 (e_T 30 (e_L 30 (0, ei_binL eG_mul 31, 0, 0)) (e_L 31 (0, ei_load 4 1 33, 0, 0))) (e_T 33 (e_L 33 (0, ei_load 10 1 35, 0, 0)) (e_L 35 (0, ei_binL eG_mul 36, 0, 0)))) (e_T 38 (e_T 36 (e_L 36 (0, ei_load 6 1 38, 0, 0)) (e_L 38 (0, ei_load 8 1 40, 0, 0))) (e_T 40 (e_L 40 (0, ei_binL eG_mul 41, 0, 0)) (e_T 41 (e_L 41 (0, ei_binL eG_add 42, 0, 0)) (e_L 42 (0, ei_load 6 1 44, 0, 0)))))) (e_T 49 (e_T 46 (e_T 44 (e_L 44 (0, ei_load 10 1 46, 0, 0)) (e_L 46 (0, ei_binL eG_mul 47, 0, 0))) (e_T 47 (e_L 47 (0, ei_push (0, 30) 49, 0, 0)) (e_L 49 (0, ei_shL (eSh (fun x y => x >>> (y.toInt64 &&& 63))) 50, 0, 0)))) (e_T 51 (e_T 50 (e_L 50 (0, ei_binL eG_add 51, 0, 0)) (e_L 51 (0, ei_push (0, 30) 53, 0, 0))) (e_T 53 (e_L 53 (0, ei_shL (eSh (fun x y => x >>> (y.toInt64 &&& 63))) 54, 0, 0)) (e_T 54 (e_L 54 (0, ei_binL eG_add 55, 0, 0)) (e_L 55 (1, e_nof, 2, 0))))))))
set_option maxRecDepth 20000 in
set_option maxHeartbeats 4000000 in
theorem te_297_0_ok : ∀ pc, e_EOq eft cls elay eI n_297 pc (te_297_0 pc) :=
  (e_Tok2
  (e_Tok2
  (e_Tok2
  (e_Tok2
  (e_Tok2
  (e_Lok (ld_lload_n_0 (x_dk dn_297_0_0_ok 0 rfl)))
  (e_Lok (ps_bipush_30 (x_dk dn_297_0_0_ok 1 rfl))))
  (e_Tok2
  (e_Lok (e_st (I := eI) (er_lshr (x_dk dn_297_0_0_ok 2 rfl)) nx_shL))
  (e_Lok (e_st (I := eI) (er_lstore (i := 4) (x_dk dn_297_0_0_ok 3 rfl) (by decide +kernel)) nx_stor))))
  (e_Tok2
  (e_Tok2
  (e_Lok (ld_lload_n_0 (x_dk dn_297_0_0_ok 4 rfl)))
  (e_Lok (e_st (I := eI) (er_ldc2 (ix := 372) (z := 1073741823) (v := 1073741823) (x_dk dn_297_0_0_ok 5 rfl) (in_t9 (List.mem_of_getElem? (i := 102) rfl) rfl) (by decide)) (nx_push (Or.inl rfl)))))
  (e_Tok2
  (e_Lok (e_st (I := eI) (er_land (x_dk dn_297_0_0_ok 6 rfl)) (nx_binL bG_land)))
  (e_Tok2
  (e_Lok (e_st (I := eI) (er_lstore (i := 6) (x_dk dn_297_0_0_ok 7 rfl) (by decide +kernel)) nx_stor))
  (e_Lok (ld_lload_n_2 (x_dk dn_297_0_0_ok 8 rfl)))))))
  (e_Tok2
  (e_Tok2
  (e_Tok2
  (e_Lok (ps_bipush_30 (x_dk dn_297_0_0_ok 9 rfl)))
  (e_Lok (e_st (I := eI) (er_lshr (x_dk dn_297_0_0_ok 10 rfl)) nx_shL)))
  (e_Tok2
  (e_Lok (e_st (I := eI) (er_lstore (i := 8) (x_dk dn_297_0_0_ok 11 rfl) (by decide +kernel)) nx_stor))
  (e_Lok (ld_lload_n_2 (x_dk dn_297_0_0_ok 12 rfl)))))
  (e_Tok2
  (e_Tok2
  (e_Lok (e_st (I := eI) (er_ldc2 (ix := 372) (z := 1073741823) (v := 1073741823) (x_dk dn_297_0_0_ok 13 rfl) (in_t9 (List.mem_of_getElem? (i := 102) rfl) rfl) (by decide)) (nx_push (Or.inl rfl))))
  (e_Lok (e_st (I := eI) (er_land (x_dk dn_297_0_0_ok 14 rfl)) (nx_binL bG_land))))
  (e_Tok2
  (e_Lok (e_st (I := eI) (er_lstore (i := 10) (x_dk dn_297_0_0_ok 15 rfl) (by decide +kernel)) nx_stor))
  (e_Tok2
  (e_Lok (ld_lload_4 (x_dk dn_297_0_0_ok 16 rfl)))
  (e_Lok (ld_lload_8 (x_dk dn_297_0_0_ok 17 rfl))))))))
  (e_Tok2
  (e_Tok2
  (e_Tok2
  (e_Tok2
  (e_Lok (e_st (I := eI) (er_lmul (x_dk dn_297_0_0_ok 18 rfl)) (nx_binL bG_lmul)))
  (e_Lok (ld_lload_4 (x_dk dn_297_0_0_ok 19 rfl))))
  (e_Tok2
  (e_Lok (ld_lload_10 (x_dk dn_297_0_0_ok 20 rfl)))
  (e_Lok (e_st (I := eI) (er_lmul (x_dk dn_297_0_0_ok 21 rfl)) (nx_binL bG_lmul)))))
  (e_Tok2
  (e_Tok2
  (e_Lok (ld_lload_6 (x_dk dn_297_0_0_ok 22 rfl)))
  (e_Lok (ld_lload_8 (x_dk dn_297_0_0_ok 23 rfl))))
  (e_Tok2
  (e_Lok (e_st (I := eI) (er_lmul (x_dk dn_297_0_0_ok 24 rfl)) (nx_binL bG_lmul)))
  (e_Tok2
  (e_Lok (e_st (I := eI) (er_ladd (x_dk dn_297_0_1_ok 0 rfl)) (nx_binL bG_ladd)))
  (e_Lok (ld_lload_6 (x_dk dn_297_0_1_ok 1 rfl)))))))
  (e_Tok2
  (e_Tok2
  (e_Tok2
  (e_Lok (ld_lload_10 (x_dk dn_297_0_1_ok 2 rfl)))
  (e_Lok (e_st (I := eI) (er_lmul (x_dk dn_297_0_1_ok 3 rfl)) (nx_binL bG_lmul))))
  (e_Tok2
  (e_Lok (ps_bipush_30 (x_dk dn_297_0_1_ok 4 rfl)))
  (e_Lok (e_st (I := eI) (er_lshr (x_dk dn_297_0_1_ok 5 rfl)) nx_shL))))
  (e_Tok2
  (e_Tok2
  (e_Lok (e_st (I := eI) (er_ladd (x_dk dn_297_0_1_ok 6 rfl)) (nx_binL bG_ladd)))
  (e_Lok (ps_bipush_30 (x_dk dn_297_0_1_ok 7 rfl))))
  (e_Tok2
  (e_Lok (e_st (I := eI) (er_lshr (x_dk dn_297_0_1_ok 8 rfl)) nx_shL))
  (e_Tok2
  (e_Lok (e_st (I := eI) (er_ladd (x_dk dn_297_0_1_ok 9 rfl)) (nx_binL bG_ladd)))
  (e_Lok (e_rt (I := eI) (k := 2) ⟨(x_dk dn_297_0_1_ok 10 rfl), rfl⟩))))))))
def te_297 : Nat → eE := te_297_0
theorem te_297_ok : ∀ pc, e_EOq eft cls elay eI n_297 pc (te_297 pc) := te_297_0_ok
theorem ho_298 : (xm_y n_298).cls = "RobotCellHouseModel" := rfl
def dn_298_0_0 : List (Nat × Instr × Nat) := [(0, .lload_n 0, 1), (1, .lload_n 0, 1), (2, .invokestatic 374, 3), (5, .lstore_n 3, 1), (6, .iload_n 2, 1), (7, .iconst 1, 1), (8, .if_icmp .ne 7, 3), (11, .lload_n 0, 1), (12, .goto 6, 3), (15, .ldc2_w 378, 3), (18, .lstore 5, 2), (20, .lconst 0, 1), (21, .lstore 7, 2), (23, .iload_n 2, 1), (24, .istore 9, 2), (26, .iconst 1, 1), (27, .istore 10, 2), (29, .lload 5, 2), (31, .lconst 0, 1), (32, .lcmp, 1), (33, .ifCond .le 58, 3), (36, .lload 7, 2), (38, .iload 10, 2), (40, .ifCond .eq 8, 3), (43, .lload 5, 2)]
set_option maxRecDepth 20000 in
theorem dn_298_0_0_ok : dn_298_0_0.all (fun q => decide (decode (xm_b n_298) q.1 = .ok (q.2.1, q.2.2))) = true := xa_g_ok (by decide +kernel)
def dn_298_0_1 : List (Nat × Instr × Nat) := [(45, .goto 6, 3), (48, .lload 5, 2), (50, .lneg, 1), (51, .ladd, 1), (52, .lstore 7, 2), (54, .lload 5, 2), (56, .lload_n 3, 1), (57, .invokestatic 374, 3), (60, .iload 9, 2), (62, .iconst 1, 1), (63, .iadd, 1), (64, .iload 9, 2), (66, .iconst 2, 1), (67, .iadd, 1), (68, .imul, 1), (69, .i2l, 1), (70, .ldiv, 1), (71, .lstore 5, 2), (73, .iinc 9 2, 3), (76, .iload 10, 2), (78, .ifCond .ne 7, 3), (81, .iconst 1, 1), (82, .goto 4, 3), (85, .iconst 0, 1), (86, .istore 10, 2)]
set_option maxRecDepth 20000 in
theorem dn_298_0_1_ok : dn_298_0_1.all (fun q => decide (decode (xm_b n_298) q.1 = .ok (q.2.1, q.2.2))) = true := xa_g_ok (by decide +kernel)
def dn_298_0_2 : List (Nat × Instr × Nat) := [(88, .goto (-59), 3), (91, .lload 7, 2), (93, .lreturn, 1)]
set_option maxRecDepth 20000 in
theorem dn_298_0_2_ok : dn_298_0_2.all (fun q => decide (decode (xm_b n_298) q.1 = .ok (q.2.1, q.2.2))) = true := xa_g_ok (by decide +kernel)
def te_298_0 : Nat → eE := (e_T 21 (e_T 7 (e_T 2 (e_T 0 (e_L 0 (0, ei_load 0 1 1, 0, 0)) (e_T 1 (e_L 1 (0, ei_load 0 1 2, 0, 0)) (e_L 2 (2, e_nof, 297, 2)))) (e_T 5 (e_L 5 (0, ei_stor 3 1 6, 0, 0)) (e_T 6 (e_L 6 (0, ei_load 2 0 7, 0, 0)) (e_L 7 (0, ei_push (0, 1) 8, 0, 0))))) (e_T 12 (e_T 8 (e_L 8 (0, ei_if2 1 15 11, 0, 0)) (e_T 11 (e_L 11 (0, ei_load 0 1 12, 0, 0)) (e_L 12 (0, ei_goto 18, 0, 0)))) (e_T 18 (e_T 15 (e_L 15 (0, ei_push (4, 1152921504606846976) 18, 0, 0)) (e_L 18 (0, ei_stor 5 1 20, 0, 0))) (e_T 20 (e_L 20 (0, ei_push (4, 0) 21, 0, 0)) (e_L 21 (0, ei_stor 7 1 23, 0, 0)))))) (e_T 31 (e_T 26 (e_T 23 (e_L 23 (0, ei_load 2 0 24, 0, 0)) (e_T 24 (e_L 24 (0, ei_stor 9 0 26, 0, 0)) (e_L 26 (0, ei_push (0, 1) 27, 0, 0)))) (e_T 27 (e_L 27 (0, ei_stor 10 0 29, 0, 0)) (e_T 29 (e_L 29 (0, ei_load 5 1 31, 0, 0)) (e_L 31 (0, ei_push (4, 0) 32, 0, 0))))) (e_T 36 (e_T 32 (e_L 32 (0, ei_binL eG_cmp 33, 0, 0)) (e_T 33 (e_L 33 (0, ei_if1 5 91 36, 0, 0)) (e_L 36 (0, ei_load 7 1 38, 0, 0)))) (e_T 40 (e_T 38 (e_L 38 (0, ei_load 10 0 40, 0, 0)) (e_L 40 (0, ei_if1 0 48 43, 0, 0))) (e_T 43 (e_L 43 (0, ei_load 5 1 45, 0, 0)) (e_L 45 (0, ei_goto 51, 0, 0)))))))
set_option maxRecDepth 20000 in
set_option maxHeartbeats 4000000 in
theorem te_298_0_ok : ∀ pc, e_EOq eft cls elay eI n_298 pc (te_298_0 pc) :=
  (e_Tok2
  (e_Tok2
  (e_Tok2
  (e_Tok2
  (e_Lok (ld_lload_n_0 (x_dk dn_298_0_0_ok 0 rfl)))
  (e_Tok2
  (e_Lok (ld_lload_n_0 (x_dk dn_298_0_0_ok 1 rfl)))
  (e_Lok (lk_12_374 ho_298 (x_dk dn_298_0_0_ok 2 rfl)))))
  (e_Tok2
  (e_Lok (e_st (I := eI) (er_lstore_n (i := 3) (x_dk dn_298_0_0_ok 3 rfl) (by decide +kernel)) nx_stor))
  (e_Tok2
  (e_Lok (ld_iload_n_2 (x_dk dn_298_0_0_ok 4 rfl)))
  (e_Lok (ps_iconst_1 (x_dk dn_298_0_0_ok 5 rfl))))))
  (e_Tok2
  (e_Tok2
  (e_Lok (e_st (I := eI) (er_icmpne (off := 7) (tg := 15) (x_dk dn_298_0_0_ok 6 rfl) (by decide)) nx_if2))
  (e_Tok2
  (e_Lok (ld_lload_n_0 (x_dk dn_298_0_0_ok 7 rfl)))
  (e_Lok (e_st (I := eI) (er_goto (off := 6) (tg := 18) (x_dk dn_298_0_0_ok 8 rfl) (by decide)) nx_goto))))
  (e_Tok2
  (e_Tok2
  (e_Lok (e_st (I := eI) (er_ldc2 (ix := 378) (z := 1152921504606846976) (v := 1152921504606846976) (x_dk dn_298_0_0_ok 9 rfl) (in_t9 (List.mem_of_getElem? (i := 103) rfl) rfl) (by decide)) (nx_push (Or.inl rfl))))
  (e_Lok (e_st (I := eI) (er_lstore (i := 5) (x_dk dn_298_0_0_ok 10 rfl) (by decide +kernel)) nx_stor)))
  (e_Tok2
  (e_Lok (ps_lconst_0 (x_dk dn_298_0_0_ok 11 rfl)))
  (e_Lok (e_st (I := eI) (er_lstore (i := 7) (x_dk dn_298_0_0_ok 12 rfl) (by decide +kernel)) nx_stor))))))
  (e_Tok2
  (e_Tok2
  (e_Tok2
  (e_Lok (ld_iload_n_2 (x_dk dn_298_0_0_ok 13 rfl)))
  (e_Tok2
  (e_Lok (e_st (I := eI) (er_istore (i := 9) (x_dk dn_298_0_0_ok 14 rfl) (by decide +kernel)) nx_stor))
  (e_Lok (ps_iconst_1 (x_dk dn_298_0_0_ok 15 rfl)))))
  (e_Tok2
  (e_Lok (e_st (I := eI) (er_istore (i := 10) (x_dk dn_298_0_0_ok 16 rfl) (by decide +kernel)) nx_stor))
  (e_Tok2
  (e_Lok (ld_lload_5 (x_dk dn_298_0_0_ok 17 rfl)))
  (e_Lok (ps_lconst_0 (x_dk dn_298_0_0_ok 18 rfl))))))
  (e_Tok2
  (e_Tok2
  (e_Lok (e_st (I := eI) (er_lcmp (x_dk dn_298_0_0_ok 19 rfl)) (nx_binL bG_lcmp)))
  (e_Tok2
  (e_Lok (e_st (I := eI) (er_ifle (off := 58) (tg := 91) (x_dk dn_298_0_0_ok 20 rfl) (by decide)) nx_if1))
  (e_Lok (ld_lload_7 (x_dk dn_298_0_0_ok 21 rfl)))))
  (e_Tok2
  (e_Tok2
  (e_Lok (ld_iload_10 (x_dk dn_298_0_0_ok 22 rfl)))
  (e_Lok (e_st (I := eI) (er_ifeq (off := 8) (tg := 48) (x_dk dn_298_0_0_ok 23 rfl) (by decide)) nx_if1)))
  (e_Tok2
  (e_Lok (ld_lload_5 (x_dk dn_298_0_0_ok 24 rfl)))
  (e_Lok (e_st (I := eI) (er_goto (off := 6) (tg := 51) (x_dk dn_298_0_1_ok 0 rfl) (by decide)) nx_goto)))))))
def te_298_26 : Nat → eE := (e_T 67 (e_T 56 (e_T 51 (e_T 48 (e_L 48 (0, ei_load 5 1 50, 0, 0)) (e_T 50 (e_L 50 (0, ei_unL (fun x => (4, e64 (-x))) 51, 0, 0)) (e_L 51 (0, ei_binL eG_add 52, 0, 0)))) (e_T 52 (e_L 52 (0, ei_stor 7 1 54, 0, 0)) (e_T 54 (e_L 54 (0, ei_load 5 1 56, 0, 0)) (e_L 56 (0, ei_load 3 1 57, 0, 0))))) (e_T 62 (e_T 57 (e_L 57 (2, e_nof, 297, 2)) (e_T 60 (e_L 60 (0, ei_load 9 0 62, 0, 0)) (e_L 62 (0, ei_push (0, 1) 63, 0, 0)))) (e_T 64 (e_T 63 (e_L 63 (0, ei_bin eF_add 64, 0, 0)) (e_L 64 (0, ei_load 9 0 66, 0, 0))) (e_T 66 (e_L 66 (0, ei_push (0, 2) 67, 0, 0)) (e_L 67 (0, ei_bin eF_add 68, 0, 0)))))) (e_T 78 (e_T 70 (e_T 68 (e_L 68 (0, ei_bin eF_mul 69, 0, 0)) (e_T 69 (e_L 69 (0, ei_un (fun x => (4, x)) 70, 0, 0)) (e_L 70 (0, ei_binL eG_div 71, 0, 0)))) (e_T 73 (e_T 71 (e_L 71 (0, ei_stor 5 1 73, 0, 0)) (e_L 73 (0, ei_inc 9 2 76, 0, 0))) (e_T 76 (e_L 76 (0, ei_load 10 0 78, 0, 0)) (e_L 78 (0, ei_if1 1 85 81, 0, 0))))) (e_T 85 (e_T 81 (e_L 81 (0, ei_push (0, 1) 82, 0, 0)) (e_T 82 (e_L 82 (0, ei_goto 86, 0, 0)) (e_L 85 (0, ei_push (0, 0) 86, 0, 0)))) (e_T 88 (e_T 86 (e_L 86 (0, ei_stor 10 0 88, 0, 0)) (e_L 88 (0, ei_goto 29, 0, 0))) (e_T 91 (e_L 91 (0, ei_load 7 1 93, 0, 0)) (e_L 93 (1, e_nof, 2, 0)))))))
set_option maxRecDepth 20000 in
set_option maxHeartbeats 4000000 in
theorem te_298_26_ok : ∀ pc, e_EOq eft cls elay eI n_298 pc (te_298_26 pc) :=
  (e_Tok2
  (e_Tok2
  (e_Tok2
  (e_Tok2
  (e_Lok (ld_lload_5 (x_dk dn_298_0_1_ok 1 rfl)))
  (e_Tok2
  (e_Lok (e_st (I := eI) (er_lneg (x_dk dn_298_0_1_ok 2 rfl)) (nx_unL (fun _ => rfl))))
  (e_Lok (e_st (I := eI) (er_ladd (x_dk dn_298_0_1_ok 3 rfl)) (nx_binL bG_ladd)))))
  (e_Tok2
  (e_Lok (e_st (I := eI) (er_lstore (i := 7) (x_dk dn_298_0_1_ok 4 rfl) (by decide +kernel)) nx_stor))
  (e_Tok2
  (e_Lok (ld_lload_5 (x_dk dn_298_0_1_ok 5 rfl)))
  (e_Lok (ld_lload_n_3 (x_dk dn_298_0_1_ok 6 rfl))))))
  (e_Tok2
  (e_Tok2
  (e_Lok (lk_12_374 ho_298 (x_dk dn_298_0_1_ok 7 rfl)))
  (e_Tok2
  (e_Lok (ld_iload_9 (x_dk dn_298_0_1_ok 8 rfl)))
  (e_Lok (ps_iconst_1 (x_dk dn_298_0_1_ok 9 rfl)))))
  (e_Tok2
  (e_Tok2
  (e_Lok (sm_iadd (x_dk dn_298_0_1_ok 10 rfl)))
  (e_Lok (ld_iload_9 (x_dk dn_298_0_1_ok 11 rfl))))
  (e_Tok2
  (e_Lok (ps_iconst_2 (x_dk dn_298_0_1_ok 12 rfl)))
  (e_Lok (sm_iadd (x_dk dn_298_0_1_ok 13 rfl)))))))
  (e_Tok2
  (e_Tok2
  (e_Tok2
  (e_Lok (sm_imul (x_dk dn_298_0_1_ok 14 rfl)))
  (e_Tok2
  (e_Lok (e_st (I := eI) (er_i2l (x_dk dn_298_0_1_ok 15 rfl)) (nx_un (fun _ => rfl))))
  (e_Lok (e_st (I := eI) (er_ldiv (x_dk dn_298_0_1_ok 16 rfl)) (nx_binL bG_ldiv)))))
  (e_Tok2
  (e_Tok2
  (e_Lok (e_st (I := eI) (er_lstore (i := 5) (x_dk dn_298_0_1_ok 17 rfl) (by decide +kernel)) nx_stor))
  (e_Lok (e_st (I := eI) (er_iinc (i := 9) (n := 2) (x_dk dn_298_0_1_ok 18 rfl) (by decide +kernel) (by decide)) nx_inc)))
  (e_Tok2
  (e_Lok (ld_iload_10 (x_dk dn_298_0_1_ok 19 rfl)))
  (e_Lok (e_st (I := eI) (er_ifne (off := 7) (tg := 85) (x_dk dn_298_0_1_ok 20 rfl) (by decide)) nx_if1)))))
  (e_Tok2
  (e_Tok2
  (e_Lok (ps_iconst_1 (x_dk dn_298_0_1_ok 21 rfl)))
  (e_Tok2
  (e_Lok (e_st (I := eI) (er_goto (off := 4) (tg := 86) (x_dk dn_298_0_1_ok 22 rfl) (by decide)) nx_goto))
  (e_Lok (ps_iconst_0 (x_dk dn_298_0_1_ok 23 rfl)))))
  (e_Tok2
  (e_Tok2
  (e_Lok (e_st (I := eI) (er_istore (i := 10) (x_dk dn_298_0_1_ok 24 rfl) (by decide +kernel)) nx_stor))
  (e_Lok (e_st (I := eI) (er_goto (off := (-59)) (tg := 29) (x_dk dn_298_0_2_ok 0 rfl) (by decide)) nx_goto)))
  (e_Tok2
  (e_Lok (ld_lload_7 (x_dk dn_298_0_2_ok 1 rfl)))
  (e_Lok (e_rt (I := eI) (k := 2) ⟨(x_dk dn_298_0_2_ok 2 rfl), rfl⟩)))))))
def te_298 : Nat → eE := (e_T 45 te_298_0 te_298_26)
theorem te_298_ok : ∀ pc, e_EOq eft cls elay eI n_298 pc (te_298 pc) := (e_Tok2 (te_298_0_ok) (te_298_26_ok))
theorem ho_299 : (xm_y n_299).cls = "RobotCellHouseModel" := rfl
def dn_299_0_0 : List (Nat × Instr × Nat) := [(0, .iconst 0, 1), (1, .istore_n 1, 1), (2, .iload_n 1, 1), (3, .sipush 512, 3), (6, .if_icmp .gt 68, 3), (9, .ldc2_w 380, 3), (12, .iload_n 1, 1), (13, .i2l, 1), (14, .lmul, 1), (15, .ldc2_w 382, 3), (18, .iload_n 1, 1), (19, .i2l, 1), (20, .lmul, 1), (21, .bipush 11, 2), (23, .lshr, 1), (24, .ladd, 1), (25, .lstore_n 2, 1), (26, .aload_n 0, 1), (27, .getfield 146, 3), (30, .iload_n 1, 1), (31, .lload_n 2, 1), (32, .iconst 1, 1), (33, .invokestatic 384, 3), (36, .ldc2_w 388, 3), (39, .ladd, 1)]
set_option maxRecDepth 20000 in
theorem dn_299_0_0_ok : dn_299_0_0.all (fun q => decide (decode (xm_b n_299) q.1 = .ok (q.2.1, q.2.2))) = true := xa_g_ok (by decide +kernel)
def dn_299_0_1 : List (Nat × Instr × Nat) := [(40, .bipush 40, 2), (42, .lshr, 1), (43, .l2i, 1), (44, .iastore, 1), (45, .aload_n 0, 1), (46, .getfield 146, 3), (49, .sipush 1024, 3), (52, .iload_n 1, 1), (53, .isub, 1), (54, .lload_n 2, 1), (55, .iconst 0, 1), (56, .invokestatic 384, 3), (59, .ldc2_w 388, 3), (62, .ladd, 1), (63, .bipush 40, 2), (65, .lshr, 1), (66, .l2i, 1), (67, .iastore, 1), (68, .iinc 1 1, 3), (71, .goto (-69), 3), (74, .return_, 1)]
set_option maxRecDepth 20000 in
theorem dn_299_0_1_ok : dn_299_0_1.all (fun q => decide (decode (xm_b n_299) q.1 = .ok (q.2.1, q.2.2))) = true := xa_g_ok (by decide +kernel)
def te_299_0 : Nat → eE := (e_T 18 (e_T 6 (e_T 1 (e_T 0 (e_L 0 (0, ei_push (0, 0) 1, 0, 0)) (e_L 1 (0, ei_stor 1 0 2, 0, 0))) (e_T 2 (e_L 2 (0, ei_load 1 0 3, 0, 0)) (e_T 3 (e_L 3 (0, ei_push (0, 512) 6, 0, 0)) (e_L 6 (0, ei_if2 4 74 9, 0, 0))))) (e_T 13 (e_T 9 (e_L 9 (0, ei_push (4, 1768559438007110) 12, 0, 0)) (e_T 12 (e_L 12 (0, ei_load 1 0 13, 0, 0)) (e_L 13 (0, ei_un (fun x => (4, x)) 14, 0, 0)))) (e_T 14 (e_L 14 (0, ei_binL eG_mul 15, 0, 0)) (e_T 15 (e_L 15 (0, ei_push (4, 141) 18, 0, 0)) (e_L 18 (0, ei_load 1 0 19, 0, 0)))))) (e_T 25 (e_T 21 (e_T 19 (e_L 19 (0, ei_un (fun x => (4, x)) 20, 0, 0)) (e_T 20 (e_L 20 (0, ei_binL eG_mul 21, 0, 0)) (e_L 21 (0, ei_push (0, 11) 23, 0, 0)))) (e_T 23 (e_L 23 (0, ei_shL (eSh (fun x y => x >>> (y.toInt64 &&& 63))) 24, 0, 0)) (e_T 24 (e_L 24 (0, ei_binL eG_add 25, 0, 0)) (e_L 25 (0, ei_stor 2 1 26, 0, 0))))) (e_T 30 (e_T 26 (e_L 26 (0, ei_load 0 2 27, 0, 0)) (e_T 27 (e_L 27 (0, ei_getf eft elay 12 54 30, 0, 0)) (e_L 30 (0, ei_load 1 0 31, 0, 0)))) (e_T 31 (e_L 31 (0, ei_load 2 1 32, 0, 0)) (e_T 32 (e_L 32 (0, ei_push (0, 1) 33, 0, 0)) (e_L 33 (2, e_nof, 298, 2)))))))
set_option maxRecDepth 20000 in
set_option maxHeartbeats 4000000 in
theorem te_299_0_ok : ∀ pc, e_EOq eft cls elay eI n_299 pc (te_299_0 pc) :=
  (e_Tok2
  (e_Tok2
  (e_Tok2
  (e_Tok2
  (e_Lok (ps_iconst_0 (x_dk dn_299_0_0_ok 0 rfl)))
  (e_Lok (e_st (I := eI) (er_istore_n (i := 1) (x_dk dn_299_0_0_ok 1 rfl) (by decide +kernel)) nx_stor)))
  (e_Tok2
  (e_Lok (ld_iload_n_1 (x_dk dn_299_0_0_ok 2 rfl)))
  (e_Tok2
  (e_Lok (ps_sipush_512 (x_dk dn_299_0_0_ok 3 rfl)))
  (e_Lok (e_st (I := eI) (er_icmpgt (off := 68) (tg := 74) (x_dk dn_299_0_0_ok 4 rfl) (by decide)) nx_if2)))))
  (e_Tok2
  (e_Tok2
  (e_Lok (e_st (I := eI) (er_ldc2 (ix := 380) (z := 1768559438007110) (v := 1768559438007110) (x_dk dn_299_0_0_ok 5 rfl) (in_t9 (List.mem_of_getElem? (i := 94) rfl) rfl) (by decide)) (nx_push (Or.inl rfl))))
  (e_Tok2
  (e_Lok (ld_iload_n_1 (x_dk dn_299_0_0_ok 6 rfl)))
  (e_Lok (e_st (I := eI) (er_i2l (x_dk dn_299_0_0_ok 7 rfl)) (nx_un (fun _ => rfl))))))
  (e_Tok2
  (e_Lok (e_st (I := eI) (er_lmul (x_dk dn_299_0_0_ok 8 rfl)) (nx_binL bG_lmul)))
  (e_Tok2
  (e_Lok (e_st (I := eI) (er_ldc2 (ix := 382) (z := 141) (v := 141) (x_dk dn_299_0_0_ok 9 rfl) (in_t9 (List.mem_of_getElem? (i := 95) rfl) rfl) (by decide)) (nx_push (Or.inl rfl))))
  (e_Lok (ld_iload_n_1 (x_dk dn_299_0_0_ok 10 rfl)))))))
  (e_Tok2
  (e_Tok2
  (e_Tok2
  (e_Lok (e_st (I := eI) (er_i2l (x_dk dn_299_0_0_ok 11 rfl)) (nx_un (fun _ => rfl))))
  (e_Tok2
  (e_Lok (e_st (I := eI) (er_lmul (x_dk dn_299_0_0_ok 12 rfl)) (nx_binL bG_lmul)))
  (e_Lok (ps_bipush_11 (x_dk dn_299_0_0_ok 13 rfl)))))
  (e_Tok2
  (e_Lok (e_st (I := eI) (er_lshr (x_dk dn_299_0_0_ok 14 rfl)) nx_shL))
  (e_Tok2
  (e_Lok (e_st (I := eI) (er_ladd (x_dk dn_299_0_0_ok 15 rfl)) (nx_binL bG_ladd)))
  (e_Lok (e_st (I := eI) (er_lstore_n (i := 2) (x_dk dn_299_0_0_ok 16 rfl) (by decide +kernel)) nx_stor)))))
  (e_Tok2
  (e_Tok2
  (e_Lok (ld_aload_n_0 (x_dk dn_299_0_0_ok 17 rfl)))
  (e_Tok2
  (e_Lok (lk_12_146g ho_299 (x_dk dn_299_0_0_ok 18 rfl)))
  (e_Lok (ld_iload_n_1 (x_dk dn_299_0_0_ok 19 rfl)))))
  (e_Tok2
  (e_Lok (ld_lload_n_2 (x_dk dn_299_0_0_ok 20 rfl)))
  (e_Tok2
  (e_Lok (ps_iconst_1 (x_dk dn_299_0_0_ok 21 rfl)))
  (e_Lok (lk_12_384 ho_299 (x_dk dn_299_0_0_ok 22 rfl))))))))
def te_299_23 : Nat → eE := (e_T 53 (e_T 43 (e_T 39 (e_T 36 (e_L 36 (0, ei_push (4, 549755813888) 39, 0, 0)) (e_L 39 (0, ei_binL eG_add 40, 0, 0))) (e_T 40 (e_L 40 (0, ei_push (0, 40) 42, 0, 0)) (e_T 42 (e_L 42 (0, ei_shL (eSh (fun x y => x >>> (y.toInt64 &&& 63))) 43, 0, 0)) (e_L 43 (0, ei_unL (fun x => (0, e32 x)) 44, 0, 0))))) (e_T 46 (e_T 44 (e_L 44 (0, ei_ast elay false 45, 0, 0)) (e_T 45 (e_L 45 (0, ei_load 0 2 46, 0, 0)) (e_L 46 (0, ei_getf eft elay 12 54 49, 0, 0)))) (e_T 49 (e_L 49 (0, ei_push (0, 1024) 52, 0, 0)) (e_T 52 (e_L 52 (0, ei_load 1 0 53, 0, 0)) (e_L 53 (0, ei_bin eF_sub 54, 0, 0)))))) (e_T 63 (e_T 56 (e_T 54 (e_L 54 (0, ei_load 2 1 55, 0, 0)) (e_T 55 (e_L 55 (0, ei_push (0, 0) 56, 0, 0)) (e_L 56 (2, e_nof, 298, 2)))) (e_T 59 (e_L 59 (0, ei_push (4, 549755813888) 62, 0, 0)) (e_T 62 (e_L 62 (0, ei_binL eG_add 63, 0, 0)) (e_L 63 (0, ei_push (0, 40) 65, 0, 0))))) (e_T 67 (e_T 65 (e_L 65 (0, ei_shL (eSh (fun x y => x >>> (y.toInt64 &&& 63))) 66, 0, 0)) (e_T 66 (e_L 66 (0, ei_unL (fun x => (0, e32 x)) 67, 0, 0)) (e_L 67 (0, ei_ast elay false 68, 0, 0)))) (e_T 68 (e_L 68 (0, ei_inc 1 1 71, 0, 0)) (e_T 71 (e_L 71 (0, ei_goto 2, 0, 0)) (e_L 74 (1, e_nof, 0, 0)))))))
set_option maxRecDepth 20000 in
set_option maxHeartbeats 4000000 in
theorem te_299_23_ok : ∀ pc, e_EOq eft cls elay eI n_299 pc (te_299_23 pc) :=
  (e_Tok2
  (e_Tok2
  (e_Tok2
  (e_Tok2
  (e_Lok (e_st (I := eI) (er_ldc2 (ix := 388) (z := 549755813888) (v := 549755813888) (x_dk dn_299_0_0_ok 23 rfl) (in_t9 (List.mem_of_getElem? (i := 104) rfl) rfl) (by decide)) (nx_push (Or.inl rfl))))
  (e_Lok (e_st (I := eI) (er_ladd (x_dk dn_299_0_0_ok 24 rfl)) (nx_binL bG_ladd))))
  (e_Tok2
  (e_Lok (ps_bipush_40 (x_dk dn_299_0_1_ok 0 rfl)))
  (e_Tok2
  (e_Lok (e_st (I := eI) (er_lshr (x_dk dn_299_0_1_ok 1 rfl)) nx_shL))
  (e_Lok (e_st (I := eI) (er_l2i (x_dk dn_299_0_1_ok 2 rfl)) (nx_unL (fun _ => rfl)))))))
  (e_Tok2
  (e_Tok2
  (e_Lok (sm_iastore (x_dk dn_299_0_1_ok 3 rfl)))
  (e_Tok2
  (e_Lok (ld_aload_n_0 (x_dk dn_299_0_1_ok 4 rfl)))
  (e_Lok (lk_12_146g ho_299 (x_dk dn_299_0_1_ok 5 rfl)))))
  (e_Tok2
  (e_Lok (ps_sipush_1024 (x_dk dn_299_0_1_ok 6 rfl)))
  (e_Tok2
  (e_Lok (ld_iload_n_1 (x_dk dn_299_0_1_ok 7 rfl)))
  (e_Lok (sm_isub (x_dk dn_299_0_1_ok 8 rfl)))))))
  (e_Tok2
  (e_Tok2
  (e_Tok2
  (e_Lok (ld_lload_n_2 (x_dk dn_299_0_1_ok 9 rfl)))
  (e_Tok2
  (e_Lok (ps_iconst_0 (x_dk dn_299_0_1_ok 10 rfl)))
  (e_Lok (lk_12_384 ho_299 (x_dk dn_299_0_1_ok 11 rfl)))))
  (e_Tok2
  (e_Lok (e_st (I := eI) (er_ldc2 (ix := 388) (z := 549755813888) (v := 549755813888) (x_dk dn_299_0_1_ok 12 rfl) (in_t9 (List.mem_of_getElem? (i := 104) rfl) rfl) (by decide)) (nx_push (Or.inl rfl))))
  (e_Tok2
  (e_Lok (e_st (I := eI) (er_ladd (x_dk dn_299_0_1_ok 13 rfl)) (nx_binL bG_ladd)))
  (e_Lok (ps_bipush_40 (x_dk dn_299_0_1_ok 14 rfl))))))
  (e_Tok2
  (e_Tok2
  (e_Lok (e_st (I := eI) (er_lshr (x_dk dn_299_0_1_ok 15 rfl)) nx_shL))
  (e_Tok2
  (e_Lok (e_st (I := eI) (er_l2i (x_dk dn_299_0_1_ok 16 rfl)) (nx_unL (fun _ => rfl))))
  (e_Lok (sm_iastore (x_dk dn_299_0_1_ok 17 rfl)))))
  (e_Tok2
  (e_Lok (e_st (I := eI) (er_iinc (i := 1) (n := 1) (x_dk dn_299_0_1_ok 18 rfl) (by decide +kernel) (by decide)) nx_inc))
  (e_Tok2
  (e_Lok (e_st (I := eI) (er_goto (off := (-69)) (tg := 2) (x_dk dn_299_0_1_ok 19 rfl) (by decide)) nx_goto))
  (e_Lok (e_rt (I := eI) (k := 0) ⟨(x_dk dn_299_0_1_ok 20 rfl), rfl⟩)))))))
def te_299 : Nat → eE := (e_T 33 te_299_0 te_299_23)
theorem te_299_ok : ∀ pc, e_EOq eft cls elay eI n_299 pc (te_299 pc) := (e_Tok2 (te_299_0_ok) (te_299_23_ok))
theorem ho_300 : (xm_y n_300).cls = "RobotCellHouseModel" := rfl
def dn_300_0_0 : List (Nat × Instr × Nat) := [(0, .iload_n 1, 1), (1, .sipush 4095, 3), (4, .iand, 1), (5, .istore_n 2, 1), (6, .iload_n 2, 1), (7, .sipush 1024, 3), (10, .if_icmp .gt 12, 3), (13, .aload_n 0, 1), (14, .getfield 146, 3), (17, .iload_n 2, 1), (18, .iaload, 1), (19, .goto 55, 3), (22, .iload_n 2, 1), (23, .sipush 2048, 3), (26, .if_icmp .gt 16, 3), (29, .aload_n 0, 1), (30, .getfield 146, 3), (33, .sipush 2048, 3), (36, .iload_n 2, 1), (37, .isub, 1), (38, .iaload, 1), (39, .goto 35, 3), (42, .iload_n 2, 1), (43, .sipush 3072, 3), (46, .if_icmp .gt 17, 3)]
set_option maxRecDepth 20000 in
theorem dn_300_0_0_ok : dn_300_0_0.all (fun q => decide (decode (xm_b n_300) q.1 = .ok (q.2.1, q.2.2))) = true := xa_g_ok (by decide +kernel)
def dn_300_0_1 : List (Nat × Instr × Nat) := [(49, .aload_n 0, 1), (50, .getfield 146, 3), (53, .iload_n 2, 1), (54, .sipush 2048, 3), (57, .isub, 1), (58, .iaload, 1), (59, .ineg, 1), (60, .goto 14, 3), (63, .aload_n 0, 1), (64, .getfield 146, 3), (67, .sipush 4096, 3), (70, .iload_n 2, 1), (71, .isub, 1), (72, .iaload, 1), (73, .ineg, 1), (74, .ireturn, 1)]
set_option maxRecDepth 20000 in
theorem dn_300_0_1_ok : dn_300_0_1.all (fun q => decide (decode (xm_b n_300) q.1 = .ok (q.2.1, q.2.2))) = true := xa_g_ok (by decide +kernel)
def te_300_0 : Nat → eE := (e_T 17 (e_T 6 (e_T 1 (e_T 0 (e_L 0 (0, ei_load 1 0 1, 0, 0)) (e_L 1 (0, ei_push (0, 4095) 4, 0, 0))) (e_T 4 (e_L 4 (0, ei_bin (eB (fun x y => x &&& y)) 5, 0, 0)) (e_T 5 (e_L 5 (0, ei_stor 2 0 6, 0, 0)) (e_L 6 (0, ei_load 2 0 7, 0, 0))))) (e_T 10 (e_T 7 (e_L 7 (0, ei_push (0, 1024) 10, 0, 0)) (e_L 10 (0, ei_if2 4 22 13, 0, 0))) (e_T 13 (e_L 13 (0, ei_load 0 2 14, 0, 0)) (e_T 14 (e_L 14 (0, ei_getf eft elay 12 54 17, 0, 0)) (e_L 17 (0, ei_load 2 0 18, 0, 0)))))) (e_T 26 (e_T 19 (e_T 18 (e_L 18 (0, ei_ald elay false 19, 0, 0)) (e_L 19 (0, ei_goto 74, 0, 0))) (e_T 22 (e_L 22 (0, ei_load 2 0 23, 0, 0)) (e_T 23 (e_L 23 (0, ei_push (0, 2048) 26, 0, 0)) (e_L 26 (0, ei_if2 4 42 29, 0, 0))))) (e_T 30 (e_T 29 (e_L 29 (0, ei_load 0 2 30, 0, 0)) (e_L 30 (0, ei_getf eft elay 12 54 33, 0, 0))) (e_T 33 (e_L 33 (0, ei_push (0, 2048) 36, 0, 0)) (e_T 36 (e_L 36 (0, ei_load 2 0 37, 0, 0)) (e_L 37 (0, ei_bin eF_sub 38, 0, 0)))))))
set_option maxRecDepth 20000 in
set_option maxHeartbeats 4000000 in
theorem te_300_0_ok : ∀ pc, e_EOq eft cls elay eI n_300 pc (te_300_0 pc) :=
  (e_Tok2
  (e_Tok2
  (e_Tok2
  (e_Tok2
  (e_Lok (ld_iload_n_1 (x_dk dn_300_0_0_ok 0 rfl)))
  (e_Lok (ps_sipush_4095 (x_dk dn_300_0_0_ok 1 rfl))))
  (e_Tok2
  (e_Lok (e_st (I := eI) (er_iand (x_dk dn_300_0_0_ok 2 rfl)) nx_bin))
  (e_Tok2
  (e_Lok (e_st (I := eI) (er_istore_n (i := 2) (x_dk dn_300_0_0_ok 3 rfl) (by decide +kernel)) nx_stor))
  (e_Lok (ld_iload_n_2 (x_dk dn_300_0_0_ok 4 rfl))))))
  (e_Tok2
  (e_Tok2
  (e_Lok (ps_sipush_1024 (x_dk dn_300_0_0_ok 5 rfl)))
  (e_Lok (e_st (I := eI) (er_icmpgt (off := 12) (tg := 22) (x_dk dn_300_0_0_ok 6 rfl) (by decide)) nx_if2)))
  (e_Tok2
  (e_Lok (ld_aload_n_0 (x_dk dn_300_0_0_ok 7 rfl)))
  (e_Tok2
  (e_Lok (lk_12_146g ho_300 (x_dk dn_300_0_0_ok 8 rfl)))
  (e_Lok (ld_iload_n_2 (x_dk dn_300_0_0_ok 9 rfl)))))))
  (e_Tok2
  (e_Tok2
  (e_Tok2
  (e_Lok (sm_iaload (x_dk dn_300_0_0_ok 10 rfl)))
  (e_Lok (e_st (I := eI) (er_goto (off := 55) (tg := 74) (x_dk dn_300_0_0_ok 11 rfl) (by decide)) nx_goto)))
  (e_Tok2
  (e_Lok (ld_iload_n_2 (x_dk dn_300_0_0_ok 12 rfl)))
  (e_Tok2
  (e_Lok (ps_sipush_2048 (x_dk dn_300_0_0_ok 13 rfl)))
  (e_Lok (e_st (I := eI) (er_icmpgt (off := 16) (tg := 42) (x_dk dn_300_0_0_ok 14 rfl) (by decide)) nx_if2)))))
  (e_Tok2
  (e_Tok2
  (e_Lok (ld_aload_n_0 (x_dk dn_300_0_0_ok 15 rfl)))
  (e_Lok (lk_12_146g ho_300 (x_dk dn_300_0_0_ok 16 rfl))))
  (e_Tok2
  (e_Lok (ps_sipush_2048 (x_dk dn_300_0_0_ok 17 rfl)))
  (e_Tok2
  (e_Lok (ld_iload_n_2 (x_dk dn_300_0_0_ok 18 rfl)))
  (e_Lok (sm_isub (x_dk dn_300_0_0_ok 19 rfl))))))))
def te_300_20 : Nat → eE := (e_T 57 (e_T 46 (e_T 39 (e_T 38 (e_L 38 (0, ei_ald elay false 39, 0, 0)) (e_L 39 (0, ei_goto 74, 0, 0))) (e_T 42 (e_L 42 (0, ei_load 2 0 43, 0, 0)) (e_T 43 (e_L 43 (0, ei_push (0, 3072) 46, 0, 0)) (e_L 46 (0, ei_if2 4 63 49, 0, 0))))) (e_T 50 (e_T 49 (e_L 49 (0, ei_load 0 2 50, 0, 0)) (e_L 50 (0, ei_getf eft elay 12 54 53, 0, 0))) (e_T 53 (e_L 53 (0, ei_load 2 0 54, 0, 0)) (e_T 54 (e_L 54 (0, ei_push (0, 2048) 57, 0, 0)) (e_L 57 (0, ei_bin eF_sub 58, 0, 0)))))) (e_T 64 (e_T 59 (e_T 58 (e_L 58 (0, ei_ald elay false 59, 0, 0)) (e_L 59 (0, ei_un (fun x => (0, e32 (-x))) 60, 0, 0))) (e_T 60 (e_L 60 (0, ei_goto 74, 0, 0)) (e_T 63 (e_L 63 (0, ei_load 0 2 64, 0, 0)) (e_L 64 (0, ei_getf eft elay 12 54 67, 0, 0))))) (e_T 71 (e_T 67 (e_L 67 (0, ei_push (0, 4096) 70, 0, 0)) (e_T 70 (e_L 70 (0, ei_load 2 0 71, 0, 0)) (e_L 71 (0, ei_bin eF_sub 72, 0, 0)))) (e_T 72 (e_L 72 (0, ei_ald elay false 73, 0, 0)) (e_T 73 (e_L 73 (0, ei_un (fun x => (0, e32 (-x))) 74, 0, 0)) (e_L 74 (1, e_nof, 1, 0)))))))
set_option maxRecDepth 20000 in
set_option maxHeartbeats 4000000 in
theorem te_300_20_ok : ∀ pc, e_EOq eft cls elay eI n_300 pc (te_300_20 pc) :=
  (e_Tok2
  (e_Tok2
  (e_Tok2
  (e_Tok2
  (e_Lok (sm_iaload (x_dk dn_300_0_0_ok 20 rfl)))
  (e_Lok (e_st (I := eI) (er_goto (off := 35) (tg := 74) (x_dk dn_300_0_0_ok 21 rfl) (by decide)) nx_goto)))
  (e_Tok2
  (e_Lok (ld_iload_n_2 (x_dk dn_300_0_0_ok 22 rfl)))
  (e_Tok2
  (e_Lok (ps_sipush_3072 (x_dk dn_300_0_0_ok 23 rfl)))
  (e_Lok (e_st (I := eI) (er_icmpgt (off := 17) (tg := 63) (x_dk dn_300_0_0_ok 24 rfl) (by decide)) nx_if2)))))
  (e_Tok2
  (e_Tok2
  (e_Lok (ld_aload_n_0 (x_dk dn_300_0_1_ok 0 rfl)))
  (e_Lok (lk_12_146g ho_300 (x_dk dn_300_0_1_ok 1 rfl))))
  (e_Tok2
  (e_Lok (ld_iload_n_2 (x_dk dn_300_0_1_ok 2 rfl)))
  (e_Tok2
  (e_Lok (ps_sipush_2048 (x_dk dn_300_0_1_ok 3 rfl)))
  (e_Lok (sm_isub (x_dk dn_300_0_1_ok 4 rfl)))))))
  (e_Tok2
  (e_Tok2
  (e_Tok2
  (e_Lok (sm_iaload (x_dk dn_300_0_1_ok 5 rfl)))
  (e_Lok (e_st (I := eI) (er_ineg (x_dk dn_300_0_1_ok 6 rfl)) (nx_un (fun _ => rfl)))))
  (e_Tok2
  (e_Lok (e_st (I := eI) (er_goto (off := 14) (tg := 74) (x_dk dn_300_0_1_ok 7 rfl) (by decide)) nx_goto))
  (e_Tok2
  (e_Lok (ld_aload_n_0 (x_dk dn_300_0_1_ok 8 rfl)))
  (e_Lok (lk_12_146g ho_300 (x_dk dn_300_0_1_ok 9 rfl))))))
  (e_Tok2
  (e_Tok2
  (e_Lok (ps_sipush_4096 (x_dk dn_300_0_1_ok 10 rfl)))
  (e_Tok2
  (e_Lok (ld_iload_n_2 (x_dk dn_300_0_1_ok 11 rfl)))
  (e_Lok (sm_isub (x_dk dn_300_0_1_ok 12 rfl)))))
  (e_Tok2
  (e_Lok (sm_iaload (x_dk dn_300_0_1_ok 13 rfl)))
  (e_Tok2
  (e_Lok (e_st (I := eI) (er_ineg (x_dk dn_300_0_1_ok 14 rfl)) (nx_un (fun _ => rfl))))
  (e_Lok (e_rt (I := eI) (k := 1) ⟨(x_dk dn_300_0_1_ok 15 rfl), rfl⟩)))))))
def te_300 : Nat → eE := (e_T 37 te_300_0 te_300_20)
theorem te_300_ok : ∀ pc, e_EOq eft cls elay eI n_300 pc (te_300 pc) := (e_Tok2 (te_300_0_ok) (te_300_20_ok))
theorem ho_301 : (xm_y n_301).cls = "RobotCellHouseModel" := rfl
def dn_301_0_0 : List (Nat × Instr × Nat) := [(0, .iload_n 2, 1), (1, .ifCond .eq 8, 3), (4, .bipush 28, 2), (6, .goto 7, 3), (9, .bipush 7, 2), (11, .iload_n 1, 1), (12, .imul, 1), (13, .istore_n 3, 1), (14, .ldc2_w 390, 3), (17, .aload_n 0, 1), (18, .getfield 31, 3), (21, .iload_n 1, 1), (22, .iaload, 1), (23, .i2l, 1), (24, .lmul, 1), (25, .lstore 4, 2), (27, .ldc2_w 390, 3), (30, .aload_n 0, 1), (31, .getfield 34, 3), (34, .iload_n 1, 1), (35, .iaload, 1), (36, .i2l, 1), (37, .lmul, 1), (38, .lstore 6, 2), (40, .aload_n 0, 1)]
set_option maxRecDepth 20000 in
theorem dn_301_0_0_ok : dn_301_0_0.all (fun q => decide (decode (xm_b n_301) q.1 = .ok (q.2.1, q.2.2))) = true := xa_g_ok (by decide +kernel)
def dn_301_0_1 : List (Nat × Instr × Nat) := [(41, .getfield 37, 3), (44, .iload_n 1, 1), (45, .iaload, 1), (46, .istore 8, 2), (48, .aload_n 0, 1), (49, .getfield 149, 3), (52, .iload_n 3, 1), (53, .aload_n 0, 1), (54, .getfield 31, 3), (57, .iload_n 1, 1), (58, .iaload, 1), (59, .iastore, 1), (60, .aload_n 0, 1), (61, .getfield 152, 3), (64, .iload_n 3, 1), (65, .aload_n 0, 1), (66, .getfield 34, 3), (69, .iload_n 1, 1), (70, .iaload, 1), (71, .iastore, 1), (72, .iconst 0, 1), (73, .istore 9, 2), (75, .iload 9, 2), (77, .aload_n 0, 1), (78, .getfield 43, 3)]
set_option maxRecDepth 20000 in
theorem dn_301_0_1_ok : dn_301_0_1.all (fun q => decide (decode (xm_b n_301) q.1 = .ok (q.2.1, q.2.2))) = true := xa_g_ok (by decide +kernel)
def dn_301_0_2 : List (Nat × Instr × Nat) := [(81, .iload_n 1, 1), (82, .iaload, 1), (83, .if_icmp .ge 165, 3), (86, .iload_n 2, 1), (87, .ifCond .eq 13, 3), (90, .aload_n 0, 1), (91, .getfield 155, 3), (94, .iload 9, 2), (96, .iaload, 1), (97, .goto 18, 3), (100, .aload_n 0, 1), (101, .getfield 8, 3), (104, .iload_n 1, 1), (105, .invokestatic 294, 3), (108, .bipush 16, 2), (110, .iadd, 1), (111, .iload 9, 2), (113, .iadd, 1), (114, .iaload, 1), (115, .istore 10, 2), (117, .aload_n 0, 1), (118, .getfield 61, 3), (121, .bipush 6, 2), (123, .iload_n 1, 1), (124, .imul, 1)]
set_option maxRecDepth 20000 in
theorem dn_301_0_2_ok : dn_301_0_2.all (fun q => decide (decode (xm_b n_301) q.1 = .ok (q.2.1, q.2.2))) = true := xa_g_ok (by decide +kernel)
def dn_301_0_3 : List (Nat × Instr × Nat) := [(125, .iload 9, 2), (127, .iadd, 1), (128, .iaload, 1), (129, .istore 11, 2), (131, .aload_n 0, 1), (132, .getfield 46, 3), (135, .bipush 6, 2), (137, .iload_n 1, 1), (138, .imul, 1), (139, .iload 9, 2), (141, .iadd, 1), (142, .iaload, 1), (143, .iconst 1, 1), (144, .if_icmp .ne 13, 3), (147, .iload 8, 2), (149, .iload 10, 2), (151, .iadd, 1), (152, .istore 8, 2), (154, .goto 10, 3), (157, .iload 11, 2), (159, .iload 10, 2), (161, .iadd, 1), (162, .istore 11, 2), (164, .lload 4, 2), (166, .iload 11, 2)]
set_option maxRecDepth 20000 in
theorem dn_301_0_3_ok : dn_301_0_3.all (fun q => decide (decode (xm_b n_301) q.1 = .ok (q.2.1, q.2.2))) = true := xa_g_ok (by decide +kernel)
def dn_301_1_0 : List (Nat × Instr × Nat) := [(168, .i2l, 1), (169, .aload_n 0, 1), (170, .iload 8, 2), (172, .sipush 1024, 3), (175, .iadd, 1), (176, .invokevirtual 392, 3), (179, .i2l, 1), (180, .lmul, 1), (181, .ladd, 1), (182, .lstore 4, 2), (184, .lload 6, 2), (186, .iload 11, 2), (188, .i2l, 1), (189, .aload_n 0, 1), (190, .iload 8, 2), (192, .invokevirtual 392, 3), (195, .i2l, 1), (196, .lmul, 1), (197, .ladd, 1), (198, .lstore 6, 2), (200, .aload_n 0, 1), (201, .getfield 149, 3), (204, .iload_n 3, 1), (205, .iload 9, 2), (207, .iadd, 1)]
set_option maxRecDepth 20000 in
theorem dn_301_1_0_ok : dn_301_1_0.all (fun q => decide (decode (xm_b n_301) q.1 = .ok (q.2.1, q.2.2))) = true := xa_g_ok (by decide +kernel)
def dn_301_1_1 : List (Nat × Instr × Nat) := [(208, .iconst 1, 1), (209, .iadd, 1), (210, .lload 4, 2), (212, .ldc2_w 395, 3), (215, .ladd, 1), (216, .bipush 20, 2), (218, .lshr, 1), (219, .l2i, 1), (220, .iastore, 1), (221, .aload_n 0, 1), (222, .getfield 152, 3), (225, .iload_n 3, 1), (226, .iload 9, 2), (228, .iadd, 1), (229, .iconst 1, 1), (230, .iadd, 1), (231, .lload 6, 2), (233, .ldc2_w 395, 3), (236, .ladd, 1), (237, .bipush 20, 2), (239, .lshr, 1), (240, .l2i, 1), (241, .iastore, 1), (242, .iinc 9 1, 3), (245, .goto (-170), 3)]
set_option maxRecDepth 20000 in
theorem dn_301_1_1_ok : dn_301_1_1.all (fun q => decide (decode (xm_b n_301) q.1 = .ok (q.2.1, q.2.2))) = true := xa_g_ok (by decide +kernel)
def dn_301_1_2 : List (Nat × Instr × Nat) := [(248, .return_, 1)]
set_option maxRecDepth 20000 in
theorem dn_301_1_2_ok : dn_301_1_2.all (fun q => decide (decode (xm_b n_301) q.1 = .ok (q.2.1, q.2.2))) = true := xa_g_ok (by decide +kernel)
def te_301_0 : Nat → eE := (e_T 30 (e_T 14 (e_T 6 (e_T 1 (e_T 0 (e_L 0 (0, ei_load 2 0 1, 0, 0)) (e_L 1 (0, ei_if1 0 9 4, 0, 0))) (e_T 4 (e_L 4 (0, ei_push (0, 28) 6, 0, 0)) (e_L 6 (0, ei_goto 13, 0, 0)))) (e_T 11 (e_T 9 (e_L 9 (0, ei_push (0, 7) 11, 0, 0)) (e_L 11 (0, ei_load 1 0 12, 0, 0))) (e_T 12 (e_L 12 (0, ei_bin eF_mul 13, 0, 0)) (e_T 13 (e_L 13 (0, ei_stor 3 0 14, 0, 0)) (e_L 14 (0, ei_push (4, 1048576) 17, 0, 0)))))) (e_T 22 (e_T 18 (e_T 17 (e_L 17 (0, ei_load 0 2 18, 0, 0)) (e_L 18 (0, ei_getf eft elay 12 11 21, 0, 0))) (e_T 21 (e_L 21 (0, ei_load 1 0 22, 0, 0)) (e_L 22 (0, ei_ald elay false 23, 0, 0)))) (e_T 24 (e_T 23 (e_L 23 (0, ei_un (fun x => (4, x)) 24, 0, 0)) (e_L 24 (0, ei_binL eG_mul 25, 0, 0))) (e_T 25 (e_L 25 (0, ei_stor 4 1 27, 0, 0)) (e_T 27 (e_L 27 (0, ei_push (4, 1048576) 30, 0, 0)) (e_L 30 (0, ei_load 0 2 31, 0, 0))))))) (e_T 44 (e_T 36 (e_T 34 (e_T 31 (e_L 31 (0, ei_getf eft elay 12 12 34, 0, 0)) (e_L 34 (0, ei_load 1 0 35, 0, 0))) (e_T 35 (e_L 35 (0, ei_ald elay false 36, 0, 0)) (e_L 36 (0, ei_un (fun x => (4, x)) 37, 0, 0)))) (e_T 38 (e_T 37 (e_L 37 (0, ei_binL eG_mul 38, 0, 0)) (e_L 38 (0, ei_stor 6 1 40, 0, 0))) (e_T 40 (e_L 40 (0, ei_load 0 2 41, 0, 0)) (e_T 41 (e_L 41 (0, ei_getf eft elay 12 13 44, 0, 0)) (e_L 44 (0, ei_load 1 0 45, 0, 0)))))) (e_T 52 (e_T 46 (e_T 45 (e_L 45 (0, ei_ald elay false 46, 0, 0)) (e_L 46 (0, ei_stor 8 0 48, 0, 0))) (e_T 48 (e_L 48 (0, ei_load 0 2 49, 0, 0)) (e_T 49 (e_L 49 (0, ei_getf eft elay 12 55 52, 0, 0)) (e_L 52 (0, ei_load 3 0 53, 0, 0))))) (e_T 54 (e_T 53 (e_L 53 (0, ei_load 0 2 54, 0, 0)) (e_L 54 (0, ei_getf eft elay 12 11 57, 0, 0))) (e_T 57 (e_L 57 (0, ei_load 1 0 58, 0, 0)) (e_T 58 (e_L 58 (0, ei_ald elay false 59, 0, 0)) (e_L 59 (0, ei_ast elay false 60, 0, 0))))))))
set_option maxRecDepth 20000 in
set_option maxHeartbeats 4000000 in
theorem te_301_0_ok : ∀ pc, e_EOq eft cls elay eI n_301 pc (te_301_0 pc) :=
  (e_Tok2
  (e_Tok2
  (e_Tok2
  (e_Tok2
  (e_Tok2
  (e_Lok (ld_iload_n_2 (x_dk dn_301_0_0_ok 0 rfl)))
  (e_Lok (e_st (I := eI) (er_ifeq (off := 8) (tg := 9) (x_dk dn_301_0_0_ok 1 rfl) (by decide)) nx_if1)))
  (e_Tok2
  (e_Lok (ps_bipush_28 (x_dk dn_301_0_0_ok 2 rfl)))
  (e_Lok (e_st (I := eI) (er_goto (off := 7) (tg := 13) (x_dk dn_301_0_0_ok 3 rfl) (by decide)) nx_goto))))
  (e_Tok2
  (e_Tok2
  (e_Lok (ps_bipush_7 (x_dk dn_301_0_0_ok 4 rfl)))
  (e_Lok (ld_iload_n_1 (x_dk dn_301_0_0_ok 5 rfl))))
  (e_Tok2
  (e_Lok (sm_imul (x_dk dn_301_0_0_ok 6 rfl)))
  (e_Tok2
  (e_Lok (e_st (I := eI) (er_istore_n (i := 3) (x_dk dn_301_0_0_ok 7 rfl) (by decide +kernel)) nx_stor))
  (e_Lok (e_st (I := eI) (er_ldc2 (ix := 390) (z := 1048576) (v := 1048576) (x_dk dn_301_0_0_ok 8 rfl) (in_t11 (List.mem_of_getElem? (i := 141) rfl) rfl) (by decide)) (nx_push (Or.inl rfl))))))))
  (e_Tok2
  (e_Tok2
  (e_Tok2
  (e_Lok (ld_aload_n_0 (x_dk dn_301_0_0_ok 9 rfl)))
  (e_Lok (lk_12_31g ho_301 (x_dk dn_301_0_0_ok 10 rfl))))
  (e_Tok2
  (e_Lok (ld_iload_n_1 (x_dk dn_301_0_0_ok 11 rfl)))
  (e_Lok (sm_iaload (x_dk dn_301_0_0_ok 12 rfl)))))
  (e_Tok2
  (e_Tok2
  (e_Lok (e_st (I := eI) (er_i2l (x_dk dn_301_0_0_ok 13 rfl)) (nx_un (fun _ => rfl))))
  (e_Lok (e_st (I := eI) (er_lmul (x_dk dn_301_0_0_ok 14 rfl)) (nx_binL bG_lmul))))
  (e_Tok2
  (e_Lok (e_st (I := eI) (er_lstore (i := 4) (x_dk dn_301_0_0_ok 15 rfl) (by decide +kernel)) nx_stor))
  (e_Tok2
  (e_Lok (e_st (I := eI) (er_ldc2 (ix := 390) (z := 1048576) (v := 1048576) (x_dk dn_301_0_0_ok 16 rfl) (in_t11 (List.mem_of_getElem? (i := 141) rfl) rfl) (by decide)) (nx_push (Or.inl rfl))))
  (e_Lok (ld_aload_n_0 (x_dk dn_301_0_0_ok 17 rfl))))))))
  (e_Tok2
  (e_Tok2
  (e_Tok2
  (e_Tok2
  (e_Lok (lk_12_34g ho_301 (x_dk dn_301_0_0_ok 18 rfl)))
  (e_Lok (ld_iload_n_1 (x_dk dn_301_0_0_ok 19 rfl))))
  (e_Tok2
  (e_Lok (sm_iaload (x_dk dn_301_0_0_ok 20 rfl)))
  (e_Lok (e_st (I := eI) (er_i2l (x_dk dn_301_0_0_ok 21 rfl)) (nx_un (fun _ => rfl))))))
  (e_Tok2
  (e_Tok2
  (e_Lok (e_st (I := eI) (er_lmul (x_dk dn_301_0_0_ok 22 rfl)) (nx_binL bG_lmul)))
  (e_Lok (e_st (I := eI) (er_lstore (i := 6) (x_dk dn_301_0_0_ok 23 rfl) (by decide +kernel)) nx_stor)))
  (e_Tok2
  (e_Lok (ld_aload_n_0 (x_dk dn_301_0_0_ok 24 rfl)))
  (e_Tok2
  (e_Lok (lk_12_37g ho_301 (x_dk dn_301_0_1_ok 0 rfl)))
  (e_Lok (ld_iload_n_1 (x_dk dn_301_0_1_ok 1 rfl)))))))
  (e_Tok2
  (e_Tok2
  (e_Tok2
  (e_Lok (sm_iaload (x_dk dn_301_0_1_ok 2 rfl)))
  (e_Lok (e_st (I := eI) (er_istore (i := 8) (x_dk dn_301_0_1_ok 3 rfl) (by decide +kernel)) nx_stor)))
  (e_Tok2
  (e_Lok (ld_aload_n_0 (x_dk dn_301_0_1_ok 4 rfl)))
  (e_Tok2
  (e_Lok (lk_12_149g ho_301 (x_dk dn_301_0_1_ok 5 rfl)))
  (e_Lok (ld_iload_n_3 (x_dk dn_301_0_1_ok 6 rfl))))))
  (e_Tok2
  (e_Tok2
  (e_Lok (ld_aload_n_0 (x_dk dn_301_0_1_ok 7 rfl)))
  (e_Lok (lk_12_31g ho_301 (x_dk dn_301_0_1_ok 8 rfl))))
  (e_Tok2
  (e_Lok (ld_iload_n_1 (x_dk dn_301_0_1_ok 9 rfl)))
  (e_Tok2
  (e_Lok (sm_iaload (x_dk dn_301_0_1_ok 10 rfl)))
  (e_Lok (sm_iastore (x_dk dn_301_0_1_ok 11 rfl)))))))))
def te_301_37 : Nat → eE := (e_T 90 (e_T 72 (e_T 65 (e_T 61 (e_T 60 (e_L 60 (0, ei_load 0 2 61, 0, 0)) (e_L 61 (0, ei_getf eft elay 12 56 64, 0, 0))) (e_T 64 (e_L 64 (0, ei_load 3 0 65, 0, 0)) (e_L 65 (0, ei_load 0 2 66, 0, 0)))) (e_T 69 (e_T 66 (e_L 66 (0, ei_getf eft elay 12 12 69, 0, 0)) (e_L 69 (0, ei_load 1 0 70, 0, 0))) (e_T 70 (e_L 70 (0, ei_ald elay false 71, 0, 0)) (e_T 71 (e_L 71 (0, ei_ast elay false 72, 0, 0)) (e_L 72 (0, ei_push (0, 0) 73, 0, 0)))))) (e_T 81 (e_T 75 (e_T 73 (e_L 73 (0, ei_stor 9 0 75, 0, 0)) (e_L 75 (0, ei_load 9 0 77, 0, 0))) (e_T 77 (e_L 77 (0, ei_load 0 2 78, 0, 0)) (e_T 78 (e_L 78 (0, ei_getf eft elay 12 15 81, 0, 0)) (e_L 81 (0, ei_load 1 0 82, 0, 0))))) (e_T 83 (e_T 82 (e_L 82 (0, ei_ald elay false 83, 0, 0)) (e_L 83 (0, ei_if2 3 248 86, 0, 0))) (e_T 86 (e_L 86 (0, ei_load 2 0 87, 0, 0)) (e_T 87 (e_L 87 (0, ei_if1 0 100 90, 0, 0)) (e_L 90 (0, ei_load 0 2 91, 0, 0))))))) (e_T 108 (e_T 97 (e_T 94 (e_T 91 (e_L 91 (0, ei_getf eft elay 12 57 94, 0, 0)) (e_L 94 (0, ei_load 9 0 96, 0, 0))) (e_T 96 (e_L 96 (0, ei_ald elay false 97, 0, 0)) (e_L 97 (0, ei_goto 115, 0, 0)))) (e_T 101 (e_T 100 (e_L 100 (0, ei_load 0 2 101, 0, 0)) (e_L 101 (0, ei_getf eft elay 12 0 104, 0, 0))) (e_T 104 (e_L 104 (0, ei_load 1 0 105, 0, 0)) (e_T 105 (e_L 105 (2, e_nof, 268, 1)) (e_L 108 (0, ei_push (0, 16) 110, 0, 0)))))) (e_T 115 (e_T 111 (e_T 110 (e_L 110 (0, ei_bin eF_add 111, 0, 0)) (e_L 111 (0, ei_load 9 0 113, 0, 0))) (e_T 113 (e_L 113 (0, ei_bin eF_add 114, 0, 0)) (e_T 114 (e_L 114 (0, ei_ald elay false 115, 0, 0)) (e_L 115 (0, ei_stor 10 0 117, 0, 0))))) (e_T 118 (e_T 117 (e_L 117 (0, ei_load 0 2 118, 0, 0)) (e_L 118 (0, ei_getf eft elay 12 21 121, 0, 0))) (e_T 121 (e_L 121 (0, ei_push (0, 6) 123, 0, 0)) (e_T 123 (e_L 123 (0, ei_load 1 0 124, 0, 0)) (e_L 124 (0, ei_bin eF_mul 125, 0, 0))))))))
set_option maxRecDepth 20000 in
set_option maxHeartbeats 4000000 in
theorem te_301_37_ok : ∀ pc, e_EOq eft cls elay eI n_301 pc (te_301_37 pc) :=
  (e_Tok2
  (e_Tok2
  (e_Tok2
  (e_Tok2
  (e_Tok2
  (e_Lok (ld_aload_n_0 (x_dk dn_301_0_1_ok 12 rfl)))
  (e_Lok (lk_12_152g ho_301 (x_dk dn_301_0_1_ok 13 rfl))))
  (e_Tok2
  (e_Lok (ld_iload_n_3 (x_dk dn_301_0_1_ok 14 rfl)))
  (e_Lok (ld_aload_n_0 (x_dk dn_301_0_1_ok 15 rfl)))))
  (e_Tok2
  (e_Tok2
  (e_Lok (lk_12_34g ho_301 (x_dk dn_301_0_1_ok 16 rfl)))
  (e_Lok (ld_iload_n_1 (x_dk dn_301_0_1_ok 17 rfl))))
  (e_Tok2
  (e_Lok (sm_iaload (x_dk dn_301_0_1_ok 18 rfl)))
  (e_Tok2
  (e_Lok (sm_iastore (x_dk dn_301_0_1_ok 19 rfl)))
  (e_Lok (ps_iconst_0 (x_dk dn_301_0_1_ok 20 rfl)))))))
  (e_Tok2
  (e_Tok2
  (e_Tok2
  (e_Lok (e_st (I := eI) (er_istore (i := 9) (x_dk dn_301_0_1_ok 21 rfl) (by decide +kernel)) nx_stor))
  (e_Lok (ld_iload_9 (x_dk dn_301_0_1_ok 22 rfl))))
  (e_Tok2
  (e_Lok (ld_aload_n_0 (x_dk dn_301_0_1_ok 23 rfl)))
  (e_Tok2
  (e_Lok (lk_12_43g ho_301 (x_dk dn_301_0_1_ok 24 rfl)))
  (e_Lok (ld_iload_n_1 (x_dk dn_301_0_2_ok 0 rfl))))))
  (e_Tok2
  (e_Tok2
  (e_Lok (sm_iaload (x_dk dn_301_0_2_ok 1 rfl)))
  (e_Lok (e_st (I := eI) (er_icmpge (off := 165) (tg := 248) (x_dk dn_301_0_2_ok 2 rfl) (by decide)) nx_if2)))
  (e_Tok2
  (e_Lok (ld_iload_n_2 (x_dk dn_301_0_2_ok 3 rfl)))
  (e_Tok2
  (e_Lok (e_st (I := eI) (er_ifeq (off := 13) (tg := 100) (x_dk dn_301_0_2_ok 4 rfl) (by decide)) nx_if1))
  (e_Lok (ld_aload_n_0 (x_dk dn_301_0_2_ok 5 rfl))))))))
  (e_Tok2
  (e_Tok2
  (e_Tok2
  (e_Tok2
  (e_Lok (lk_12_155g ho_301 (x_dk dn_301_0_2_ok 6 rfl)))
  (e_Lok (ld_iload_9 (x_dk dn_301_0_2_ok 7 rfl))))
  (e_Tok2
  (e_Lok (sm_iaload (x_dk dn_301_0_2_ok 8 rfl)))
  (e_Lok (e_st (I := eI) (er_goto (off := 18) (tg := 115) (x_dk dn_301_0_2_ok 9 rfl) (by decide)) nx_goto))))
  (e_Tok2
  (e_Tok2
  (e_Lok (ld_aload_n_0 (x_dk dn_301_0_2_ok 10 rfl)))
  (e_Lok (lk_12_8g ho_301 (x_dk dn_301_0_2_ok 11 rfl))))
  (e_Tok2
  (e_Lok (ld_iload_n_1 (x_dk dn_301_0_2_ok 12 rfl)))
  (e_Tok2
  (e_Lok (lk_12_294 ho_301 (x_dk dn_301_0_2_ok 13 rfl)))
  (e_Lok (ps_bipush_16 (x_dk dn_301_0_2_ok 14 rfl)))))))
  (e_Tok2
  (e_Tok2
  (e_Tok2
  (e_Lok (sm_iadd (x_dk dn_301_0_2_ok 15 rfl)))
  (e_Lok (ld_iload_9 (x_dk dn_301_0_2_ok 16 rfl))))
  (e_Tok2
  (e_Lok (sm_iadd (x_dk dn_301_0_2_ok 17 rfl)))
  (e_Tok2
  (e_Lok (sm_iaload (x_dk dn_301_0_2_ok 18 rfl)))
  (e_Lok (e_st (I := eI) (er_istore (i := 10) (x_dk dn_301_0_2_ok 19 rfl) (by decide +kernel)) nx_stor)))))
  (e_Tok2
  (e_Tok2
  (e_Lok (ld_aload_n_0 (x_dk dn_301_0_2_ok 20 rfl)))
  (e_Lok (lk_12_61g ho_301 (x_dk dn_301_0_2_ok 21 rfl))))
  (e_Tok2
  (e_Lok (ps_bipush_6 (x_dk dn_301_0_2_ok 22 rfl)))
  (e_Tok2
  (e_Lok (ld_iload_n_1 (x_dk dn_301_0_2_ok 23 rfl)))
  (e_Lok (sm_imul (x_dk dn_301_0_2_ok 24 rfl)))))))))
def te_301_75 : Nat → eE := (e_T 154 (e_T 138 (e_T 129 (e_T 127 (e_T 125 (e_L 125 (0, ei_load 9 0 127, 0, 0)) (e_L 127 (0, ei_bin eF_add 128, 0, 0))) (e_T 128 (e_L 128 (0, ei_ald elay false 129, 0, 0)) (e_L 129 (0, ei_stor 11 0 131, 0, 0)))) (e_T 132 (e_T 131 (e_L 131 (0, ei_load 0 2 132, 0, 0)) (e_L 132 (0, ei_getf eft elay 12 16 135, 0, 0))) (e_T 135 (e_L 135 (0, ei_push (0, 6) 137, 0, 0)) (e_T 137 (e_L 137 (0, ei_load 1 0 138, 0, 0)) (e_L 138 (0, ei_bin eF_mul 139, 0, 0)))))) (e_T 144 (e_T 141 (e_T 139 (e_L 139 (0, ei_load 9 0 141, 0, 0)) (e_L 141 (0, ei_bin eF_add 142, 0, 0))) (e_T 142 (e_L 142 (0, ei_ald elay false 143, 0, 0)) (e_T 143 (e_L 143 (0, ei_push (0, 1) 144, 0, 0)) (e_L 144 (0, ei_if2 1 157 147, 0, 0))))) (e_T 149 (e_T 147 (e_L 147 (0, ei_load 8 0 149, 0, 0)) (e_L 149 (0, ei_load 10 0 151, 0, 0))) (e_T 151 (e_L 151 (0, ei_bin eF_add 152, 0, 0)) (e_T 152 (e_L 152 (0, ei_stor 8 0 154, 0, 0)) (e_L 154 (0, ei_goto 164, 0, 0))))))) (e_T 170 (e_T 162 (e_T 159 (e_T 157 (e_L 157 (0, ei_load 11 0 159, 0, 0)) (e_L 159 (0, ei_load 10 0 161, 0, 0))) (e_T 161 (e_L 161 (0, ei_bin eF_add 162, 0, 0)) (e_L 162 (0, ei_stor 11 0 164, 0, 0)))) (e_T 166 (e_T 164 (e_L 164 (0, ei_load 4 1 166, 0, 0)) (e_L 166 (0, ei_load 11 0 168, 0, 0))) (e_T 168 (e_L 168 (0, ei_un (fun x => (4, x)) 169, 0, 0)) (e_T 169 (e_L 169 (0, ei_load 0 2 170, 0, 0)) (e_L 170 (0, ei_load 8 0 172, 0, 0)))))) (e_T 180 (e_T 175 (e_T 172 (e_L 172 (0, ei_push (0, 1024) 175, 0, 0)) (e_L 175 (0, ei_bin eF_add 176, 0, 0))) (e_T 176 (e_L 176 (2, e_nof, 300, 2)) (e_T 179 (e_L 179 (0, ei_un (fun x => (4, x)) 180, 0, 0)) (e_L 180 (0, ei_binL eG_mul 181, 0, 0))))) (e_T 182 (e_T 181 (e_L 181 (0, ei_binL eG_add 182, 0, 0)) (e_L 182 (0, ei_stor 4 1 184, 0, 0))) (e_T 184 (e_L 184 (0, ei_load 6 1 186, 0, 0)) (e_T 186 (e_L 186 (0, ei_load 11 0 188, 0, 0)) (e_L 188 (0, ei_un (fun x => (4, x)) 189, 0, 0))))))))
set_option maxRecDepth 20000 in
set_option maxHeartbeats 4000000 in
theorem te_301_75_ok : ∀ pc, e_EOq eft cls elay eI n_301 pc (te_301_75 pc) :=
  (e_Tok2
  (e_Tok2
  (e_Tok2
  (e_Tok2
  (e_Tok2
  (e_Lok (ld_iload_9 (x_dk dn_301_0_3_ok 0 rfl)))
  (e_Lok (sm_iadd (x_dk dn_301_0_3_ok 1 rfl))))
  (e_Tok2
  (e_Lok (sm_iaload (x_dk dn_301_0_3_ok 2 rfl)))
  (e_Lok (e_st (I := eI) (er_istore (i := 11) (x_dk dn_301_0_3_ok 3 rfl) (by decide +kernel)) nx_stor))))
  (e_Tok2
  (e_Tok2
  (e_Lok (ld_aload_n_0 (x_dk dn_301_0_3_ok 4 rfl)))
  (e_Lok (lk_12_46g ho_301 (x_dk dn_301_0_3_ok 5 rfl))))
  (e_Tok2
  (e_Lok (ps_bipush_6 (x_dk dn_301_0_3_ok 6 rfl)))
  (e_Tok2
  (e_Lok (ld_iload_n_1 (x_dk dn_301_0_3_ok 7 rfl)))
  (e_Lok (sm_imul (x_dk dn_301_0_3_ok 8 rfl)))))))
  (e_Tok2
  (e_Tok2
  (e_Tok2
  (e_Lok (ld_iload_9 (x_dk dn_301_0_3_ok 9 rfl)))
  (e_Lok (sm_iadd (x_dk dn_301_0_3_ok 10 rfl))))
  (e_Tok2
  (e_Lok (sm_iaload (x_dk dn_301_0_3_ok 11 rfl)))
  (e_Tok2
  (e_Lok (ps_iconst_1 (x_dk dn_301_0_3_ok 12 rfl)))
  (e_Lok (e_st (I := eI) (er_icmpne (off := 13) (tg := 157) (x_dk dn_301_0_3_ok 13 rfl) (by decide)) nx_if2)))))
  (e_Tok2
  (e_Tok2
  (e_Lok (ld_iload_8 (x_dk dn_301_0_3_ok 14 rfl)))
  (e_Lok (ld_iload_10 (x_dk dn_301_0_3_ok 15 rfl))))
  (e_Tok2
  (e_Lok (sm_iadd (x_dk dn_301_0_3_ok 16 rfl)))
  (e_Tok2
  (e_Lok (e_st (I := eI) (er_istore (i := 8) (x_dk dn_301_0_3_ok 17 rfl) (by decide +kernel)) nx_stor))
  (e_Lok (e_st (I := eI) (er_goto (off := 10) (tg := 164) (x_dk dn_301_0_3_ok 18 rfl) (by decide)) nx_goto)))))))
  (e_Tok2
  (e_Tok2
  (e_Tok2
  (e_Tok2
  (e_Lok (ld_iload_11 (x_dk dn_301_0_3_ok 19 rfl)))
  (e_Lok (ld_iload_10 (x_dk dn_301_0_3_ok 20 rfl))))
  (e_Tok2
  (e_Lok (sm_iadd (x_dk dn_301_0_3_ok 21 rfl)))
  (e_Lok (e_st (I := eI) (er_istore (i := 11) (x_dk dn_301_0_3_ok 22 rfl) (by decide +kernel)) nx_stor))))
  (e_Tok2
  (e_Tok2
  (e_Lok (ld_lload_4 (x_dk dn_301_0_3_ok 23 rfl)))
  (e_Lok (ld_iload_11 (x_dk dn_301_0_3_ok 24 rfl))))
  (e_Tok2
  (e_Lok (e_st (I := eI) (er_i2l (x_dk dn_301_1_0_ok 0 rfl)) (nx_un (fun _ => rfl))))
  (e_Tok2
  (e_Lok (ld_aload_n_0 (x_dk dn_301_1_0_ok 1 rfl)))
  (e_Lok (ld_iload_8 (x_dk dn_301_1_0_ok 2 rfl)))))))
  (e_Tok2
  (e_Tok2
  (e_Tok2
  (e_Lok (ps_sipush_1024 (x_dk dn_301_1_0_ok 3 rfl)))
  (e_Lok (sm_iadd (x_dk dn_301_1_0_ok 4 rfl))))
  (e_Tok2
  (e_Lok (lk_12_392 ho_301 (x_dk dn_301_1_0_ok 5 rfl)))
  (e_Tok2
  (e_Lok (e_st (I := eI) (er_i2l (x_dk dn_301_1_0_ok 6 rfl)) (nx_un (fun _ => rfl))))
  (e_Lok (e_st (I := eI) (er_lmul (x_dk dn_301_1_0_ok 7 rfl)) (nx_binL bG_lmul))))))
  (e_Tok2
  (e_Tok2
  (e_Lok (e_st (I := eI) (er_ladd (x_dk dn_301_1_0_ok 8 rfl)) (nx_binL bG_ladd)))
  (e_Lok (e_st (I := eI) (er_lstore (i := 4) (x_dk dn_301_1_0_ok 9 rfl) (by decide +kernel)) nx_stor)))
  (e_Tok2
  (e_Lok (ld_lload_6 (x_dk dn_301_1_0_ok 10 rfl)))
  (e_Tok2
  (e_Lok (ld_iload_11 (x_dk dn_301_1_0_ok 11 rfl)))
  (e_Lok (e_st (I := eI) (er_i2l (x_dk dn_301_1_0_ok 12 rfl)) (nx_un (fun _ => rfl))))))))))
def te_301_113 : Nat → eE := (e_T 218 (e_T 201 (e_T 195 (e_T 190 (e_T 189 (e_L 189 (0, ei_load 0 2 190, 0, 0)) (e_L 190 (0, ei_load 8 0 192, 0, 0))) (e_T 192 (e_L 192 (2, e_nof, 300, 2)) (e_L 195 (0, ei_un (fun x => (4, x)) 196, 0, 0)))) (e_T 197 (e_T 196 (e_L 196 (0, ei_binL eG_mul 197, 0, 0)) (e_L 197 (0, ei_binL eG_add 198, 0, 0))) (e_T 198 (e_L 198 (0, ei_stor 6 1 200, 0, 0)) (e_T 200 (e_L 200 (0, ei_load 0 2 201, 0, 0)) (e_L 201 (0, ei_getf eft elay 12 55 204, 0, 0)))))) (e_T 209 (e_T 205 (e_T 204 (e_L 204 (0, ei_load 3 0 205, 0, 0)) (e_L 205 (0, ei_load 9 0 207, 0, 0))) (e_T 207 (e_L 207 (0, ei_bin eF_add 208, 0, 0)) (e_T 208 (e_L 208 (0, ei_push (0, 1) 209, 0, 0)) (e_L 209 (0, ei_bin eF_add 210, 0, 0))))) (e_T 212 (e_T 210 (e_L 210 (0, ei_load 4 1 212, 0, 0)) (e_L 212 (0, ei_push (4, 524288) 215, 0, 0))) (e_T 215 (e_L 215 (0, ei_binL eG_add 216, 0, 0)) (e_T 216 (e_L 216 (0, ei_push (0, 20) 218, 0, 0)) (e_L 218 (0, ei_shL (eSh (fun x y => x >>> (y.toInt64 &&& 63))) 219, 0, 0))))))) (e_T 230 (e_T 222 (e_T 220 (e_T 219 (e_L 219 (0, ei_unL (fun x => (0, e32 x)) 220, 0, 0)) (e_L 220 (0, ei_ast elay false 221, 0, 0))) (e_T 221 (e_L 221 (0, ei_load 0 2 222, 0, 0)) (e_L 222 (0, ei_getf eft elay 12 56 225, 0, 0)))) (e_T 226 (e_T 225 (e_L 225 (0, ei_load 3 0 226, 0, 0)) (e_L 226 (0, ei_load 9 0 228, 0, 0))) (e_T 228 (e_L 228 (0, ei_bin eF_add 229, 0, 0)) (e_T 229 (e_L 229 (0, ei_push (0, 1) 230, 0, 0)) (e_L 230 (0, ei_bin eF_add 231, 0, 0)))))) (e_T 239 (e_T 233 (e_T 231 (e_L 231 (0, ei_load 6 1 233, 0, 0)) (e_L 233 (0, ei_push (4, 524288) 236, 0, 0))) (e_T 236 (e_L 236 (0, ei_binL eG_add 237, 0, 0)) (e_T 237 (e_L 237 (0, ei_push (0, 20) 239, 0, 0)) (e_L 239 (0, ei_shL (eSh (fun x y => x >>> (y.toInt64 &&& 63))) 240, 0, 0))))) (e_T 241 (e_T 240 (e_L 240 (0, ei_unL (fun x => (0, e32 x)) 241, 0, 0)) (e_L 241 (0, ei_ast elay false 242, 0, 0))) (e_T 242 (e_L 242 (0, ei_inc 9 1 245, 0, 0)) (e_T 245 (e_L 245 (0, ei_goto 75, 0, 0)) (e_L 248 (1, e_nof, 0, 0))))))))
set_option maxRecDepth 20000 in
set_option maxHeartbeats 4000000 in
theorem te_301_113_ok : ∀ pc, e_EOq eft cls elay eI n_301 pc (te_301_113 pc) :=
  (e_Tok2
  (e_Tok2
  (e_Tok2
  (e_Tok2
  (e_Tok2
  (e_Lok (ld_aload_n_0 (x_dk dn_301_1_0_ok 13 rfl)))
  (e_Lok (ld_iload_8 (x_dk dn_301_1_0_ok 14 rfl))))
  (e_Tok2
  (e_Lok (lk_12_392 ho_301 (x_dk dn_301_1_0_ok 15 rfl)))
  (e_Lok (e_st (I := eI) (er_i2l (x_dk dn_301_1_0_ok 16 rfl)) (nx_un (fun _ => rfl))))))
  (e_Tok2
  (e_Tok2
  (e_Lok (e_st (I := eI) (er_lmul (x_dk dn_301_1_0_ok 17 rfl)) (nx_binL bG_lmul)))
  (e_Lok (e_st (I := eI) (er_ladd (x_dk dn_301_1_0_ok 18 rfl)) (nx_binL bG_ladd))))
  (e_Tok2
  (e_Lok (e_st (I := eI) (er_lstore (i := 6) (x_dk dn_301_1_0_ok 19 rfl) (by decide +kernel)) nx_stor))
  (e_Tok2
  (e_Lok (ld_aload_n_0 (x_dk dn_301_1_0_ok 20 rfl)))
  (e_Lok (lk_12_149g ho_301 (x_dk dn_301_1_0_ok 21 rfl)))))))
  (e_Tok2
  (e_Tok2
  (e_Tok2
  (e_Lok (ld_iload_n_3 (x_dk dn_301_1_0_ok 22 rfl)))
  (e_Lok (ld_iload_9 (x_dk dn_301_1_0_ok 23 rfl))))
  (e_Tok2
  (e_Lok (sm_iadd (x_dk dn_301_1_0_ok 24 rfl)))
  (e_Tok2
  (e_Lok (ps_iconst_1 (x_dk dn_301_1_1_ok 0 rfl)))
  (e_Lok (sm_iadd (x_dk dn_301_1_1_ok 1 rfl))))))
  (e_Tok2
  (e_Tok2
  (e_Lok (ld_lload_4 (x_dk dn_301_1_1_ok 2 rfl)))
  (e_Lok (e_st (I := eI) (er_ldc2 (ix := 395) (z := 524288) (v := 524288) (x_dk dn_301_1_1_ok 3 rfl) (in_t11 (List.mem_of_getElem? (i := 146) rfl) rfl) (by decide)) (nx_push (Or.inl rfl)))))
  (e_Tok2
  (e_Lok (e_st (I := eI) (er_ladd (x_dk dn_301_1_1_ok 4 rfl)) (nx_binL bG_ladd)))
  (e_Tok2
  (e_Lok (ps_bipush_20 (x_dk dn_301_1_1_ok 5 rfl)))
  (e_Lok (e_st (I := eI) (er_lshr (x_dk dn_301_1_1_ok 6 rfl)) nx_shL)))))))
  (e_Tok2
  (e_Tok2
  (e_Tok2
  (e_Tok2
  (e_Lok (e_st (I := eI) (er_l2i (x_dk dn_301_1_1_ok 7 rfl)) (nx_unL (fun _ => rfl))))
  (e_Lok (sm_iastore (x_dk dn_301_1_1_ok 8 rfl))))
  (e_Tok2
  (e_Lok (ld_aload_n_0 (x_dk dn_301_1_1_ok 9 rfl)))
  (e_Lok (lk_12_152g ho_301 (x_dk dn_301_1_1_ok 10 rfl)))))
  (e_Tok2
  (e_Tok2
  (e_Lok (ld_iload_n_3 (x_dk dn_301_1_1_ok 11 rfl)))
  (e_Lok (ld_iload_9 (x_dk dn_301_1_1_ok 12 rfl))))
  (e_Tok2
  (e_Lok (sm_iadd (x_dk dn_301_1_1_ok 13 rfl)))
  (e_Tok2
  (e_Lok (ps_iconst_1 (x_dk dn_301_1_1_ok 14 rfl)))
  (e_Lok (sm_iadd (x_dk dn_301_1_1_ok 15 rfl)))))))
  (e_Tok2
  (e_Tok2
  (e_Tok2
  (e_Lok (ld_lload_6 (x_dk dn_301_1_1_ok 16 rfl)))
  (e_Lok (e_st (I := eI) (er_ldc2 (ix := 395) (z := 524288) (v := 524288) (x_dk dn_301_1_1_ok 17 rfl) (in_t11 (List.mem_of_getElem? (i := 146) rfl) rfl) (by decide)) (nx_push (Or.inl rfl)))))
  (e_Tok2
  (e_Lok (e_st (I := eI) (er_ladd (x_dk dn_301_1_1_ok 18 rfl)) (nx_binL bG_ladd)))
  (e_Tok2
  (e_Lok (ps_bipush_20 (x_dk dn_301_1_1_ok 19 rfl)))
  (e_Lok (e_st (I := eI) (er_lshr (x_dk dn_301_1_1_ok 20 rfl)) nx_shL)))))
  (e_Tok2
  (e_Tok2
  (e_Lok (e_st (I := eI) (er_l2i (x_dk dn_301_1_1_ok 21 rfl)) (nx_unL (fun _ => rfl))))
  (e_Lok (sm_iastore (x_dk dn_301_1_1_ok 22 rfl))))
  (e_Tok2
  (e_Lok (e_st (I := eI) (er_iinc (i := 9) (n := 1) (x_dk dn_301_1_1_ok 23 rfl) (by decide +kernel) (by decide)) nx_inc))
  (e_Tok2
  (e_Lok (e_st (I := eI) (er_goto (off := (-170)) (tg := 75) (x_dk dn_301_1_1_ok 24 rfl) (by decide)) nx_goto))
  (e_Lok (e_rt (I := eI) (k := 0) ⟨(x_dk dn_301_1_2_ok 0 rfl), rfl⟩))))))))
def te_301 : Nat → eE := (e_T 124 (e_T 59 te_301_0 te_301_37) (e_T 188 te_301_75 te_301_113))
theorem te_301_ok : ∀ pc, e_EOq eft cls elay eI n_301 pc (te_301 pc) := (e_Tok2 ((e_Tok2 (te_301_0_ok) (te_301_37_ok))) ((e_Tok2 (te_301_75_ok) (te_301_113_ok))))
theorem ho_302 : (xm_y n_302).cls = "RobotCellHouseModel" := rfl
def dn_302_0_0 : List (Nat × Instr × Nat) := [(0, .iconst 0, 1), (1, .istore_n 1, 1), (2, .iload_n 1, 1), (3, .aload_n 0, 1), (4, .getfield 269, 3), (7, .if_icmp .ge 15, 3), (10, .aload_n 0, 1), (11, .iload_n 1, 1), (12, .iconst 0, 1), (13, .invokevirtual 397, 3), (16, .iinc 1 1, 3), (19, .goto (-17), 3), (22, .return_, 1)]
set_option maxRecDepth 20000 in
theorem dn_302_0_0_ok : dn_302_0_0.all (fun q => decide (decode (xm_b n_302) q.1 = .ok (q.2.1, q.2.2))) = true := xa_g_ok (by decide +kernel)
def te_302_0 : Nat → eE := (e_T 7 (e_T 2 (e_T 0 (e_L 0 (0, ei_push (0, 0) 1, 0, 0)) (e_T 1 (e_L 1 (0, ei_stor 1 0 2, 0, 0)) (e_L 2 (0, ei_load 1 0 3, 0, 0)))) (e_T 3 (e_L 3 (0, ei_load 0 2 4, 0, 0)) (e_T 4 (e_L 4 (0, ei_getf eft elay 12 10 7, 0, 0)) (e_L 7 (0, ei_if2 3 22 10, 0, 0))))) (e_T 12 (e_T 10 (e_L 10 (0, ei_load 0 2 11, 0, 0)) (e_T 11 (e_L 11 (0, ei_load 1 0 12, 0, 0)) (e_L 12 (0, ei_push (0, 0) 13, 0, 0)))) (e_T 16 (e_T 13 (e_L 13 (2, e_nof, 301, 3)) (e_L 16 (0, ei_inc 1 1 19, 0, 0))) (e_T 19 (e_L 19 (0, ei_goto 2, 0, 0)) (e_L 22 (1, e_nof, 0, 0))))))
set_option maxRecDepth 20000 in
set_option maxHeartbeats 4000000 in
theorem te_302_0_ok : ∀ pc, e_EOq eft cls elay eI n_302 pc (te_302_0 pc) :=
  (e_Tok2
  (e_Tok2
  (e_Tok2
  (e_Lok (ps_iconst_0 (x_dk dn_302_0_0_ok 0 rfl)))
  (e_Tok2
  (e_Lok (e_st (I := eI) (er_istore_n (i := 1) (x_dk dn_302_0_0_ok 1 rfl) (by decide +kernel)) nx_stor))
  (e_Lok (ld_iload_n_1 (x_dk dn_302_0_0_ok 2 rfl)))))
  (e_Tok2
  (e_Lok (ld_aload_n_0 (x_dk dn_302_0_0_ok 3 rfl)))
  (e_Tok2
  (e_Lok (lk_12_269g ho_302 (x_dk dn_302_0_0_ok 4 rfl)))
  (e_Lok (e_st (I := eI) (er_icmpge (off := 15) (tg := 22) (x_dk dn_302_0_0_ok 5 rfl) (by decide)) nx_if2)))))
  (e_Tok2
  (e_Tok2
  (e_Lok (ld_aload_n_0 (x_dk dn_302_0_0_ok 6 rfl)))
  (e_Tok2
  (e_Lok (ld_iload_n_1 (x_dk dn_302_0_0_ok 7 rfl)))
  (e_Lok (ps_iconst_0 (x_dk dn_302_0_0_ok 8 rfl)))))
  (e_Tok2
  (e_Tok2
  (e_Lok (lk_12_397 ho_302 (x_dk dn_302_0_0_ok 9 rfl)))
  (e_Lok (e_st (I := eI) (er_iinc (i := 1) (n := 1) (x_dk dn_302_0_0_ok 10 rfl) (by decide +kernel) (by decide)) nx_inc)))
  (e_Tok2
  (e_Lok (e_st (I := eI) (er_goto (off := (-17)) (tg := 2) (x_dk dn_302_0_0_ok 11 rfl) (by decide)) nx_goto))
  (e_Lok (e_rt (I := eI) (k := 0) ⟨(x_dk dn_302_0_0_ok 12 rfl), rfl⟩))))))
def te_302 : Nat → eE := te_302_0
theorem te_302_ok : ∀ pc, e_EOq eft cls elay eI n_302 pc (te_302 pc) := te_302_0_ok
theorem ho_303 : (xm_y n_303).cls = "RobotCellHouseModel" := rfl
def dn_303_0_0 : List (Nat × Instr × Nat) := [(0, .aload_n 0, 1), (1, .invokevirtual 401, 3), (4, .iconst 0, 1), (5, .istore_n 1, 1), (6, .iload_n 1, 1), (7, .aload_n 0, 1), (8, .getfield 269, 3), (11, .if_icmp .ge 85, 3), (14, .iconst 0, 1), (15, .istore_n 2, 1), (16, .iload_n 2, 1), (17, .aload_n 0, 1), (18, .getfield 43, 3), (21, .iload_n 1, 1), (22, .iaload, 1), (23, .if_icmp .gt 67, 3), (26, .aload_n 0, 1), (27, .getfield 8, 3), (30, .sipush 20876, 3), (33, .bipush 14, 2), (35, .iload_n 1, 1), (36, .imul, 1), (37, .iadd, 1), (38, .iconst 2, 1), (39, .iload_n 2, 1)]
set_option maxRecDepth 20000 in
theorem dn_303_0_0_ok : dn_303_0_0.all (fun q => decide (decode (xm_b n_303) q.1 = .ok (q.2.1, q.2.2))) = true := xa_g_ok (by decide +kernel)
def dn_303_0_1 : List (Nat × Instr × Nat) := [(40, .imul, 1), (41, .iadd, 1), (42, .aload_n 0, 1), (43, .getfield 149, 3), (46, .bipush 7, 2), (48, .iload_n 1, 1), (49, .imul, 1), (50, .iload_n 2, 1), (51, .iadd, 1), (52, .iaload, 1), (53, .iastore, 1), (54, .aload_n 0, 1), (55, .getfield 8, 3), (58, .sipush 20876, 3), (61, .bipush 14, 2), (63, .iload_n 1, 1), (64, .imul, 1), (65, .iadd, 1), (66, .iconst 2, 1), (67, .iload_n 2, 1), (68, .imul, 1), (69, .iadd, 1), (70, .iconst 1, 1), (71, .iadd, 1), (72, .aload_n 0, 1)]
set_option maxRecDepth 20000 in
theorem dn_303_0_1_ok : dn_303_0_1.all (fun q => decide (decode (xm_b n_303) q.1 = .ok (q.2.1, q.2.2))) = true := xa_g_ok (by decide +kernel)
def dn_303_0_2 : List (Nat × Instr × Nat) := [(73, .getfield 152, 3), (76, .bipush 7, 2), (78, .iload_n 1, 1), (79, .imul, 1), (80, .iload_n 2, 1), (81, .iadd, 1), (82, .iaload, 1), (83, .iastore, 1), (84, .iinc 2 1, 3), (87, .goto (-71), 3), (90, .iinc 1 1, 3), (93, .goto (-87), 3), (96, .return_, 1)]
set_option maxRecDepth 20000 in
theorem dn_303_0_2_ok : dn_303_0_2.all (fun q => decide (decode (xm_b n_303) q.1 = .ok (q.2.1, q.2.2))) = true := xa_g_ok (by decide +kernel)
def te_303_0 : Nat → eE := (e_T 22 (e_T 8 (e_T 4 (e_T 0 (e_L 0 (0, ei_load 0 2 1, 0, 0)) (e_T 1 (e_L 1 (2, e_nof, 302, 1)) (e_L 4 (0, ei_push (0, 0) 5, 0, 0)))) (e_T 6 (e_T 5 (e_L 5 (0, ei_stor 1 0 6, 0, 0)) (e_L 6 (0, ei_load 1 0 7, 0, 0))) (e_T 7 (e_L 7 (0, ei_load 0 2 8, 0, 0)) (e_L 8 (0, ei_getf eft elay 12 10 11, 0, 0))))) (e_T 16 (e_T 14 (e_T 11 (e_L 11 (0, ei_if2 3 96 14, 0, 0)) (e_L 14 (0, ei_push (0, 0) 15, 0, 0))) (e_T 15 (e_L 15 (0, ei_stor 2 0 16, 0, 0)) (e_L 16 (0, ei_load 2 0 17, 0, 0)))) (e_T 18 (e_T 17 (e_L 17 (0, ei_load 0 2 18, 0, 0)) (e_L 18 (0, ei_getf eft elay 12 15 21, 0, 0))) (e_T 21 (e_L 21 (0, ei_load 1 0 22, 0, 0)) (e_L 22 (0, ei_ald elay false 23, 0, 0)))))) (e_T 37 (e_T 30 (e_T 26 (e_T 23 (e_L 23 (0, ei_if2 4 90 26, 0, 0)) (e_L 26 (0, ei_load 0 2 27, 0, 0))) (e_T 27 (e_L 27 (0, ei_getf eft elay 12 0 30, 0, 0)) (e_L 30 (0, ei_push (0, 20876) 33, 0, 0)))) (e_T 35 (e_T 33 (e_L 33 (0, ei_push (0, 14) 35, 0, 0)) (e_L 35 (0, ei_load 1 0 36, 0, 0))) (e_T 36 (e_L 36 (0, ei_bin eF_mul 37, 0, 0)) (e_L 37 (0, ei_bin eF_add 38, 0, 0))))) (e_T 41 (e_T 39 (e_T 38 (e_L 38 (0, ei_push (0, 2) 39, 0, 0)) (e_L 39 (0, ei_load 2 0 40, 0, 0))) (e_T 40 (e_L 40 (0, ei_bin eF_mul 41, 0, 0)) (e_L 41 (0, ei_bin eF_add 42, 0, 0)))) (e_T 43 (e_T 42 (e_L 42 (0, ei_load 0 2 43, 0, 0)) (e_L 43 (0, ei_getf eft elay 12 55 46, 0, 0))) (e_T 46 (e_L 46 (0, ei_push (0, 7) 48, 0, 0)) (e_L 48 (0, ei_load 1 0 49, 0, 0)))))))
set_option maxRecDepth 20000 in
set_option maxHeartbeats 4000000 in
theorem te_303_0_ok : ∀ pc, e_EOq eft cls elay eI n_303 pc (te_303_0 pc) :=
  (e_Tok2
  (e_Tok2
  (e_Tok2
  (e_Tok2
  (e_Lok (ld_aload_n_0 (x_dk dn_303_0_0_ok 0 rfl)))
  (e_Tok2
  (e_Lok (lk_12_401 ho_303 (x_dk dn_303_0_0_ok 1 rfl)))
  (e_Lok (ps_iconst_0 (x_dk dn_303_0_0_ok 2 rfl)))))
  (e_Tok2
  (e_Tok2
  (e_Lok (e_st (I := eI) (er_istore_n (i := 1) (x_dk dn_303_0_0_ok 3 rfl) (by decide +kernel)) nx_stor))
  (e_Lok (ld_iload_n_1 (x_dk dn_303_0_0_ok 4 rfl))))
  (e_Tok2
  (e_Lok (ld_aload_n_0 (x_dk dn_303_0_0_ok 5 rfl)))
  (e_Lok (lk_12_269g ho_303 (x_dk dn_303_0_0_ok 6 rfl))))))
  (e_Tok2
  (e_Tok2
  (e_Tok2
  (e_Lok (e_st (I := eI) (er_icmpge (off := 85) (tg := 96) (x_dk dn_303_0_0_ok 7 rfl) (by decide)) nx_if2))
  (e_Lok (ps_iconst_0 (x_dk dn_303_0_0_ok 8 rfl))))
  (e_Tok2
  (e_Lok (e_st (I := eI) (er_istore_n (i := 2) (x_dk dn_303_0_0_ok 9 rfl) (by decide +kernel)) nx_stor))
  (e_Lok (ld_iload_n_2 (x_dk dn_303_0_0_ok 10 rfl)))))
  (e_Tok2
  (e_Tok2
  (e_Lok (ld_aload_n_0 (x_dk dn_303_0_0_ok 11 rfl)))
  (e_Lok (lk_12_43g ho_303 (x_dk dn_303_0_0_ok 12 rfl))))
  (e_Tok2
  (e_Lok (ld_iload_n_1 (x_dk dn_303_0_0_ok 13 rfl)))
  (e_Lok (sm_iaload (x_dk dn_303_0_0_ok 14 rfl)))))))
  (e_Tok2
  (e_Tok2
  (e_Tok2
  (e_Tok2
  (e_Lok (e_st (I := eI) (er_icmpgt (off := 67) (tg := 90) (x_dk dn_303_0_0_ok 15 rfl) (by decide)) nx_if2))
  (e_Lok (ld_aload_n_0 (x_dk dn_303_0_0_ok 16 rfl))))
  (e_Tok2
  (e_Lok (lk_12_8g ho_303 (x_dk dn_303_0_0_ok 17 rfl)))
  (e_Lok (ps_sipush_20876 (x_dk dn_303_0_0_ok 18 rfl)))))
  (e_Tok2
  (e_Tok2
  (e_Lok (ps_bipush_14 (x_dk dn_303_0_0_ok 19 rfl)))
  (e_Lok (ld_iload_n_1 (x_dk dn_303_0_0_ok 20 rfl))))
  (e_Tok2
  (e_Lok (sm_imul (x_dk dn_303_0_0_ok 21 rfl)))
  (e_Lok (sm_iadd (x_dk dn_303_0_0_ok 22 rfl))))))
  (e_Tok2
  (e_Tok2
  (e_Tok2
  (e_Lok (ps_iconst_2 (x_dk dn_303_0_0_ok 23 rfl)))
  (e_Lok (ld_iload_n_2 (x_dk dn_303_0_0_ok 24 rfl))))
  (e_Tok2
  (e_Lok (sm_imul (x_dk dn_303_0_1_ok 0 rfl)))
  (e_Lok (sm_iadd (x_dk dn_303_0_1_ok 1 rfl)))))
  (e_Tok2
  (e_Tok2
  (e_Lok (ld_aload_n_0 (x_dk dn_303_0_1_ok 2 rfl)))
  (e_Lok (lk_12_149g ho_303 (x_dk dn_303_0_1_ok 3 rfl))))
  (e_Tok2
  (e_Lok (ps_bipush_7 (x_dk dn_303_0_1_ok 4 rfl)))
  (e_Lok (ld_iload_n_1 (x_dk dn_303_0_1_ok 5 rfl))))))))
def te_303_31 : Nat → eE := (e_T 69 (e_T 58 (e_T 52 (e_T 50 (e_T 49 (e_L 49 (0, ei_bin eF_mul 50, 0, 0)) (e_L 50 (0, ei_load 2 0 51, 0, 0))) (e_T 51 (e_L 51 (0, ei_bin eF_add 52, 0, 0)) (e_L 52 (0, ei_ald elay false 53, 0, 0)))) (e_T 54 (e_T 53 (e_L 53 (0, ei_ast elay false 54, 0, 0)) (e_L 54 (0, ei_load 0 2 55, 0, 0))) (e_T 55 (e_L 55 (0, ei_getf eft elay 12 0 58, 0, 0)) (e_L 58 (0, ei_push (0, 20876) 61, 0, 0))))) (e_T 65 (e_T 63 (e_T 61 (e_L 61 (0, ei_push (0, 14) 63, 0, 0)) (e_L 63 (0, ei_load 1 0 64, 0, 0))) (e_T 64 (e_L 64 (0, ei_bin eF_mul 65, 0, 0)) (e_L 65 (0, ei_bin eF_add 66, 0, 0)))) (e_T 67 (e_T 66 (e_L 66 (0, ei_push (0, 2) 67, 0, 0)) (e_L 67 (0, ei_load 2 0 68, 0, 0))) (e_T 68 (e_L 68 (0, ei_bin eF_mul 69, 0, 0)) (e_L 69 (0, ei_bin eF_add 70, 0, 0)))))) (e_T 80 (e_T 73 (e_T 71 (e_T 70 (e_L 70 (0, ei_push (0, 1) 71, 0, 0)) (e_L 71 (0, ei_bin eF_add 72, 0, 0))) (e_T 72 (e_L 72 (0, ei_load 0 2 73, 0, 0)) (e_L 73 (0, ei_getf eft elay 12 56 76, 0, 0)))) (e_T 78 (e_T 76 (e_L 76 (0, ei_push (0, 7) 78, 0, 0)) (e_L 78 (0, ei_load 1 0 79, 0, 0))) (e_T 79 (e_L 79 (0, ei_bin eF_mul 80, 0, 0)) (e_L 80 (0, ei_load 2 0 81, 0, 0))))) (e_T 84 (e_T 82 (e_T 81 (e_L 81 (0, ei_bin eF_add 82, 0, 0)) (e_L 82 (0, ei_ald elay false 83, 0, 0))) (e_T 83 (e_L 83 (0, ei_ast elay false 84, 0, 0)) (e_L 84 (0, ei_inc 2 1 87, 0, 0)))) (e_T 90 (e_T 87 (e_L 87 (0, ei_goto 16, 0, 0)) (e_L 90 (0, ei_inc 1 1 93, 0, 0))) (e_T 93 (e_L 93 (0, ei_goto 6, 0, 0)) (e_L 96 (1, e_nof, 0, 0)))))))
set_option maxRecDepth 20000 in
set_option maxHeartbeats 4000000 in
theorem te_303_31_ok : ∀ pc, e_EOq eft cls elay eI n_303 pc (te_303_31 pc) :=
  (e_Tok2
  (e_Tok2
  (e_Tok2
  (e_Tok2
  (e_Tok2
  (e_Lok (sm_imul (x_dk dn_303_0_1_ok 6 rfl)))
  (e_Lok (ld_iload_n_2 (x_dk dn_303_0_1_ok 7 rfl))))
  (e_Tok2
  (e_Lok (sm_iadd (x_dk dn_303_0_1_ok 8 rfl)))
  (e_Lok (sm_iaload (x_dk dn_303_0_1_ok 9 rfl)))))
  (e_Tok2
  (e_Tok2
  (e_Lok (sm_iastore (x_dk dn_303_0_1_ok 10 rfl)))
  (e_Lok (ld_aload_n_0 (x_dk dn_303_0_1_ok 11 rfl))))
  (e_Tok2
  (e_Lok (lk_12_8g ho_303 (x_dk dn_303_0_1_ok 12 rfl)))
  (e_Lok (ps_sipush_20876 (x_dk dn_303_0_1_ok 13 rfl))))))
  (e_Tok2
  (e_Tok2
  (e_Tok2
  (e_Lok (ps_bipush_14 (x_dk dn_303_0_1_ok 14 rfl)))
  (e_Lok (ld_iload_n_1 (x_dk dn_303_0_1_ok 15 rfl))))
  (e_Tok2
  (e_Lok (sm_imul (x_dk dn_303_0_1_ok 16 rfl)))
  (e_Lok (sm_iadd (x_dk dn_303_0_1_ok 17 rfl)))))
  (e_Tok2
  (e_Tok2
  (e_Lok (ps_iconst_2 (x_dk dn_303_0_1_ok 18 rfl)))
  (e_Lok (ld_iload_n_2 (x_dk dn_303_0_1_ok 19 rfl))))
  (e_Tok2
  (e_Lok (sm_imul (x_dk dn_303_0_1_ok 20 rfl)))
  (e_Lok (sm_iadd (x_dk dn_303_0_1_ok 21 rfl)))))))
  (e_Tok2
  (e_Tok2
  (e_Tok2
  (e_Tok2
  (e_Lok (ps_iconst_1 (x_dk dn_303_0_1_ok 22 rfl)))
  (e_Lok (sm_iadd (x_dk dn_303_0_1_ok 23 rfl))))
  (e_Tok2
  (e_Lok (ld_aload_n_0 (x_dk dn_303_0_1_ok 24 rfl)))
  (e_Lok (lk_12_152g ho_303 (x_dk dn_303_0_2_ok 0 rfl)))))
  (e_Tok2
  (e_Tok2
  (e_Lok (ps_bipush_7 (x_dk dn_303_0_2_ok 1 rfl)))
  (e_Lok (ld_iload_n_1 (x_dk dn_303_0_2_ok 2 rfl))))
  (e_Tok2
  (e_Lok (sm_imul (x_dk dn_303_0_2_ok 3 rfl)))
  (e_Lok (ld_iload_n_2 (x_dk dn_303_0_2_ok 4 rfl))))))
  (e_Tok2
  (e_Tok2
  (e_Tok2
  (e_Lok (sm_iadd (x_dk dn_303_0_2_ok 5 rfl)))
  (e_Lok (sm_iaload (x_dk dn_303_0_2_ok 6 rfl))))
  (e_Tok2
  (e_Lok (sm_iastore (x_dk dn_303_0_2_ok 7 rfl)))
  (e_Lok (e_st (I := eI) (er_iinc (i := 2) (n := 1) (x_dk dn_303_0_2_ok 8 rfl) (by decide +kernel) (by decide)) nx_inc))))
  (e_Tok2
  (e_Tok2
  (e_Lok (e_st (I := eI) (er_goto (off := (-71)) (tg := 16) (x_dk dn_303_0_2_ok 9 rfl) (by decide)) nx_goto))
  (e_Lok (e_st (I := eI) (er_iinc (i := 1) (n := 1) (x_dk dn_303_0_2_ok 10 rfl) (by decide +kernel) (by decide)) nx_inc)))
  (e_Tok2
  (e_Lok (e_st (I := eI) (er_goto (off := (-87)) (tg := 6) (x_dk dn_303_0_2_ok 11 rfl) (by decide)) nx_goto))
  (e_Lok (e_rt (I := eI) (k := 0) ⟨(x_dk dn_303_0_2_ok 12 rfl), rfl⟩)))))))
def te_303 : Nat → eE := (e_T 48 te_303_0 te_303_31)
theorem te_303_ok : ∀ pc, e_EOq eft cls elay eI n_303 pc (te_303 pc) := (e_Tok2 (te_303_0_ok) (te_303_31_ok))
end
