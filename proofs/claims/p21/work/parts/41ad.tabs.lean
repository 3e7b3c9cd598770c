noncomputable section
theorem ho_55 : (xm_y n_55).cls = "RobotCellHouse$Doer" := rfl
def dn_55_0_0 : List (Nat × Instr × Nat) := [(0, .iload_n 1, 1), (1, .invokestatic 261, 3), (4, .ifCond .eq 19, 3), (7, .aload_n 0, 1), (8, .aload_n 0, 1), (9, .getfield 20, 3), (12, .getfield 264, 3), (15, .iload_n 1, 1), (16, .iaload, 1), (17, .invokevirtual 239, 3), (20, .goto 8, 3), (23, .aload_n 0, 1), (24, .iconst 2, 1), (25, .invokevirtual 199, 3), (28, .return_, 1)]
set_option maxRecDepth 20000 in
theorem dn_55_0_0_ok : dn_55_0_0.all (fun q => decide (decode (xm_b n_55) q.1 = .ok (q.2.1, q.2.2))) = true := xa_g_ok (by decide +kernel)
def te_55_0 : Nat → eE := (e_T 12 (e_T 4 (e_T 0 (e_L 0 (0, ei_load 1 0 1, 0, 0)) (e_T 1 (e_L 1 (2, e_nof, 245, 1)) (e_L 4 (0, ei_if1 0 23 7, 0, 0)))) (e_T 8 (e_T 7 (e_L 7 (0, ei_load 0 2 8, 0, 0)) (e_L 8 (0, ei_load 0 2 9, 0, 0))) (e_T 9 (e_L 9 (0, ei_getf eft elay 3 1 12, 0, 0)) (e_L 12 (0, ei_getf eft elay 7 1 15, 0, 0))))) (e_T 20 (e_T 16 (e_T 15 (e_L 15 (0, ei_load 1 0 16, 0, 0)) (e_L 16 (0, ei_ald elay false 17, 0, 0))) (e_T 17 (e_L 17 (2, e_nof, 52, 2)) (e_L 20 (0, ei_goto 28, 0, 0)))) (e_T 24 (e_T 23 (e_L 23 (0, ei_load 0 2 24, 0, 0)) (e_L 24 (0, ei_push (0, 2) 25, 0, 0))) (e_T 25 (e_L 25 (2, e_nof, 46, 2)) (e_L 28 (1, e_nof, 0, 0))))))
set_option maxRecDepth 20000 in
set_option maxHeartbeats 4000000 in
theorem te_55_0_ok : ∀ pc, e_EOq eft cls elay eI n_55 pc (te_55_0 pc) :=
  (e_Tok2
  (e_Tok2
  (e_Tok2
  (e_Lok (ld_iload_n_1 (x_dk dn_55_0_0_ok 0 rfl)))
  (e_Tok2
  (e_Lok (lk_3_261 ho_55 (x_dk dn_55_0_0_ok 1 rfl)))
  (e_Lok (e_st (I := eI) (er_ifeq (off := 19) (tg := 23) (x_dk dn_55_0_0_ok 2 rfl) (by decide)) nx_if1))))
  (e_Tok2
  (e_Tok2
  (e_Lok (ld_aload_n_0 (x_dk dn_55_0_0_ok 3 rfl)))
  (e_Lok (ld_aload_n_0 (x_dk dn_55_0_0_ok 4 rfl))))
  (e_Tok2
  (e_Lok (lk_3_20g ho_55 (x_dk dn_55_0_0_ok 5 rfl)))
  (e_Lok (lk_3_264g ho_55 (x_dk dn_55_0_0_ok 6 rfl))))))
  (e_Tok2
  (e_Tok2
  (e_Tok2
  (e_Lok (ld_iload_n_1 (x_dk dn_55_0_0_ok 7 rfl)))
  (e_Lok (sm_iaload (x_dk dn_55_0_0_ok 8 rfl))))
  (e_Tok2
  (e_Lok (lk_3_239 ho_55 (x_dk dn_55_0_0_ok 9 rfl)))
  (e_Lok (e_st (I := eI) (er_goto (off := 8) (tg := 28) (x_dk dn_55_0_0_ok 10 rfl) (by decide)) nx_goto))))
  (e_Tok2
  (e_Tok2
  (e_Lok (ld_aload_n_0 (x_dk dn_55_0_0_ok 11 rfl)))
  (e_Lok (ps_iconst_2 (x_dk dn_55_0_0_ok 12 rfl))))
  (e_Tok2
  (e_Lok (lk_3_199 ho_55 (x_dk dn_55_0_0_ok 13 rfl)))
  (e_Lok (e_rt (I := eI) (k := 0) ⟨(x_dk dn_55_0_0_ok 14 rfl), rfl⟩))))))
def te_55 : Nat → eE := te_55_0
theorem te_55_ok : ∀ pc, e_EOq eft cls elay eI n_55 pc (te_55 pc) := te_55_0_ok
theorem ho_56 : (xm_y n_56).cls = "RobotCellHouse$Doer" := rfl
def dn_56_0_0 : List (Nat × Instr × Nat) := [(0, .iload_n 2, 1), (1, .iconst 0, 1), (2, .aload_n 1, 1), (3, .getfield 267, 3), (6, .iconst 1, 1), (7, .isub, 1), (8, .invokestatic 120, 3), (11, .ifCond .eq 19, 3), (14, .aload_n 0, 1), (15, .aload_n 1, 1), (16, .getfield 270, 3), (19, .iload_n 2, 1), (20, .aaload, 1), (21, .getfield 274, 3), (24, .invokevirtual 239, 3), (27, .goto 8, 3), (30, .aload_n 0, 1), (31, .iconst 2, 1), (32, .invokevirtual 199, 3), (35, .return_, 1)]
set_option maxRecDepth 20000 in
theorem dn_56_0_0_ok : dn_56_0_0.all (fun q => decide (decode (xm_b n_56) q.1 = .ok (q.2.1, q.2.2))) = true := xa_g_ok (by decide +kernel)
def te_56_0 : Nat → eE := (e_T 15 (e_T 6 (e_T 1 (e_T 0 (e_L 0 (0, ei_load 2 0 1, 0, 0)) (e_L 1 (0, ei_push (0, 0) 2, 0, 0))) (e_T 2 (e_L 2 (0, ei_load 1 2 3, 0, 0)) (e_T 3 (e_L 3 (0, ei_getf eft elay 0 8 6, 0, 0)) (e_L 6 (0, ei_push (0, 1) 7, 0, 0))))) (e_T 8 (e_T 7 (e_L 7 (0, ei_bin eF_sub 8, 0, 0)) (e_L 8 (2, e_nof, 242, 3))) (e_T 11 (e_L 11 (0, ei_if1 0 30 14, 0, 0)) (e_T 14 (e_L 14 (0, ei_load 0 2 15, 0, 0)) (e_L 15 (0, ei_load 1 2 16, 0, 0)))))) (e_T 24 (e_T 19 (e_T 16 (e_L 16 (0, ei_getf eft elay 0 0 19, 0, 0)) (e_L 19 (0, ei_load 2 0 20, 0, 0))) (e_T 20 (e_L 20 (0, ei_aald elay 21, 0, 0)) (e_T 21 (e_L 21 (0, ei_getf eft elay 5 7 24, 0, 0)) (e_L 24 (2, e_nof, 52, 2))))) (e_T 30 (e_T 27 (e_L 27 (0, ei_goto 35, 0, 0)) (e_L 30 (0, ei_load 0 2 31, 0, 0))) (e_T 31 (e_L 31 (0, ei_push (0, 2) 32, 0, 0)) (e_T 32 (e_L 32 (2, e_nof, 46, 2)) (e_L 35 (1, e_nof, 0, 0)))))))
set_option maxRecDepth 20000 in
set_option maxHeartbeats 4000000 in
theorem te_56_0_ok : ∀ pc, e_EOq eft cls elay eI n_56 pc (te_56_0 pc) :=
  (e_Tok2
  (e_Tok2
  (e_Tok2
  (e_Tok2
  (e_Lok (ld_iload_n_2 (x_dk dn_56_0_0_ok 0 rfl)))
  (e_Lok (ps_iconst_0 (x_dk dn_56_0_0_ok 1 rfl))))
  (e_Tok2
  (e_Lok (ld_aload_n_1 (x_dk dn_56_0_0_ok 2 rfl)))
  (e_Tok2
  (e_Lok (lk_3_267g ho_56 (x_dk dn_56_0_0_ok 3 rfl)))
  (e_Lok (ps_iconst_1 (x_dk dn_56_0_0_ok 4 rfl))))))
  (e_Tok2
  (e_Tok2
  (e_Lok (sm_isub (x_dk dn_56_0_0_ok 5 rfl)))
  (e_Lok (lk_3_120 ho_56 (x_dk dn_56_0_0_ok 6 rfl))))
  (e_Tok2
  (e_Lok (e_st (I := eI) (er_ifeq (off := 19) (tg := 30) (x_dk dn_56_0_0_ok 7 rfl) (by decide)) nx_if1))
  (e_Tok2
  (e_Lok (ld_aload_n_0 (x_dk dn_56_0_0_ok 8 rfl)))
  (e_Lok (ld_aload_n_1 (x_dk dn_56_0_0_ok 9 rfl)))))))
  (e_Tok2
  (e_Tok2
  (e_Tok2
  (e_Lok (lk_3_270g ho_56 (x_dk dn_56_0_0_ok 10 rfl)))
  (e_Lok (ld_iload_n_2 (x_dk dn_56_0_0_ok 11 rfl))))
  (e_Tok2
  (e_Lok (e_st (I := eI) (er_aaload (x_dk dn_56_0_0_ok 12 rfl)) nx_aald))
  (e_Tok2
  (e_Lok (lk_3_274g ho_56 (x_dk dn_56_0_0_ok 13 rfl)))
  (e_Lok (lk_3_239 ho_56 (x_dk dn_56_0_0_ok 14 rfl))))))
  (e_Tok2
  (e_Tok2
  (e_Lok (e_st (I := eI) (er_goto (off := 8) (tg := 35) (x_dk dn_56_0_0_ok 15 rfl) (by decide)) nx_goto))
  (e_Lok (ld_aload_n_0 (x_dk dn_56_0_0_ok 16 rfl))))
  (e_Tok2
  (e_Lok (ps_iconst_2 (x_dk dn_56_0_0_ok 17 rfl)))
  (e_Tok2
  (e_Lok (lk_3_199 ho_56 (x_dk dn_56_0_0_ok 18 rfl)))
  (e_Lok (e_rt (I := eI) (k := 0) ⟨(x_dk dn_56_0_0_ok 19 rfl), rfl⟩)))))))
def te_56 : Nat → eE := te_56_0
theorem te_56_ok : ∀ pc, e_EOq eft cls elay eI n_56 pc (te_56 pc) := te_56_0_ok
theorem ho_57 : (xm_y n_57).cls = "RobotCellHouse$Doer" := rfl
def dn_57_0_0 : List (Nat × Instr × Nat) := [(0, .aload_n 0, 1), (1, .invokevirtual 166, 3), (4, .istore 4, 2), (6, .iload_n 2, 1), (7, .tableswitch 94 9 12 #[29, 39, 56, 73], 29), (36, .aload_n 0, 1), (37, .iload 4, 2), (39, .ineg, 1), (40, .invokevirtual 239, 3), (43, .goto 76, 3), (46, .aload_n 0, 1), (47, .iload 4, 2), (49, .ifCond .ne 7, 3), (52, .iconst 1, 1), (53, .goto 4, 3), (56, .iconst 0, 1), (57, .invokevirtual 239, 3), (60, .goto 59, 3), (63, .aload_n 0, 1), (64, .iload 4, 2), (66, .ifCond .ne 7, 3), (69, .iconst 0, 1), (70, .goto 4, 3), (73, .iconst 1, 1), (74, .invokevirtual 239, 3)]
set_option maxRecDepth 20000 in
theorem dn_57_0_0_ok : dn_57_0_0.all (fun q => decide (decode (xm_b n_57) q.1 = .ok (q.2.1, q.2.2))) = true := xa_g_ok (by decide +kernel)
def dn_57_0_1 : List (Nat × Instr × Nat) := [(77, .goto 42, 3), (80, .iload 4, 2), (82, .ifCond .ne 6, 3), (85, .goto 34, 3), (88, .aload_n 0, 1), (89, .iconst 1, 1), (90, .invokevirtual 239, 3), (93, .aload_n 1, 1), (94, .iload_n 3, 1), (95, .putfield 141, 3), (98, .goto 21, 3), (101, .iload 4, 2), (103, .ifCond .eq 6, 3), (106, .goto 13, 3), (109, .aload_n 0, 1), (110, .iconst 0, 1), (111, .invokevirtual 239, 3), (114, .aload_n 1, 1), (115, .iload_n 3, 1), (116, .putfield 141, 3), (119, .return_, 1)]
set_option maxRecDepth 20000 in
theorem dn_57_0_1_ok : dn_57_0_1.all (fun q => decide (decode (xm_b n_57) q.1 = .ok (q.2.1, q.2.2))) = true := xa_g_ok (by decide +kernel)
def te_57_0 : Nat → eE := (e_T 46 (e_T 7 (e_T 1 (e_T 0 (e_L 0 (0, ei_load 0 2 1, 0, 0)) (e_L 1 (2, e_nof, 53, 1))) (e_T 4 (e_L 4 (0, ei_stor 4 0 6, 0, 0)) (e_T 6 (e_L 6 (0, ei_load 2 0 7, 0, 0)) (e_L 7 (0, ei_sw [((-2147483648), 8, 101), (9, 9, 36), (10, 10, 46), (11, 11, 63), (12, 12, 80), (13, 2147483647, 101)], 0, 0))))) (e_T 39 (e_T 36 (e_L 36 (0, ei_load 0 2 37, 0, 0)) (e_T 37 (e_L 37 (0, ei_load 4 0 39, 0, 0)) (e_L 39 (0, ei_un (fun x => (0, e32 (-x))) 40, 0, 0)))) (e_T 40 (e_L 40 (2, e_nof, 52, 2)) (e_T 43 (e_L 43 (0, ei_goto 119, 0, 0)) (e_L 46 (0, ei_load 0 2 47, 0, 0)))))) (e_T 57 (e_T 52 (e_T 47 (e_L 47 (0, ei_load 4 0 49, 0, 0)) (e_T 49 (e_L 49 (0, ei_if1 1 56 52, 0, 0)) (e_L 52 (0, ei_push (0, 1) 53, 0, 0)))) (e_T 53 (e_L 53 (0, ei_goto 57, 0, 0)) (e_T 56 (e_L 56 (0, ei_push (0, 0) 57, 0, 0)) (e_L 57 (2, e_nof, 52, 2))))) (e_T 64 (e_T 60 (e_L 60 (0, ei_goto 119, 0, 0)) (e_T 63 (e_L 63 (0, ei_load 0 2 64, 0, 0)) (e_L 64 (0, ei_load 4 0 66, 0, 0)))) (e_T 66 (e_L 66 (0, ei_if1 1 73 69, 0, 0)) (e_T 69 (e_L 69 (0, ei_push (0, 0) 70, 0, 0)) (e_L 70 (0, ei_goto 74, 0, 0)))))))
set_option maxRecDepth 20000 in
set_option maxHeartbeats 4000000 in
theorem te_57_0_ok : ∀ pc, e_EOq eft cls elay eI n_57 pc (te_57_0 pc) :=
  (e_Tok2
  (e_Tok2
  (e_Tok2
  (e_Tok2
  (e_Lok (ld_aload_n_0 (x_dk dn_57_0_0_ok 0 rfl)))
  (e_Lok (lk_3_166 ho_57 (x_dk dn_57_0_0_ok 1 rfl))))
  (e_Tok2
  (e_Lok (e_st (I := eI) (er_istore (i := 4) (x_dk dn_57_0_0_ok 2 rfl) (by decide +kernel)) nx_stor))
  (e_Tok2
  (e_Lok (ld_iload_n_2 (x_dk dn_57_0_0_ok 3 rfl)))
  (e_Lok (e_st (I := eI) (er_tsw (dflt := 94) (lo := 9) (hi := 12) (offs := #[29, 39, 56, 73]) (len := 29) (n := 4) (x_dk dn_57_0_0_ok 4 rfl) (by decide) (by decide +kernel)) nx_sw)))))
  (e_Tok2
  (e_Tok2
  (e_Lok (ld_aload_n_0 (x_dk dn_57_0_0_ok 5 rfl)))
  (e_Tok2
  (e_Lok (ld_iload_4 (x_dk dn_57_0_0_ok 6 rfl)))
  (e_Lok (e_st (I := eI) (er_ineg (x_dk dn_57_0_0_ok 7 rfl)) (nx_un (fun _ => rfl))))))
  (e_Tok2
  (e_Lok (lk_3_239 ho_57 (x_dk dn_57_0_0_ok 8 rfl)))
  (e_Tok2
  (e_Lok (e_st (I := eI) (er_goto (off := 76) (tg := 119) (x_dk dn_57_0_0_ok 9 rfl) (by decide)) nx_goto))
  (e_Lok (ld_aload_n_0 (x_dk dn_57_0_0_ok 10 rfl)))))))
  (e_Tok2
  (e_Tok2
  (e_Tok2
  (e_Lok (ld_iload_4 (x_dk dn_57_0_0_ok 11 rfl)))
  (e_Tok2
  (e_Lok (e_st (I := eI) (er_ifne (off := 7) (tg := 56) (x_dk dn_57_0_0_ok 12 rfl) (by decide)) nx_if1))
  (e_Lok (ps_iconst_1 (x_dk dn_57_0_0_ok 13 rfl)))))
  (e_Tok2
  (e_Lok (e_st (I := eI) (er_goto (off := 4) (tg := 57) (x_dk dn_57_0_0_ok 14 rfl) (by decide)) nx_goto))
  (e_Tok2
  (e_Lok (ps_iconst_0 (x_dk dn_57_0_0_ok 15 rfl)))
  (e_Lok (lk_3_239 ho_57 (x_dk dn_57_0_0_ok 16 rfl))))))
  (e_Tok2
  (e_Tok2
  (e_Lok (e_st (I := eI) (er_goto (off := 59) (tg := 119) (x_dk dn_57_0_0_ok 17 rfl) (by decide)) nx_goto))
  (e_Tok2
  (e_Lok (ld_aload_n_0 (x_dk dn_57_0_0_ok 18 rfl)))
  (e_Lok (ld_iload_4 (x_dk dn_57_0_0_ok 19 rfl)))))
  (e_Tok2
  (e_Lok (e_st (I := eI) (er_ifne (off := 7) (tg := 73) (x_dk dn_57_0_0_ok 20 rfl) (by decide)) nx_if1))
  (e_Tok2
  (e_Lok (ps_iconst_0 (x_dk dn_57_0_0_ok 21 rfl)))
  (e_Lok (e_st (I := eI) (er_goto (off := 4) (tg := 74) (x_dk dn_57_0_0_ok 22 rfl) (by decide)) nx_goto)))))))
def te_57_23 : Nat → eE := (e_T 94 (e_T 82 (e_T 74 (e_T 73 (e_L 73 (0, ei_push (0, 1) 74, 0, 0)) (e_L 74 (2, e_nof, 52, 2))) (e_T 77 (e_L 77 (0, ei_goto 119, 0, 0)) (e_T 80 (e_L 80 (0, ei_load 4 0 82, 0, 0)) (e_L 82 (0, ei_if1 1 88 85, 0, 0))))) (e_T 89 (e_T 85 (e_L 85 (0, ei_goto 119, 0, 0)) (e_T 88 (e_L 88 (0, ei_load 0 2 89, 0, 0)) (e_L 89 (0, ei_push (0, 1) 90, 0, 0)))) (e_T 90 (e_L 90 (2, e_nof, 52, 2)) (e_T 93 (e_L 93 (0, ei_load 1 2 94, 0, 0)) (e_L 94 (0, ei_load 3 0 95, 0, 0)))))) (e_T 109 (e_T 101 (e_T 95 (e_L 95 (0, ei_putf eft elay 10 3 0 98, 0, 0)) (e_T 98 (e_L 98 (0, ei_goto 119, 0, 0)) (e_L 101 (0, ei_load 4 0 103, 0, 0)))) (e_T 103 (e_L 103 (0, ei_if1 0 109 106, 0, 0)) (e_T 106 (e_L 106 (0, ei_goto 119, 0, 0)) (e_L 109 (0, ei_load 0 2 110, 0, 0))))) (e_T 114 (e_T 110 (e_L 110 (0, ei_push (0, 0) 111, 0, 0)) (e_T 111 (e_L 111 (2, e_nof, 52, 2)) (e_L 114 (0, ei_load 1 2 115, 0, 0)))) (e_T 115 (e_L 115 (0, ei_load 3 0 116, 0, 0)) (e_T 116 (e_L 116 (0, ei_putf eft elay 10 3 0 119, 0, 0)) (e_L 119 (1, e_nof, 0, 0)))))))
set_option maxRecDepth 20000 in
set_option maxHeartbeats 4000000 in
theorem te_57_23_ok : ∀ pc, e_EOq eft cls elay eI n_57 pc (te_57_23 pc) :=
  (e_Tok2
  (e_Tok2
  (e_Tok2
  (e_Tok2
  (e_Lok (ps_iconst_1 (x_dk dn_57_0_0_ok 23 rfl)))
  (e_Lok (lk_3_239 ho_57 (x_dk dn_57_0_0_ok 24 rfl))))
  (e_Tok2
  (e_Lok (e_st (I := eI) (er_goto (off := 42) (tg := 119) (x_dk dn_57_0_1_ok 0 rfl) (by decide)) nx_goto))
  (e_Tok2
  (e_Lok (ld_iload_4 (x_dk dn_57_0_1_ok 1 rfl)))
  (e_Lok (e_st (I := eI) (er_ifne (off := 6) (tg := 88) (x_dk dn_57_0_1_ok 2 rfl) (by decide)) nx_if1)))))
  (e_Tok2
  (e_Tok2
  (e_Lok (e_st (I := eI) (er_goto (off := 34) (tg := 119) (x_dk dn_57_0_1_ok 3 rfl) (by decide)) nx_goto))
  (e_Tok2
  (e_Lok (ld_aload_n_0 (x_dk dn_57_0_1_ok 4 rfl)))
  (e_Lok (ps_iconst_1 (x_dk dn_57_0_1_ok 5 rfl)))))
  (e_Tok2
  (e_Lok (lk_3_239 ho_57 (x_dk dn_57_0_1_ok 6 rfl)))
  (e_Tok2
  (e_Lok (ld_aload_n_1 (x_dk dn_57_0_1_ok 7 rfl)))
  (e_Lok (ld_iload_n_3 (x_dk dn_57_0_1_ok 8 rfl)))))))
  (e_Tok2
  (e_Tok2
  (e_Tok2
  (e_Lok (lk_3_141p ho_57 (x_dk dn_57_0_1_ok 9 rfl)))
  (e_Tok2
  (e_Lok (e_st (I := eI) (er_goto (off := 21) (tg := 119) (x_dk dn_57_0_1_ok 10 rfl) (by decide)) nx_goto))
  (e_Lok (ld_iload_4 (x_dk dn_57_0_1_ok 11 rfl)))))
  (e_Tok2
  (e_Lok (e_st (I := eI) (er_ifeq (off := 6) (tg := 109) (x_dk dn_57_0_1_ok 12 rfl) (by decide)) nx_if1))
  (e_Tok2
  (e_Lok (e_st (I := eI) (er_goto (off := 13) (tg := 119) (x_dk dn_57_0_1_ok 13 rfl) (by decide)) nx_goto))
  (e_Lok (ld_aload_n_0 (x_dk dn_57_0_1_ok 14 rfl))))))
  (e_Tok2
  (e_Tok2
  (e_Lok (ps_iconst_0 (x_dk dn_57_0_1_ok 15 rfl)))
  (e_Tok2
  (e_Lok (lk_3_239 ho_57 (x_dk dn_57_0_1_ok 16 rfl)))
  (e_Lok (ld_aload_n_1 (x_dk dn_57_0_1_ok 17 rfl)))))
  (e_Tok2
  (e_Lok (ld_iload_n_3 (x_dk dn_57_0_1_ok 18 rfl)))
  (e_Tok2
  (e_Lok (lk_3_141p ho_57 (x_dk dn_57_0_1_ok 19 rfl)))
  (e_Lok (e_rt (I := eI) (k := 0) ⟨(x_dk dn_57_0_1_ok 20 rfl), rfl⟩)))))))
def te_57 : Nat → eE := (e_T 70 te_57_0 te_57_23)
theorem te_57_ok : ∀ pc, e_EOq eft cls elay eI n_57 pc (te_57 pc) := (e_Tok2 (te_57_0_ok) (te_57_23_ok))
theorem ho_58 : (xm_y n_58).cls = "RobotCellHouse$Doer" := rfl
def dn_58_0_0 : List (Nat × Instr × Nat) := [(0, .iload_n 1, 1), (1, .bipush 17, 2), (3, .if_icmp .eq 9, 3), (6, .iload_n 1, 1), (7, .bipush 18, 2), (9, .if_icmp .ne 13, 3), (12, .iload_n 2, 1), (13, .ifCond .ne 9, 3), (16, .aload_n 0, 1), (17, .iconst 1, 1), (18, .invokevirtual 199, 3), (21, .return_, 1), (22, .iload_n 1, 1), (23, .tableswitch 204 14 23 #[53, 63, 73, 83, 101, 119, 136, 153, 170, 187], 53), (76, .aload_n 0, 1), (77, .iload_n 3, 1), (78, .iload_n 2, 1), (79, .iadd, 1), (80, .invokevirtual 239, 3), (83, .goto 158, 3), (86, .aload_n 0, 1), (87, .iload_n 3, 1), (88, .iload_n 2, 1), (89, .isub, 1), (90, .invokevirtual 239, 3)]
set_option maxRecDepth 20000 in
theorem dn_58_0_0_ok : dn_58_0_0.all (fun q => decide (decode (xm_b n_58) q.1 = .ok (q.2.1, q.2.2))) = true := xa_g_ok (by decide +kernel)
def dn_58_0_1 : List (Nat × Instr × Nat) := [(93, .goto 148, 3), (96, .aload_n 0, 1), (97, .iload_n 3, 1), (98, .iload_n 2, 1), (99, .imul, 1), (100, .invokevirtual 239, 3), (103, .goto 138, 3), (106, .aload_n 0, 1), (107, .iload_n 2, 1), (108, .ifCond .ne 7, 3), (111, .iconst 0, 1), (112, .goto 6, 3), (115, .iload_n 3, 1), (116, .iload_n 2, 1), (117, .idiv, 1), (118, .invokevirtual 239, 3), (121, .goto 120, 3), (124, .aload_n 0, 1), (125, .iload_n 2, 1), (126, .ifCond .ne 7, 3), (129, .iconst 0, 1), (130, .goto 6, 3), (133, .iload_n 3, 1), (134, .iload_n 2, 1), (135, .irem, 1)]
set_option maxRecDepth 20000 in
theorem dn_58_0_1_ok : dn_58_0_1.all (fun q => decide (decode (xm_b n_58) q.1 = .ok (q.2.1, q.2.2))) = true := xa_g_ok (by decide +kernel)
def dn_58_0_2 : List (Nat × Instr × Nat) := [(136, .invokevirtual 239, 3), (139, .goto 102, 3), (142, .aload_n 0, 1), (143, .iload_n 3, 1), (144, .iload_n 2, 1), (145, .if_icmp .ne 7, 3), (148, .iconst 1, 1), (149, .goto 4, 3), (152, .iconst 0, 1), (153, .invokevirtual 239, 3), (156, .goto 85, 3), (159, .aload_n 0, 1), (160, .iload_n 3, 1), (161, .iload_n 2, 1), (162, .if_icmp .eq 7, 3), (165, .iconst 1, 1), (166, .goto 4, 3), (169, .iconst 0, 1), (170, .invokevirtual 239, 3), (173, .goto 68, 3), (176, .aload_n 0, 1), (177, .iload_n 3, 1), (178, .iload_n 2, 1), (179, .if_icmp .ge 7, 3), (182, .iconst 1, 1)]
set_option maxRecDepth 20000 in
theorem dn_58_0_2_ok : dn_58_0_2.all (fun q => decide (decode (xm_b n_58) q.1 = .ok (q.2.1, q.2.2))) = true := xa_g_ok (by decide +kernel)
def dn_58_0_3 : List (Nat × Instr × Nat) := [(183, .goto 4, 3), (186, .iconst 0, 1), (187, .invokevirtual 239, 3), (190, .goto 51, 3), (193, .aload_n 0, 1), (194, .iload_n 3, 1), (195, .iload_n 2, 1), (196, .if_icmp .gt 7, 3), (199, .iconst 1, 1), (200, .goto 4, 3), (203, .iconst 0, 1), (204, .invokevirtual 239, 3), (207, .goto 34, 3), (210, .aload_n 0, 1), (211, .iload_n 3, 1), (212, .iload_n 2, 1), (213, .if_icmp .le 7, 3), (216, .iconst 1, 1), (217, .goto 4, 3), (220, .iconst 0, 1), (221, .invokevirtual 239, 3), (224, .goto 17, 3), (227, .aload_n 0, 1), (228, .iload_n 3, 1), (229, .iload_n 2, 1)]
set_option maxRecDepth 20000 in
theorem dn_58_0_3_ok : dn_58_0_3.all (fun q => decide (decode (xm_b n_58) q.1 = .ok (q.2.1, q.2.2))) = true := xa_g_ok (by decide +kernel)
def dn_58_1_0 : List (Nat × Instr × Nat) := [(230, .if_icmp .lt 7, 3), (233, .iconst 1, 1), (234, .goto 4, 3), (237, .iconst 0, 1), (238, .invokevirtual 239, 3), (241, .return_, 1)]
set_option maxRecDepth 20000 in
theorem dn_58_1_0_ok : dn_58_1_0.all (fun q => decide (decode (xm_b n_58) q.1 = .ok (q.2.1, q.2.2))) = true := xa_g_ok (by decide +kernel)
def te_58_0 : Nat → eE := (e_T 22 (e_T 9 (e_T 3 (e_T 0 (e_L 0 (0, ei_load 1 0 1, 0, 0)) (e_T 1 (e_L 1 (0, ei_push (0, 17) 3, 0, 0)) (e_L 3 (0, ei_if2 0 12 6, 0, 0)))) (e_T 6 (e_L 6 (0, ei_load 1 0 7, 0, 0)) (e_T 7 (e_L 7 (0, ei_push (0, 18) 9, 0, 0)) (e_L 9 (0, ei_if2 1 22 12, 0, 0))))) (e_T 16 (e_T 12 (e_L 12 (0, ei_load 2 0 13, 0, 0)) (e_T 13 (e_L 13 (0, ei_if1 1 22 16, 0, 0)) (e_L 16 (0, ei_load 0 2 17, 0, 0)))) (e_T 18 (e_T 17 (e_L 17 (0, ei_push (0, 1) 18, 0, 0)) (e_L 18 (2, e_nof, 46, 2))) (e_T 21 (e_L 21 (1, e_nof, 0, 0)) (e_L 22 (0, ei_load 1 0 23, 0, 0)))))) (e_T 80 (e_T 77 (e_T 23 (e_L 23 (0, ei_sw [((-2147483648), 13, 227), (14, 14, 76), (15, 15, 86), (16, 16, 96), (17, 17, 106), (18, 18, 124), (19, 19, 142), (20, 20, 159), (21, 21, 176), (22, 22, 193), (23, 23, 210), (24, 2147483647, 227)], 0, 0)) (e_T 76 (e_L 76 (0, ei_load 0 2 77, 0, 0)) (e_L 77 (0, ei_load 3 0 78, 0, 0)))) (e_T 78 (e_L 78 (0, ei_load 2 0 79, 0, 0)) (e_T 79 (e_L 79 (0, ei_bin eF_add 80, 0, 0)) (e_L 80 (2, e_nof, 52, 2))))) (e_T 87 (e_T 83 (e_L 83 (0, ei_goto 241, 0, 0)) (e_T 86 (e_L 86 (0, ei_load 0 2 87, 0, 0)) (e_L 87 (0, ei_load 3 0 88, 0, 0)))) (e_T 89 (e_T 88 (e_L 88 (0, ei_load 2 0 89, 0, 0)) (e_L 89 (0, ei_bin eF_sub 90, 0, 0))) (e_T 90 (e_L 90 (2, e_nof, 52, 2)) (e_L 93 (0, ei_goto 241, 0, 0)))))))
set_option maxRecDepth 20000 in
set_option maxHeartbeats 4000000 in
theorem te_58_0_ok : ∀ pc, e_EOq eft cls elay eI n_58 pc (te_58_0 pc) :=
  (e_Tok2
  (e_Tok2
  (e_Tok2
  (e_Tok2
  (e_Lok (ld_iload_n_1 (x_dk dn_58_0_0_ok 0 rfl)))
  (e_Tok2
  (e_Lok (ps_bipush_17 (x_dk dn_58_0_0_ok 1 rfl)))
  (e_Lok (e_st (I := eI) (er_icmpeq (off := 9) (tg := 12) (x_dk dn_58_0_0_ok 2 rfl) (by decide)) nx_if2))))
  (e_Tok2
  (e_Lok (ld_iload_n_1 (x_dk dn_58_0_0_ok 3 rfl)))
  (e_Tok2
  (e_Lok (ps_bipush_18 (x_dk dn_58_0_0_ok 4 rfl)))
  (e_Lok (e_st (I := eI) (er_icmpne (off := 13) (tg := 22) (x_dk dn_58_0_0_ok 5 rfl) (by decide)) nx_if2)))))
  (e_Tok2
  (e_Tok2
  (e_Lok (ld_iload_n_2 (x_dk dn_58_0_0_ok 6 rfl)))
  (e_Tok2
  (e_Lok (e_st (I := eI) (er_ifne (off := 9) (tg := 22) (x_dk dn_58_0_0_ok 7 rfl) (by decide)) nx_if1))
  (e_Lok (ld_aload_n_0 (x_dk dn_58_0_0_ok 8 rfl)))))
  (e_Tok2
  (e_Tok2
  (e_Lok (ps_iconst_1 (x_dk dn_58_0_0_ok 9 rfl)))
  (e_Lok (lk_3_199 ho_58 (x_dk dn_58_0_0_ok 10 rfl))))
  (e_Tok2
  (e_Lok (e_rt (I := eI) (k := 0) ⟨(x_dk dn_58_0_0_ok 11 rfl), rfl⟩))
  (e_Lok (ld_iload_n_1 (x_dk dn_58_0_0_ok 12 rfl)))))))
  (e_Tok2
  (e_Tok2
  (e_Tok2
  (e_Lok (e_st (I := eI) (er_tsw (dflt := 204) (lo := 14) (hi := 23) (offs := #[53, 63, 73, 83, 101, 119, 136, 153, 170, 187]) (len := 53) (n := 10) (x_dk dn_58_0_0_ok 13 rfl) (by decide) (by decide +kernel)) nx_sw))
  (e_Tok2
  (e_Lok (ld_aload_n_0 (x_dk dn_58_0_0_ok 14 rfl)))
  (e_Lok (ld_iload_n_3 (x_dk dn_58_0_0_ok 15 rfl)))))
  (e_Tok2
  (e_Lok (ld_iload_n_2 (x_dk dn_58_0_0_ok 16 rfl)))
  (e_Tok2
  (e_Lok (sm_iadd (x_dk dn_58_0_0_ok 17 rfl)))
  (e_Lok (lk_3_239 ho_58 (x_dk dn_58_0_0_ok 18 rfl))))))
  (e_Tok2
  (e_Tok2
  (e_Lok (e_st (I := eI) (er_goto (off := 158) (tg := 241) (x_dk dn_58_0_0_ok 19 rfl) (by decide)) nx_goto))
  (e_Tok2
  (e_Lok (ld_aload_n_0 (x_dk dn_58_0_0_ok 20 rfl)))
  (e_Lok (ld_iload_n_3 (x_dk dn_58_0_0_ok 21 rfl)))))
  (e_Tok2
  (e_Tok2
  (e_Lok (ld_iload_n_2 (x_dk dn_58_0_0_ok 22 rfl)))
  (e_Lok (sm_isub (x_dk dn_58_0_0_ok 23 rfl))))
  (e_Tok2
  (e_Lok (lk_3_239 ho_58 (x_dk dn_58_0_0_ok 24 rfl)))
  (e_Lok (e_st (I := eI) (er_goto (off := 148) (tg := 241) (x_dk dn_58_0_1_ok 0 rfl) (by decide)) nx_goto)))))))
def te_58_26 : Nat → eE := (e_T 116 (e_T 103 (e_T 98 (e_T 96 (e_L 96 (0, ei_load 0 2 97, 0, 0)) (e_T 97 (e_L 97 (0, ei_load 3 0 98, 0, 0)) (e_L 98 (0, ei_load 2 0 99, 0, 0)))) (e_T 99 (e_L 99 (0, ei_bin eF_mul 100, 0, 0)) (e_T 100 (e_L 100 (2, e_nof, 52, 2)) (e_L 103 (0, ei_goto 241, 0, 0))))) (e_T 108 (e_T 106 (e_L 106 (0, ei_load 0 2 107, 0, 0)) (e_T 107 (e_L 107 (0, ei_load 2 0 108, 0, 0)) (e_L 108 (0, ei_if1 1 115 111, 0, 0)))) (e_T 112 (e_T 111 (e_L 111 (0, ei_push (0, 0) 112, 0, 0)) (e_L 112 (0, ei_goto 118, 0, 0))) (e_T 115 (e_L 115 (0, ei_load 3 0 116, 0, 0)) (e_L 116 (0, ei_load 2 0 117, 0, 0)))))) (e_T 129 (e_T 121 (e_T 117 (e_L 117 (0, ei_bin eF_div 118, 0, 0)) (e_T 118 (e_L 118 (2, e_nof, 52, 2)) (e_L 121 (0, ei_goto 241, 0, 0)))) (e_T 125 (e_T 124 (e_L 124 (0, ei_load 0 2 125, 0, 0)) (e_L 125 (0, ei_load 2 0 126, 0, 0))) (e_T 126 (e_L 126 (0, ei_if1 1 133 129, 0, 0)) (e_L 129 (0, ei_push (0, 0) 130, 0, 0))))) (e_T 134 (e_T 130 (e_L 130 (0, ei_goto 136, 0, 0)) (e_T 133 (e_L 133 (0, ei_load 3 0 134, 0, 0)) (e_L 134 (0, ei_load 2 0 135, 0, 0)))) (e_T 136 (e_T 135 (e_L 135 (0, ei_bin eF_rem 136, 0, 0)) (e_L 136 (2, e_nof, 52, 2))) (e_T 139 (e_L 139 (0, ei_goto 241, 0, 0)) (e_L 142 (0, ei_load 0 2 143, 0, 0)))))))
set_option maxRecDepth 20000 in
set_option maxHeartbeats 4000000 in
theorem te_58_26_ok : ∀ pc, e_EOq eft cls elay eI n_58 pc (te_58_26 pc) :=
  (e_Tok2
  (e_Tok2
  (e_Tok2
  (e_Tok2
  (e_Lok (ld_aload_n_0 (x_dk dn_58_0_1_ok 1 rfl)))
  (e_Tok2
  (e_Lok (ld_iload_n_3 (x_dk dn_58_0_1_ok 2 rfl)))
  (e_Lok (ld_iload_n_2 (x_dk dn_58_0_1_ok 3 rfl)))))
  (e_Tok2
  (e_Lok (sm_imul (x_dk dn_58_0_1_ok 4 rfl)))
  (e_Tok2
  (e_Lok (lk_3_239 ho_58 (x_dk dn_58_0_1_ok 5 rfl)))
  (e_Lok (e_st (I := eI) (er_goto (off := 138) (tg := 241) (x_dk dn_58_0_1_ok 6 rfl) (by decide)) nx_goto)))))
  (e_Tok2
  (e_Tok2
  (e_Lok (ld_aload_n_0 (x_dk dn_58_0_1_ok 7 rfl)))
  (e_Tok2
  (e_Lok (ld_iload_n_2 (x_dk dn_58_0_1_ok 8 rfl)))
  (e_Lok (e_st (I := eI) (er_ifne (off := 7) (tg := 115) (x_dk dn_58_0_1_ok 9 rfl) (by decide)) nx_if1))))
  (e_Tok2
  (e_Tok2
  (e_Lok (ps_iconst_0 (x_dk dn_58_0_1_ok 10 rfl)))
  (e_Lok (e_st (I := eI) (er_goto (off := 6) (tg := 118) (x_dk dn_58_0_1_ok 11 rfl) (by decide)) nx_goto)))
  (e_Tok2
  (e_Lok (ld_iload_n_3 (x_dk dn_58_0_1_ok 12 rfl)))
  (e_Lok (ld_iload_n_2 (x_dk dn_58_0_1_ok 13 rfl)))))))
  (e_Tok2
  (e_Tok2
  (e_Tok2
  (e_Lok (e_st (I := eI) (er_idiv (x_dk dn_58_0_1_ok 14 rfl)) nx_bin))
  (e_Tok2
  (e_Lok (lk_3_239 ho_58 (x_dk dn_58_0_1_ok 15 rfl)))
  (e_Lok (e_st (I := eI) (er_goto (off := 120) (tg := 241) (x_dk dn_58_0_1_ok 16 rfl) (by decide)) nx_goto))))
  (e_Tok2
  (e_Tok2
  (e_Lok (ld_aload_n_0 (x_dk dn_58_0_1_ok 17 rfl)))
  (e_Lok (ld_iload_n_2 (x_dk dn_58_0_1_ok 18 rfl))))
  (e_Tok2
  (e_Lok (e_st (I := eI) (er_ifne (off := 7) (tg := 133) (x_dk dn_58_0_1_ok 19 rfl) (by decide)) nx_if1))
  (e_Lok (ps_iconst_0 (x_dk dn_58_0_1_ok 20 rfl))))))
  (e_Tok2
  (e_Tok2
  (e_Lok (e_st (I := eI) (er_goto (off := 6) (tg := 136) (x_dk dn_58_0_1_ok 21 rfl) (by decide)) nx_goto))
  (e_Tok2
  (e_Lok (ld_iload_n_3 (x_dk dn_58_0_1_ok 22 rfl)))
  (e_Lok (ld_iload_n_2 (x_dk dn_58_0_1_ok 23 rfl)))))
  (e_Tok2
  (e_Tok2
  (e_Lok (e_st (I := eI) (er_irem (x_dk dn_58_0_1_ok 24 rfl)) nx_bin))
  (e_Lok (lk_3_239 ho_58 (x_dk dn_58_0_2_ok 0 rfl))))
  (e_Tok2
  (e_Lok (e_st (I := eI) (er_goto (off := 102) (tg := 241) (x_dk dn_58_0_2_ok 1 rfl) (by decide)) nx_goto))
  (e_Lok (ld_aload_n_0 (x_dk dn_58_0_2_ok 2 rfl))))))))
def te_58_53 : Nat → eE := (e_T 165 (e_T 152 (e_T 145 (e_T 143 (e_L 143 (0, ei_load 3 0 144, 0, 0)) (e_T 144 (e_L 144 (0, ei_load 2 0 145, 0, 0)) (e_L 145 (0, ei_if2 1 152 148, 0, 0)))) (e_T 148 (e_L 148 (0, ei_push (0, 1) 149, 0, 0)) (e_T 149 (e_L 149 (0, ei_goto 153, 0, 0)) (e_L 152 (0, ei_push (0, 0) 153, 0, 0))))) (e_T 159 (e_T 153 (e_L 153 (2, e_nof, 52, 2)) (e_T 156 (e_L 156 (0, ei_goto 241, 0, 0)) (e_L 159 (0, ei_load 0 2 160, 0, 0)))) (e_T 161 (e_T 160 (e_L 160 (0, ei_load 3 0 161, 0, 0)) (e_L 161 (0, ei_load 2 0 162, 0, 0))) (e_T 162 (e_L 162 (0, ei_if2 0 169 165, 0, 0)) (e_L 165 (0, ei_push (0, 1) 166, 0, 0)))))) (e_T 177 (e_T 170 (e_T 166 (e_L 166 (0, ei_goto 170, 0, 0)) (e_T 169 (e_L 169 (0, ei_push (0, 0) 170, 0, 0)) (e_L 170 (2, e_nof, 52, 2)))) (e_T 173 (e_L 173 (0, ei_goto 241, 0, 0)) (e_T 176 (e_L 176 (0, ei_load 0 2 177, 0, 0)) (e_L 177 (0, ei_load 3 0 178, 0, 0))))) (e_T 182 (e_T 178 (e_L 178 (0, ei_load 2 0 179, 0, 0)) (e_T 179 (e_L 179 (0, ei_if2 3 186 182, 0, 0)) (e_L 182 (0, ei_push (0, 1) 183, 0, 0)))) (e_T 186 (e_T 183 (e_L 183 (0, ei_goto 187, 0, 0)) (e_L 186 (0, ei_push (0, 0) 187, 0, 0))) (e_T 187 (e_L 187 (2, e_nof, 52, 2)) (e_L 190 (0, ei_goto 241, 0, 0)))))))
set_option maxRecDepth 20000 in
set_option maxHeartbeats 4000000 in
theorem te_58_53_ok : ∀ pc, e_EOq eft cls elay eI n_58 pc (te_58_53 pc) :=
  (e_Tok2
  (e_Tok2
  (e_Tok2
  (e_Tok2
  (e_Lok (ld_iload_n_3 (x_dk dn_58_0_2_ok 3 rfl)))
  (e_Tok2
  (e_Lok (ld_iload_n_2 (x_dk dn_58_0_2_ok 4 rfl)))
  (e_Lok (e_st (I := eI) (er_icmpne (off := 7) (tg := 152) (x_dk dn_58_0_2_ok 5 rfl) (by decide)) nx_if2))))
  (e_Tok2
  (e_Lok (ps_iconst_1 (x_dk dn_58_0_2_ok 6 rfl)))
  (e_Tok2
  (e_Lok (e_st (I := eI) (er_goto (off := 4) (tg := 153) (x_dk dn_58_0_2_ok 7 rfl) (by decide)) nx_goto))
  (e_Lok (ps_iconst_0 (x_dk dn_58_0_2_ok 8 rfl))))))
  (e_Tok2
  (e_Tok2
  (e_Lok (lk_3_239 ho_58 (x_dk dn_58_0_2_ok 9 rfl)))
  (e_Tok2
  (e_Lok (e_st (I := eI) (er_goto (off := 85) (tg := 241) (x_dk dn_58_0_2_ok 10 rfl) (by decide)) nx_goto))
  (e_Lok (ld_aload_n_0 (x_dk dn_58_0_2_ok 11 rfl)))))
  (e_Tok2
  (e_Tok2
  (e_Lok (ld_iload_n_3 (x_dk dn_58_0_2_ok 12 rfl)))
  (e_Lok (ld_iload_n_2 (x_dk dn_58_0_2_ok 13 rfl))))
  (e_Tok2
  (e_Lok (e_st (I := eI) (er_icmpeq (off := 7) (tg := 169) (x_dk dn_58_0_2_ok 14 rfl) (by decide)) nx_if2))
  (e_Lok (ps_iconst_1 (x_dk dn_58_0_2_ok 15 rfl)))))))
  (e_Tok2
  (e_Tok2
  (e_Tok2
  (e_Lok (e_st (I := eI) (er_goto (off := 4) (tg := 170) (x_dk dn_58_0_2_ok 16 rfl) (by decide)) nx_goto))
  (e_Tok2
  (e_Lok (ps_iconst_0 (x_dk dn_58_0_2_ok 17 rfl)))
  (e_Lok (lk_3_239 ho_58 (x_dk dn_58_0_2_ok 18 rfl)))))
  (e_Tok2
  (e_Lok (e_st (I := eI) (er_goto (off := 68) (tg := 241) (x_dk dn_58_0_2_ok 19 rfl) (by decide)) nx_goto))
  (e_Tok2
  (e_Lok (ld_aload_n_0 (x_dk dn_58_0_2_ok 20 rfl)))
  (e_Lok (ld_iload_n_3 (x_dk dn_58_0_2_ok 21 rfl))))))
  (e_Tok2
  (e_Tok2
  (e_Lok (ld_iload_n_2 (x_dk dn_58_0_2_ok 22 rfl)))
  (e_Tok2
  (e_Lok (e_st (I := eI) (er_icmpge (off := 7) (tg := 186) (x_dk dn_58_0_2_ok 23 rfl) (by decide)) nx_if2))
  (e_Lok (ps_iconst_1 (x_dk dn_58_0_2_ok 24 rfl)))))
  (e_Tok2
  (e_Tok2
  (e_Lok (e_st (I := eI) (er_goto (off := 4) (tg := 187) (x_dk dn_58_0_3_ok 0 rfl) (by decide)) nx_goto))
  (e_Lok (ps_iconst_0 (x_dk dn_58_0_3_ok 1 rfl))))
  (e_Tok2
  (e_Lok (lk_3_239 ho_58 (x_dk dn_58_0_3_ok 2 rfl)))
  (e_Lok (e_st (I := eI) (er_goto (off := 51) (tg := 241) (x_dk dn_58_0_3_ok 3 rfl) (by decide)) nx_goto)))))))
def te_58_79 : Nat → eE := (e_T 213 (e_T 200 (e_T 195 (e_T 193 (e_L 193 (0, ei_load 0 2 194, 0, 0)) (e_T 194 (e_L 194 (0, ei_load 3 0 195, 0, 0)) (e_L 195 (0, ei_load 2 0 196, 0, 0)))) (e_T 196 (e_L 196 (0, ei_if2 4 203 199, 0, 0)) (e_T 199 (e_L 199 (0, ei_push (0, 1) 200, 0, 0)) (e_L 200 (0, ei_goto 204, 0, 0))))) (e_T 207 (e_T 203 (e_L 203 (0, ei_push (0, 0) 204, 0, 0)) (e_T 204 (e_L 204 (2, e_nof, 52, 2)) (e_L 207 (0, ei_goto 241, 0, 0)))) (e_T 211 (e_T 210 (e_L 210 (0, ei_load 0 2 211, 0, 0)) (e_L 211 (0, ei_load 3 0 212, 0, 0))) (e_T 212 (e_L 212 (0, ei_load 2 0 213, 0, 0)) (e_L 213 (0, ei_if2 5 220 216, 0, 0)))))) (e_T 228 (e_T 220 (e_T 216 (e_L 216 (0, ei_push (0, 1) 217, 0, 0)) (e_T 217 (e_L 217 (0, ei_goto 221, 0, 0)) (e_L 220 (0, ei_push (0, 0) 221, 0, 0)))) (e_T 224 (e_T 221 (e_L 221 (2, e_nof, 52, 2)) (e_L 224 (0, ei_goto 241, 0, 0))) (e_T 227 (e_L 227 (0, ei_load 0 2 228, 0, 0)) (e_L 228 (0, ei_load 3 0 229, 0, 0))))) (e_T 233 (e_T 229 (e_L 229 (0, ei_load 2 0 230, 0, 0)) (e_T 230 (e_L 230 (0, ei_if2 2 237 233, 0, 0)) (e_L 233 (0, ei_push (0, 1) 234, 0, 0)))) (e_T 237 (e_T 234 (e_L 234 (0, ei_goto 238, 0, 0)) (e_L 237 (0, ei_push (0, 0) 238, 0, 0))) (e_T 238 (e_L 238 (2, e_nof, 52, 2)) (e_L 241 (1, e_nof, 0, 0)))))))
set_option maxRecDepth 20000 in
set_option maxHeartbeats 4000000 in
theorem te_58_79_ok : ∀ pc, e_EOq eft cls elay eI n_58 pc (te_58_79 pc) :=
  (e_Tok2
  (e_Tok2
  (e_Tok2
  (e_Tok2
  (e_Lok (ld_aload_n_0 (x_dk dn_58_0_3_ok 4 rfl)))
  (e_Tok2
  (e_Lok (ld_iload_n_3 (x_dk dn_58_0_3_ok 5 rfl)))
  (e_Lok (ld_iload_n_2 (x_dk dn_58_0_3_ok 6 rfl)))))
  (e_Tok2
  (e_Lok (e_st (I := eI) (er_icmpgt (off := 7) (tg := 203) (x_dk dn_58_0_3_ok 7 rfl) (by decide)) nx_if2))
  (e_Tok2
  (e_Lok (ps_iconst_1 (x_dk dn_58_0_3_ok 8 rfl)))
  (e_Lok (e_st (I := eI) (er_goto (off := 4) (tg := 204) (x_dk dn_58_0_3_ok 9 rfl) (by decide)) nx_goto)))))
  (e_Tok2
  (e_Tok2
  (e_Lok (ps_iconst_0 (x_dk dn_58_0_3_ok 10 rfl)))
  (e_Tok2
  (e_Lok (lk_3_239 ho_58 (x_dk dn_58_0_3_ok 11 rfl)))
  (e_Lok (e_st (I := eI) (er_goto (off := 34) (tg := 241) (x_dk dn_58_0_3_ok 12 rfl) (by decide)) nx_goto))))
  (e_Tok2
  (e_Tok2
  (e_Lok (ld_aload_n_0 (x_dk dn_58_0_3_ok 13 rfl)))
  (e_Lok (ld_iload_n_3 (x_dk dn_58_0_3_ok 14 rfl))))
  (e_Tok2
  (e_Lok (ld_iload_n_2 (x_dk dn_58_0_3_ok 15 rfl)))
  (e_Lok (e_st (I := eI) (er_icmple (off := 7) (tg := 220) (x_dk dn_58_0_3_ok 16 rfl) (by decide)) nx_if2))))))
  (e_Tok2
  (e_Tok2
  (e_Tok2
  (e_Lok (ps_iconst_1 (x_dk dn_58_0_3_ok 17 rfl)))
  (e_Tok2
  (e_Lok (e_st (I := eI) (er_goto (off := 4) (tg := 221) (x_dk dn_58_0_3_ok 18 rfl) (by decide)) nx_goto))
  (e_Lok (ps_iconst_0 (x_dk dn_58_0_3_ok 19 rfl)))))
  (e_Tok2
  (e_Tok2
  (e_Lok (lk_3_239 ho_58 (x_dk dn_58_0_3_ok 20 rfl)))
  (e_Lok (e_st (I := eI) (er_goto (off := 17) (tg := 241) (x_dk dn_58_0_3_ok 21 rfl) (by decide)) nx_goto)))
  (e_Tok2
  (e_Lok (ld_aload_n_0 (x_dk dn_58_0_3_ok 22 rfl)))
  (e_Lok (ld_iload_n_3 (x_dk dn_58_0_3_ok 23 rfl))))))
  (e_Tok2
  (e_Tok2
  (e_Lok (ld_iload_n_2 (x_dk dn_58_0_3_ok 24 rfl)))
  (e_Tok2
  (e_Lok (e_st (I := eI) (er_icmplt (off := 7) (tg := 237) (x_dk dn_58_1_0_ok 0 rfl) (by decide)) nx_if2))
  (e_Lok (ps_iconst_1 (x_dk dn_58_1_0_ok 1 rfl)))))
  (e_Tok2
  (e_Tok2
  (e_Lok (e_st (I := eI) (er_goto (off := 4) (tg := 238) (x_dk dn_58_1_0_ok 2 rfl) (by decide)) nx_goto))
  (e_Lok (ps_iconst_0 (x_dk dn_58_1_0_ok 3 rfl))))
  (e_Tok2
  (e_Lok (lk_3_239 ho_58 (x_dk dn_58_1_0_ok 4 rfl)))
  (e_Lok (e_rt (I := eI) (k := 0) ⟨(x_dk dn_58_1_0_ok 5 rfl), rfl⟩)))))))
def te_58 : Nat → eE := (e_T 142 (e_T 93 te_58_0 te_58_26) (e_T 190 te_58_53 te_58_79))
theorem te_58_ok : ∀ pc, e_EOq eft cls elay eI n_58 pc (te_58 pc) := (e_Tok2 ((e_Tok2 (te_58_0_ok) (te_58_26_ok))) ((e_Tok2 (te_58_53_ok) (te_58_79_ok))))
theorem ho_59 : (xm_y n_59).cls = "RobotCellHouse$Doer" := rfl
def dn_59_0_0 : List (Nat × Instr × Nat) := [(0, .iload_n 3, 1), (1, .tableswitch 278 25 38 #[71, 93, 106, 116, 128, 142, 157, 169, 181, 204, 226, 237, 256, 267], 71), (72, .aload_n 0, 1), (73, .getfield 11, 3), (76, .aload_n 1, 1), (77, .getfield 127, 3), (80, .aaload, 1), (81, .getfield 242, 3), (84, .iload 4, 2), (86, .aload_n 0, 1), (87, .invokevirtual 166, 3), (90, .iastore, 1), (91, .goto 199, 3), (94, .aload_n 0, 1), (95, .iload 4, 2), (97, .aload_n 0, 1), (98, .invokevirtual 166, 3), (101, .invokevirtual 278, 3), (104, .goto 186, 3), (107, .aload_n 0, 1), (108, .aload_n 1, 1), (109, .iload 4, 2), (111, .invokevirtual 282, 3), (114, .goto 176, 3), (117, .aload_n 0, 1)]
set_option maxRecDepth 20000 in
theorem dn_59_0_0_ok : dn_59_0_0.all (fun q => decide (decode (xm_b n_59) q.1 = .ok (q.2.1, q.2.2))) = true := xa_g_ok (by decide +kernel)
def dn_59_0_1 : List (Nat × Instr × Nat) := [(118, .aload_n 1, 1), (119, .aload_n 0, 1), (120, .invokevirtual 166, 3), (123, .invokevirtual 285, 3), (126, .goto 164, 3), (129, .aload_n 0, 1), (130, .aload_n 1, 1), (131, .aload_n 0, 1), (132, .invokevirtual 166, 3), (135, .iload 4, 2), (137, .invokevirtual 288, 3), (140, .goto 150, 3), (143, .aload_n 0, 1), (144, .aload_n 0, 1), (145, .invokevirtual 166, 3), (148, .aload_n 0, 1), (149, .invokevirtual 166, 3), (152, .invokevirtual 291, 3), (155, .goto 135, 3), (158, .aload_n 0, 1), (159, .aload_n 1, 1), (160, .aload_n 0, 1), (161, .invokevirtual 166, 3), (164, .invokevirtual 294, 3), (167, .goto 123, 3)]
set_option maxRecDepth 20000 in
theorem dn_59_0_1_ok : dn_59_0_1.all (fun q => decide (decode (xm_b n_59) q.1 = .ok (q.2.1, q.2.2))) = true := xa_g_ok (by decide +kernel)
def dn_59_0_2 : List (Nat × Instr × Nat) := [(170, .aload_n 0, 1), (171, .aload_n 1, 1), (172, .aload_n 0, 1), (173, .invokevirtual 166, 3), (176, .invokevirtual 297, 3), (179, .goto 111, 3), (182, .aload_n 1, 1), (183, .aload_n 2, 1), (184, .getfield 82, 3), (187, .iload 4, 2), (189, .iaload, 1), (190, .invokevirtual 220, 3), (193, .ifCond .ne 97, 3), (196, .aload_n 0, 1), (197, .bipush 8, 2), (199, .invokevirtual 199, 3), (202, .goto 88, 3), (205, .aload_n 0, 1), (206, .aload_n 1, 1), (207, .getfield 127, 3), (210, .iload 4, 2), (212, .invokevirtual 300, 3), (215, .ifCond .ge 75, 3), (218, .aload_n 0, 1), (219, .bipush 10, 2)]
set_option maxRecDepth 20000 in
theorem dn_59_0_2_ok : dn_59_0_2.all (fun q => decide (decode (xm_b n_59) q.1 = .ok (q.2.1, q.2.2))) = true := xa_g_ok (by decide +kernel)
def dn_59_0_3 : List (Nat × Instr × Nat) := [(221, .invokevirtual 199, 3), (224, .goto 66, 3), (227, .aload_n 0, 1), (228, .aload_n 0, 1), (229, .invokevirtual 166, 3), (232, .invokevirtual 199, 3), (235, .goto 55, 3), (238, .aload_n 0, 1), (239, .getfield 34, 3), (242, .iconst 1, 1), (243, .aload_n 1, 1), (244, .getfield 196, 3), (247, .aload_n 0, 1), (248, .invokevirtual 166, 3), (251, .invokevirtual 108, 3), (254, .goto 36, 3), (257, .aload_n 0, 1), (258, .aload_n 1, 1), (259, .getfield 127, 3), (262, .invokevirtual 303, 3), (265, .goto 25, 3), (268, .aload_n 0, 1), (269, .aload_n 1, 1), (270, .getfield 127, 3), (273, .invokevirtual 306, 3)]
set_option maxRecDepth 20000 in
theorem dn_59_0_3_ok : dn_59_0_3.all (fun q => decide (decode (xm_b n_59) q.1 = .ok (q.2.1, q.2.2))) = true := xa_g_ok (by decide +kernel)
def dn_59_1_0 : List (Nat × Instr × Nat) := [(276, .goto 14, 3), (279, .aload_n 0, 1), (280, .aload_n 1, 1), (281, .aload_n 0, 1), (282, .invokevirtual 166, 3), (285, .iload 4, 2), (287, .invokevirtual 309, 3), (290, .return_, 1)]
set_option maxRecDepth 20000 in
theorem dn_59_1_0_ok : dn_59_1_0.all (fun q => decide (decode (xm_b n_59) q.1 = .ok (q.2.1, q.2.2))) = true := xa_g_ok (by decide +kernel)
def te_59_0 : Nat → eE := (e_T 91 (e_T 77 (e_T 72 (e_T 0 (e_L 0 (0, ei_load 3 0 1, 0, 0)) (e_T 1 (e_L 1 (0, ei_sw [((-2147483648), 24, 279), (25, 25, 72), (26, 26, 94), (27, 27, 107), (28, 28, 117), (29, 29, 129), (30, 30, 143), (31, 31, 158), (32, 32, 170), (33, 33, 182), (34, 34, 205), (35, 35, 227), (36, 36, 238), (37, 37, 257), (38, 38, 268), (39, 2147483647, 279)], 0, 0)) (e_L 72 (0, ei_load 0 2 73, 0, 0)))) (e_T 73 (e_L 73 (0, ei_getf eft elay 3 0 76, 0, 0)) (e_T 76 (e_L 76 (0, ei_load 1 2 77, 0, 0)) (e_L 77 (0, ei_getf eft elay 10 2 80, 0, 0))))) (e_T 84 (e_T 80 (e_L 80 (0, ei_aald elay 81, 0, 0)) (e_T 81 (e_L 81 (0, ei_getf eft elay 0 6 84, 0, 0)) (e_L 84 (0, ei_load 4 0 86, 0, 0)))) (e_T 87 (e_T 86 (e_L 86 (0, ei_load 0 2 87, 0, 0)) (e_L 87 (2, e_nof, 53, 1))) (e_T 90 (e_L 90 (0, ei_ast elay false 91, 0, 0)) (e_L 91 (0, ei_goto 290, 0, 0)))))) (e_T 107 (e_T 97 (e_T 94 (e_L 94 (0, ei_load 0 2 95, 0, 0)) (e_T 95 (e_L 95 (0, ei_load 4 0 97, 0, 0)) (e_L 97 (0, ei_load 0 2 98, 0, 0)))) (e_T 101 (e_T 98 (e_L 98 (2, e_nof, 53, 1)) (e_L 101 (2, e_nof, 60, 3))) (e_T 104 (e_L 104 (0, ei_goto 290, 0, 0)) (e_L 107 (0, ei_load 0 2 108, 0, 0))))) (e_T 111 (e_T 108 (e_L 108 (0, ei_load 1 2 109, 0, 0)) (e_T 109 (e_L 109 (0, ei_load 4 0 111, 0, 0)) (e_L 111 (2, e_nof, 61, 3)))) (e_T 117 (e_T 114 (e_L 114 (0, ei_goto 290, 0, 0)) (e_L 117 (0, ei_load 0 2 118, 0, 0))) (e_T 118 (e_L 118 (0, ei_load 1 2 119, 0, 0)) (e_L 119 (0, ei_load 0 2 120, 0, 0)))))))
set_option maxRecDepth 20000 in
set_option maxHeartbeats 4000000 in
theorem te_59_0_ok : ∀ pc, e_EOq eft cls elay eI n_59 pc (te_59_0 pc) :=
  (e_Tok2
  (e_Tok2
  (e_Tok2
  (e_Tok2
  (e_Lok (ld_iload_n_3 (x_dk dn_59_0_0_ok 0 rfl)))
  (e_Tok2
  (e_Lok (e_st (I := eI) (er_tsw (dflt := 278) (lo := 25) (hi := 38) (offs := #[71, 93, 106, 116, 128, 142, 157, 169, 181, 204, 226, 237, 256, 267]) (len := 71) (n := 14) (x_dk dn_59_0_0_ok 1 rfl) (by decide) (by decide +kernel)) nx_sw))
  (e_Lok (ld_aload_n_0 (x_dk dn_59_0_0_ok 2 rfl)))))
  (e_Tok2
  (e_Lok (lk_3_11g ho_59 (x_dk dn_59_0_0_ok 3 rfl)))
  (e_Tok2
  (e_Lok (ld_aload_n_1 (x_dk dn_59_0_0_ok 4 rfl)))
  (e_Lok (lk_3_127g ho_59 (x_dk dn_59_0_0_ok 5 rfl))))))
  (e_Tok2
  (e_Tok2
  (e_Lok (e_st (I := eI) (er_aaload (x_dk dn_59_0_0_ok 6 rfl)) nx_aald))
  (e_Tok2
  (e_Lok (lk_3_242g ho_59 (x_dk dn_59_0_0_ok 7 rfl)))
  (e_Lok (ld_iload_4 (x_dk dn_59_0_0_ok 8 rfl)))))
  (e_Tok2
  (e_Tok2
  (e_Lok (ld_aload_n_0 (x_dk dn_59_0_0_ok 9 rfl)))
  (e_Lok (lk_3_166 ho_59 (x_dk dn_59_0_0_ok 10 rfl))))
  (e_Tok2
  (e_Lok (sm_iastore (x_dk dn_59_0_0_ok 11 rfl)))
  (e_Lok (e_st (I := eI) (er_goto (off := 199) (tg := 290) (x_dk dn_59_0_0_ok 12 rfl) (by decide)) nx_goto))))))
  (e_Tok2
  (e_Tok2
  (e_Tok2
  (e_Lok (ld_aload_n_0 (x_dk dn_59_0_0_ok 13 rfl)))
  (e_Tok2
  (e_Lok (ld_iload_4 (x_dk dn_59_0_0_ok 14 rfl)))
  (e_Lok (ld_aload_n_0 (x_dk dn_59_0_0_ok 15 rfl)))))
  (e_Tok2
  (e_Tok2
  (e_Lok (lk_3_166 ho_59 (x_dk dn_59_0_0_ok 16 rfl)))
  (e_Lok (lk_3_278 ho_59 (x_dk dn_59_0_0_ok 17 rfl))))
  (e_Tok2
  (e_Lok (e_st (I := eI) (er_goto (off := 186) (tg := 290) (x_dk dn_59_0_0_ok 18 rfl) (by decide)) nx_goto))
  (e_Lok (ld_aload_n_0 (x_dk dn_59_0_0_ok 19 rfl))))))
  (e_Tok2
  (e_Tok2
  (e_Lok (ld_aload_n_1 (x_dk dn_59_0_0_ok 20 rfl)))
  (e_Tok2
  (e_Lok (ld_iload_4 (x_dk dn_59_0_0_ok 21 rfl)))
  (e_Lok (lk_3_282 ho_59 (x_dk dn_59_0_0_ok 22 rfl)))))
  (e_Tok2
  (e_Tok2
  (e_Lok (e_st (I := eI) (er_goto (off := 176) (tg := 290) (x_dk dn_59_0_0_ok 23 rfl) (by decide)) nx_goto))
  (e_Lok (ld_aload_n_0 (x_dk dn_59_0_0_ok 24 rfl))))
  (e_Tok2
  (e_Lok (ld_aload_n_1 (x_dk dn_59_0_1_ok 0 rfl)))
  (e_Lok (ld_aload_n_0 (x_dk dn_59_0_1_ok 1 rfl))))))))
def te_59_27 : Nat → eE := (e_T 145 (e_T 131 (e_T 126 (e_T 120 (e_L 120 (2, e_nof, 53, 1)) (e_T 123 (e_L 123 (2, e_nof, 63, 3)) (e_L 126 (0, ei_goto 290, 0, 0)))) (e_T 129 (e_L 129 (0, ei_load 0 2 130, 0, 0)) (e_T 130 (e_L 130 (0, ei_load 1 2 131, 0, 0)) (e_L 131 (0, ei_load 0 2 132, 0, 0))))) (e_T 137 (e_T 132 (e_L 132 (2, e_nof, 53, 1)) (e_T 135 (e_L 135 (0, ei_load 4 0 137, 0, 0)) (e_L 137 (2, e_nof, 64, 4)))) (e_T 143 (e_T 140 (e_L 140 (0, ei_goto 290, 0, 0)) (e_L 143 (0, ei_load 0 2 144, 0, 0))) (e_T 144 (e_L 144 (0, ei_load 0 2 145, 0, 0)) (e_L 145 (2, e_nof, 53, 1)))))) (e_T 160 (e_T 152 (e_T 148 (e_L 148 (0, ei_load 0 2 149, 0, 0)) (e_T 149 (e_L 149 (2, e_nof, 53, 1)) (e_L 152 (2, e_nof, 65, 3)))) (e_T 158 (e_T 155 (e_L 155 (0, ei_goto 290, 0, 0)) (e_L 158 (0, ei_load 0 2 159, 0, 0))) (e_T 159 (e_L 159 (0, ei_load 1 2 160, 0, 0)) (e_L 160 (0, ei_load 0 2 161, 0, 0))))) (e_T 167 (e_T 161 (e_L 161 (2, e_nof, 53, 1)) (e_T 164 (e_L 164 (2, e_nof, 66, 3)) (e_L 167 (0, ei_goto 290, 0, 0)))) (e_T 171 (e_T 170 (e_L 170 (0, ei_load 0 2 171, 0, 0)) (e_L 171 (0, ei_load 1 2 172, 0, 0))) (e_T 172 (e_L 172 (0, ei_load 0 2 173, 0, 0)) (e_L 173 (2, e_nof, 53, 1)))))))
set_option maxRecDepth 20000 in
set_option maxHeartbeats 4000000 in
theorem te_59_27_ok : ∀ pc, e_EOq eft cls elay eI n_59 pc (te_59_27 pc) :=
  (e_Tok2
  (e_Tok2
  (e_Tok2
  (e_Tok2
  (e_Lok (lk_3_166 ho_59 (x_dk dn_59_0_1_ok 2 rfl)))
  (e_Tok2
  (e_Lok (lk_3_285 ho_59 (x_dk dn_59_0_1_ok 3 rfl)))
  (e_Lok (e_st (I := eI) (er_goto (off := 164) (tg := 290) (x_dk dn_59_0_1_ok 4 rfl) (by decide)) nx_goto))))
  (e_Tok2
  (e_Lok (ld_aload_n_0 (x_dk dn_59_0_1_ok 5 rfl)))
  (e_Tok2
  (e_Lok (ld_aload_n_1 (x_dk dn_59_0_1_ok 6 rfl)))
  (e_Lok (ld_aload_n_0 (x_dk dn_59_0_1_ok 7 rfl))))))
  (e_Tok2
  (e_Tok2
  (e_Lok (lk_3_166 ho_59 (x_dk dn_59_0_1_ok 8 rfl)))
  (e_Tok2
  (e_Lok (ld_iload_4 (x_dk dn_59_0_1_ok 9 rfl)))
  (e_Lok (lk_3_288 ho_59 (x_dk dn_59_0_1_ok 10 rfl)))))
  (e_Tok2
  (e_Tok2
  (e_Lok (e_st (I := eI) (er_goto (off := 150) (tg := 290) (x_dk dn_59_0_1_ok 11 rfl) (by decide)) nx_goto))
  (e_Lok (ld_aload_n_0 (x_dk dn_59_0_1_ok 12 rfl))))
  (e_Tok2
  (e_Lok (ld_aload_n_0 (x_dk dn_59_0_1_ok 13 rfl)))
  (e_Lok (lk_3_166 ho_59 (x_dk dn_59_0_1_ok 14 rfl)))))))
  (e_Tok2
  (e_Tok2
  (e_Tok2
  (e_Lok (ld_aload_n_0 (x_dk dn_59_0_1_ok 15 rfl)))
  (e_Tok2
  (e_Lok (lk_3_166 ho_59 (x_dk dn_59_0_1_ok 16 rfl)))
  (e_Lok (lk_3_291 ho_59 (x_dk dn_59_0_1_ok 17 rfl)))))
  (e_Tok2
  (e_Tok2
  (e_Lok (e_st (I := eI) (er_goto (off := 135) (tg := 290) (x_dk dn_59_0_1_ok 18 rfl) (by decide)) nx_goto))
  (e_Lok (ld_aload_n_0 (x_dk dn_59_0_1_ok 19 rfl))))
  (e_Tok2
  (e_Lok (ld_aload_n_1 (x_dk dn_59_0_1_ok 20 rfl)))
  (e_Lok (ld_aload_n_0 (x_dk dn_59_0_1_ok 21 rfl))))))
  (e_Tok2
  (e_Tok2
  (e_Lok (lk_3_166 ho_59 (x_dk dn_59_0_1_ok 22 rfl)))
  (e_Tok2
  (e_Lok (lk_3_294 ho_59 (x_dk dn_59_0_1_ok 23 rfl)))
  (e_Lok (e_st (I := eI) (er_goto (off := 123) (tg := 290) (x_dk dn_59_0_1_ok 24 rfl) (by decide)) nx_goto))))
  (e_Tok2
  (e_Tok2
  (e_Lok (ld_aload_n_0 (x_dk dn_59_0_2_ok 0 rfl)))
  (e_Lok (ld_aload_n_1 (x_dk dn_59_0_2_ok 1 rfl))))
  (e_Tok2
  (e_Lok (ld_aload_n_0 (x_dk dn_59_0_2_ok 2 rfl)))
  (e_Lok (lk_3_166 ho_59 (x_dk dn_59_0_2_ok 3 rfl))))))))
def te_59_54 : Nat → eE := (e_T 202 (e_T 187 (e_T 182 (e_T 176 (e_L 176 (2, e_nof, 67, 3)) (e_T 179 (e_L 179 (0, ei_goto 290, 0, 0)) (e_L 182 (0, ei_load 1 2 183, 0, 0)))) (e_T 183 (e_L 183 (0, ei_load 2 2 184, 0, 0)) (e_T 184 (e_L 184 (0, ei_getf eft elay 1 3 187, 0, 0)) (e_L 187 (0, ei_load 4 0 189, 0, 0))))) (e_T 193 (e_T 189 (e_L 189 (0, ei_ald elay false 190, 0, 0)) (e_T 190 (e_L 190 (2, e_nof, 182, 2)) (e_L 193 (0, ei_if1 1 290 196, 0, 0)))) (e_T 197 (e_T 196 (e_L 196 (0, ei_load 0 2 197, 0, 0)) (e_L 197 (0, ei_push (0, 8) 199, 0, 0))) (e_T 199 (e_L 199 (2, e_nof, 46, 2)) (e_L 202 (0, ei_goto 290, 0, 0)))))) (e_T 218 (e_T 207 (e_T 205 (e_L 205 (0, ei_load 0 2 206, 0, 0)) (e_T 206 (e_L 206 (0, ei_load 1 2 207, 0, 0)) (e_L 207 (0, ei_getf eft elay 10 2 210, 0, 0)))) (e_T 212 (e_T 210 (e_L 210 (0, ei_load 4 0 212, 0, 0)) (e_L 212 (2, e_nof, 37, 3))) (e_T 215 (e_L 215 (0, ei_if1 3 290 218, 0, 0)) (e_L 218 (0, ei_load 0 2 219, 0, 0))))) (e_T 224 (e_T 219 (e_L 219 (0, ei_push (0, 10) 221, 0, 0)) (e_T 221 (e_L 221 (2, e_nof, 46, 2)) (e_L 224 (0, ei_goto 290, 0, 0)))) (e_T 228 (e_T 227 (e_L 227 (0, ei_load 0 2 228, 0, 0)) (e_L 228 (0, ei_load 0 2 229, 0, 0))) (e_T 229 (e_L 229 (2, e_nof, 53, 1)) (e_L 232 (2, e_nof, 46, 2)))))))
set_option maxRecDepth 20000 in
set_option maxHeartbeats 4000000 in
theorem te_59_54_ok : ∀ pc, e_EOq eft cls elay eI n_59 pc (te_59_54 pc) :=
  (e_Tok2
  (e_Tok2
  (e_Tok2
  (e_Tok2
  (e_Lok (lk_3_297 ho_59 (x_dk dn_59_0_2_ok 4 rfl)))
  (e_Tok2
  (e_Lok (e_st (I := eI) (er_goto (off := 111) (tg := 290) (x_dk dn_59_0_2_ok 5 rfl) (by decide)) nx_goto))
  (e_Lok (ld_aload_n_1 (x_dk dn_59_0_2_ok 6 rfl)))))
  (e_Tok2
  (e_Lok (ld_aload_n_2 (x_dk dn_59_0_2_ok 7 rfl)))
  (e_Tok2
  (e_Lok (lk_3_82g ho_59 (x_dk dn_59_0_2_ok 8 rfl)))
  (e_Lok (ld_iload_4 (x_dk dn_59_0_2_ok 9 rfl))))))
  (e_Tok2
  (e_Tok2
  (e_Lok (sm_iaload (x_dk dn_59_0_2_ok 10 rfl)))
  (e_Tok2
  (e_Lok (lk_3_220 ho_59 (x_dk dn_59_0_2_ok 11 rfl)))
  (e_Lok (e_st (I := eI) (er_ifne (off := 97) (tg := 290) (x_dk dn_59_0_2_ok 12 rfl) (by decide)) nx_if1))))
  (e_Tok2
  (e_Tok2
  (e_Lok (ld_aload_n_0 (x_dk dn_59_0_2_ok 13 rfl)))
  (e_Lok (ps_bipush_8 (x_dk dn_59_0_2_ok 14 rfl))))
  (e_Tok2
  (e_Lok (lk_3_199 ho_59 (x_dk dn_59_0_2_ok 15 rfl)))
  (e_Lok (e_st (I := eI) (er_goto (off := 88) (tg := 290) (x_dk dn_59_0_2_ok 16 rfl) (by decide)) nx_goto))))))
  (e_Tok2
  (e_Tok2
  (e_Tok2
  (e_Lok (ld_aload_n_0 (x_dk dn_59_0_2_ok 17 rfl)))
  (e_Tok2
  (e_Lok (ld_aload_n_1 (x_dk dn_59_0_2_ok 18 rfl)))
  (e_Lok (lk_3_127g ho_59 (x_dk dn_59_0_2_ok 19 rfl)))))
  (e_Tok2
  (e_Tok2
  (e_Lok (ld_iload_4 (x_dk dn_59_0_2_ok 20 rfl)))
  (e_Lok (lk_3_300 ho_59 (x_dk dn_59_0_2_ok 21 rfl))))
  (e_Tok2
  (e_Lok (e_st (I := eI) (er_ifge (off := 75) (tg := 290) (x_dk dn_59_0_2_ok 22 rfl) (by decide)) nx_if1))
  (e_Lok (ld_aload_n_0 (x_dk dn_59_0_2_ok 23 rfl))))))
  (e_Tok2
  (e_Tok2
  (e_Lok (ps_bipush_10 (x_dk dn_59_0_2_ok 24 rfl)))
  (e_Tok2
  (e_Lok (lk_3_199 ho_59 (x_dk dn_59_0_3_ok 0 rfl)))
  (e_Lok (e_st (I := eI) (er_goto (off := 66) (tg := 290) (x_dk dn_59_0_3_ok 1 rfl) (by decide)) nx_goto))))
  (e_Tok2
  (e_Tok2
  (e_Lok (ld_aload_n_0 (x_dk dn_59_0_3_ok 2 rfl)))
  (e_Lok (ld_aload_n_0 (x_dk dn_59_0_3_ok 3 rfl))))
  (e_Tok2
  (e_Lok (lk_3_166 ho_59 (x_dk dn_59_0_3_ok 4 rfl)))
  (e_Lok (lk_3_199 ho_59 (x_dk dn_59_0_3_ok 5 rfl))))))))
def te_59_81 : Nat → eE := (e_T 259 (e_T 244 (e_T 239 (e_T 235 (e_L 235 (0, ei_goto 290, 0, 0)) (e_T 238 (e_L 238 (0, ei_load 0 2 239, 0, 0)) (e_L 239 (0, ei_getf eft elay 3 3 242, 0, 0)))) (e_T 242 (e_L 242 (0, ei_push (0, 1) 243, 0, 0)) (e_T 243 (e_L 243 (0, ei_load 1 2 244, 0, 0)) (e_L 244 (0, ei_getf eft elay 10 0 247, 0, 0))))) (e_T 251 (e_T 247 (e_L 247 (0, ei_load 0 2 248, 0, 0)) (e_T 248 (e_L 248 (2, e_nof, 53, 1)) (e_L 251 (2, e_nof, 27, 4)))) (e_T 257 (e_T 254 (e_L 254 (0, ei_goto 290, 0, 0)) (e_L 257 (0, ei_load 0 2 258, 0, 0))) (e_T 258 (e_L 258 (0, ei_load 1 2 259, 0, 0)) (e_L 259 (0, ei_getf eft elay 10 2 262, 0, 0)))))) (e_T 276 (e_T 268 (e_T 262 (e_L 262 (2, e_nof, 68, 2)) (e_T 265 (e_L 265 (0, ei_goto 290, 0, 0)) (e_L 268 (0, ei_load 0 2 269, 0, 0)))) (e_T 270 (e_T 269 (e_L 269 (0, ei_load 1 2 270, 0, 0)) (e_L 270 (0, ei_getf eft elay 10 2 273, 0, 0))) (e_T 273 (e_L 273 (2, e_nof, 69, 2)) (e_L 276 (0, ei_goto 290, 0, 0))))) (e_T 281 (e_T 279 (e_L 279 (0, ei_load 0 2 280, 0, 0)) (e_T 280 (e_L 280 (0, ei_load 1 2 281, 0, 0)) (e_L 281 (0, ei_load 0 2 282, 0, 0)))) (e_T 285 (e_T 282 (e_L 282 (2, e_nof, 53, 1)) (e_L 285 (0, ei_load 4 0 287, 0, 0))) (e_T 287 (e_L 287 (2, e_nof, 70, 4)) (e_L 290 (1, e_nof, 0, 0)))))))
set_option maxRecDepth 20000 in
set_option maxHeartbeats 4000000 in
theorem te_59_81_ok : ∀ pc, e_EOq eft cls elay eI n_59 pc (te_59_81 pc) :=
  (e_Tok2
  (e_Tok2
  (e_Tok2
  (e_Tok2
  (e_Lok (e_st (I := eI) (er_goto (off := 55) (tg := 290) (x_dk dn_59_0_3_ok 6 rfl) (by decide)) nx_goto))
  (e_Tok2
  (e_Lok (ld_aload_n_0 (x_dk dn_59_0_3_ok 7 rfl)))
  (e_Lok (lk_3_34g ho_59 (x_dk dn_59_0_3_ok 8 rfl)))))
  (e_Tok2
  (e_Lok (ps_iconst_1 (x_dk dn_59_0_3_ok 9 rfl)))
  (e_Tok2
  (e_Lok (ld_aload_n_1 (x_dk dn_59_0_3_ok 10 rfl)))
  (e_Lok (lk_3_196g ho_59 (x_dk dn_59_0_3_ok 11 rfl))))))
  (e_Tok2
  (e_Tok2
  (e_Lok (ld_aload_n_0 (x_dk dn_59_0_3_ok 12 rfl)))
  (e_Tok2
  (e_Lok (lk_3_166 ho_59 (x_dk dn_59_0_3_ok 13 rfl)))
  (e_Lok (lk_3_108 ho_59 (x_dk dn_59_0_3_ok 14 rfl)))))
  (e_Tok2
  (e_Tok2
  (e_Lok (e_st (I := eI) (er_goto (off := 36) (tg := 290) (x_dk dn_59_0_3_ok 15 rfl) (by decide)) nx_goto))
  (e_Lok (ld_aload_n_0 (x_dk dn_59_0_3_ok 16 rfl))))
  (e_Tok2
  (e_Lok (ld_aload_n_1 (x_dk dn_59_0_3_ok 17 rfl)))
  (e_Lok (lk_3_127g ho_59 (x_dk dn_59_0_3_ok 18 rfl)))))))
  (e_Tok2
  (e_Tok2
  (e_Tok2
  (e_Lok (lk_3_303 ho_59 (x_dk dn_59_0_3_ok 19 rfl)))
  (e_Tok2
  (e_Lok (e_st (I := eI) (er_goto (off := 25) (tg := 290) (x_dk dn_59_0_3_ok 20 rfl) (by decide)) nx_goto))
  (e_Lok (ld_aload_n_0 (x_dk dn_59_0_3_ok 21 rfl)))))
  (e_Tok2
  (e_Tok2
  (e_Lok (ld_aload_n_1 (x_dk dn_59_0_3_ok 22 rfl)))
  (e_Lok (lk_3_127g ho_59 (x_dk dn_59_0_3_ok 23 rfl))))
  (e_Tok2
  (e_Lok (lk_3_306 ho_59 (x_dk dn_59_0_3_ok 24 rfl)))
  (e_Lok (e_st (I := eI) (er_goto (off := 14) (tg := 290) (x_dk dn_59_1_0_ok 0 rfl) (by decide)) nx_goto)))))
  (e_Tok2
  (e_Tok2
  (e_Lok (ld_aload_n_0 (x_dk dn_59_1_0_ok 1 rfl)))
  (e_Tok2
  (e_Lok (ld_aload_n_1 (x_dk dn_59_1_0_ok 2 rfl)))
  (e_Lok (ld_aload_n_0 (x_dk dn_59_1_0_ok 3 rfl)))))
  (e_Tok2
  (e_Tok2
  (e_Lok (lk_3_166 ho_59 (x_dk dn_59_1_0_ok 4 rfl)))
  (e_Lok (ld_iload_4 (x_dk dn_59_1_0_ok 5 rfl))))
  (e_Tok2
  (e_Lok (lk_3_309 ho_59 (x_dk dn_59_1_0_ok 6 rfl)))
  (e_Lok (e_rt (I := eI) (k := 0) ⟨(x_dk dn_59_1_0_ok 7 rfl), rfl⟩)))))))
def te_59 : Nat → eE := (e_T 173 (e_T 119 te_59_0 te_59_27) (e_T 232 te_59_54 te_59_81))
theorem te_59_ok : ∀ pc, e_EOq eft cls elay eI n_59 pc (te_59 pc) := (e_Tok2 ((e_Tok2 (te_59_0_ok) (te_59_27_ok))) ((e_Tok2 (te_59_54_ok) (te_59_81_ok))))
theorem ho_60 : (xm_y n_60).cls = "RobotCellHouse$Doer" := rfl
def dn_60_0_0 : List (Nat × Instr × Nat) := [(0, .iload_n 1, 1), (1, .bipush 6, 2), (3, .if_icmp .ge 10, 3), (6, .aload_n 0, 1), (7, .getfield 51, 3), (10, .iload_n 1, 1), (11, .iload_n 2, 1), (12, .iastore, 1), (13, .return_, 1)]
set_option maxRecDepth 20000 in
theorem dn_60_0_0_ok : dn_60_0_0.all (fun q => decide (decode (xm_b n_60) q.1 = .ok (q.2.1, q.2.2))) = true := xa_g_ok (by decide +kernel)
def te_60_0 : Nat → eE := (e_T 6 (e_T 1 (e_T 0 (e_L 0 (0, ei_load 1 0 1, 0, 0)) (e_L 1 (0, ei_push (0, 6) 3, 0, 0))) (e_T 3 (e_L 3 (0, ei_if2 3 13 6, 0, 0)) (e_L 6 (0, ei_load 0 2 7, 0, 0)))) (e_T 10 (e_T 7 (e_L 7 (0, ei_getf eft elay 3 7 10, 0, 0)) (e_L 10 (0, ei_load 1 0 11, 0, 0))) (e_T 11 (e_L 11 (0, ei_load 2 0 12, 0, 0)) (e_T 12 (e_L 12 (0, ei_ast elay false 13, 0, 0)) (e_L 13 (1, e_nof, 0, 0))))))
set_option maxRecDepth 20000 in
set_option maxHeartbeats 4000000 in
theorem te_60_0_ok : ∀ pc, e_EOq eft cls elay eI n_60 pc (te_60_0 pc) :=
  (e_Tok2
  (e_Tok2
  (e_Tok2
  (e_Lok (ld_iload_n_1 (x_dk dn_60_0_0_ok 0 rfl)))
  (e_Lok (ps_bipush_6 (x_dk dn_60_0_0_ok 1 rfl))))
  (e_Tok2
  (e_Lok (e_st (I := eI) (er_icmpge (off := 10) (tg := 13) (x_dk dn_60_0_0_ok 2 rfl) (by decide)) nx_if2))
  (e_Lok (ld_aload_n_0 (x_dk dn_60_0_0_ok 3 rfl)))))
  (e_Tok2
  (e_Tok2
  (e_Lok (lk_3_51g ho_60 (x_dk dn_60_0_0_ok 4 rfl)))
  (e_Lok (ld_iload_n_1 (x_dk dn_60_0_0_ok 5 rfl))))
  (e_Tok2
  (e_Lok (ld_iload_n_2 (x_dk dn_60_0_0_ok 6 rfl)))
  (e_Tok2
  (e_Lok (sm_iastore (x_dk dn_60_0_0_ok 7 rfl)))
  (e_Lok (e_rt (I := eI) (k := 0) ⟨(x_dk dn_60_0_0_ok 8 rfl), rfl⟩))))))
def te_60 : Nat → eE := te_60_0
theorem te_60_ok : ∀ pc, e_EOq eft cls elay eI n_60 pc (te_60 pc) := te_60_0_ok
theorem ho_61 : (xm_y n_61).cls = "RobotCellHouse$Doer" := rfl
def dn_61_0_0 : List (Nat × Instr × Nat) := [(0, .aload_n 0, 1), (1, .getfield 11, 3), (4, .aload_n 1, 1), (5, .getfield 127, 3), (8, .aaload, 1), (9, .astore_n 3, 1), (10, .iload_n 2, 1), (11, .aload_n 3, 1), (12, .getfield 267, 3), (15, .if_icmp .ne 11, 3), (18, .aload_n 0, 1), (19, .aload_n 3, 1), (20, .invokevirtual 312, 3), (23, .ifCond .ne 11, 3), (26, .aload_n 0, 1), (27, .iconst 3, 1), (28, .invokevirtual 199, 3), (31, .goto 84, 3), (34, .aload_n 3, 1), (35, .getfield 104, 3), (38, .ifCond .eq 11, 3), (41, .aload_n 0, 1), (42, .iconst 4, 1), (43, .invokevirtual 199, 3), (46, .goto 69, 3)]
set_option maxRecDepth 20000 in
theorem dn_61_0_0_ok : dn_61_0_0.all (fun q => decide (decode (xm_b n_61) q.1 = .ok (q.2.1, q.2.2))) = true := xa_g_ok (by decide +kernel)
def dn_61_0_1 : List (Nat × Instr × Nat) := [(49, .aload_n 0, 1), (50, .getfield 34, 3), (53, .getfield 255, 3), (56, .ifCond .ne 11, 3), (59, .aload_n 0, 1), (60, .iconst 5, 1), (61, .invokevirtual 199, 3), (64, .goto 51, 3), (67, .iconst 0, 1), (68, .istore 4, 2), (70, .iload 4, 2), (72, .aload_n 3, 1), (73, .getfield 267, 3), (76, .if_icmp .ge 26, 3), (79, .aload_n 3, 1), (80, .getfield 270, 3), (83, .iload 4, 2), (85, .aaload, 1), (86, .aload_n 0, 1), (87, .getfield 51, 3), (90, .iload 4, 2), (92, .iaload, 1), (93, .putfield 316, 3), (96, .iinc 4 1, 3), (99, .goto (-29), 3)]
set_option maxRecDepth 20000 in
theorem dn_61_0_1_ok : dn_61_0_1.all (fun q => decide (decode (xm_b n_61) q.1 = .ok (q.2.1, q.2.2))) = true := xa_g_ok (by decide +kernel)
def dn_61_0_2 : List (Nat × Instr × Nat) := [(102, .aload_n 3, 1), (103, .aload_n 1, 1), (104, .getfield 196, 3), (107, .invokevirtual 319, 3), (110, .aload_n 1, 1), (111, .iconst 2, 1), (112, .putfield 71, 3), (115, .return_, 1)]
set_option maxRecDepth 20000 in
theorem dn_61_0_2_ok : dn_61_0_2.all (fun q => decide (decode (xm_b n_61) q.1 = .ok (q.2.1, q.2.2))) = true := xa_g_ok (by decide +kernel)
def te_61_0 : Nat → eE := (e_T 23 (e_T 10 (e_T 4 (e_T 0 (e_L 0 (0, ei_load 0 2 1, 0, 0)) (e_T 1 (e_L 1 (0, ei_getf eft elay 3 0 4, 0, 0)) (e_L 4 (0, ei_load 1 2 5, 0, 0)))) (e_T 8 (e_T 5 (e_L 5 (0, ei_getf eft elay 10 2 8, 0, 0)) (e_L 8 (0, ei_aald elay 9, 0, 0))) (e_T 9 (e_L 9 (0, ei_stor 3 2 10, 0, 0)) (e_L 10 (0, ei_load 2 0 11, 0, 0))))) (e_T 15 (e_T 11 (e_L 11 (0, ei_load 3 2 12, 0, 0)) (e_T 12 (e_L 12 (0, ei_getf eft elay 0 8 15, 0, 0)) (e_L 15 (0, ei_if2 1 26 18, 0, 0)))) (e_T 19 (e_T 18 (e_L 18 (0, ei_load 0 2 19, 0, 0)) (e_L 19 (0, ei_load 3 2 20, 0, 0))) (e_T 20 (e_L 20 (2, e_nof, 62, 2)) (e_L 23 (0, ei_if1 1 34 26, 0, 0)))))) (e_T 38 (e_T 28 (e_T 26 (e_L 26 (0, ei_load 0 2 27, 0, 0)) (e_T 27 (e_L 27 (0, ei_push (0, 3) 28, 0, 0)) (e_L 28 (2, e_nof, 46, 2)))) (e_T 34 (e_T 31 (e_L 31 (0, ei_goto 115, 0, 0)) (e_L 34 (0, ei_load 3 2 35, 0, 0))) (e_T 35 (e_L 35 (0, ei_getf eft elay 0 11 38, 0, 0)) (e_L 38 (0, ei_if1 0 49 41, 0, 0))))) (e_T 46 (e_T 42 (e_T 41 (e_L 41 (0, ei_load 0 2 42, 0, 0)) (e_L 42 (0, ei_push (0, 4) 43, 0, 0))) (e_T 43 (e_L 43 (2, e_nof, 46, 2)) (e_L 46 (0, ei_goto 115, 0, 0)))) (e_T 50 (e_T 49 (e_L 49 (0, ei_load 0 2 50, 0, 0)) (e_L 50 (0, ei_getf eft elay 3 3 53, 0, 0))) (e_T 53 (e_L 53 (0, ei_getf eft elay 2 3 56, 0, 0)) (e_L 56 (0, ei_if1 1 67 59, 0, 0)))))))
set_option maxRecDepth 20000 in
set_option maxHeartbeats 4000000 in
theorem te_61_0_ok : ∀ pc, e_EOq eft cls elay eI n_61 pc (te_61_0 pc) :=
  (e_Tok2
  (e_Tok2
  (e_Tok2
  (e_Tok2
  (e_Lok (ld_aload_n_0 (x_dk dn_61_0_0_ok 0 rfl)))
  (e_Tok2
  (e_Lok (lk_3_11g ho_61 (x_dk dn_61_0_0_ok 1 rfl)))
  (e_Lok (ld_aload_n_1 (x_dk dn_61_0_0_ok 2 rfl)))))
  (e_Tok2
  (e_Tok2
  (e_Lok (lk_3_127g ho_61 (x_dk dn_61_0_0_ok 3 rfl)))
  (e_Lok (e_st (I := eI) (er_aaload (x_dk dn_61_0_0_ok 4 rfl)) nx_aald)))
  (e_Tok2
  (e_Lok (e_st (I := eI) (er_astore_n (i := 3) (x_dk dn_61_0_0_ok 5 rfl) (by decide +kernel)) nx_stor))
  (e_Lok (ld_iload_n_2 (x_dk dn_61_0_0_ok 6 rfl))))))
  (e_Tok2
  (e_Tok2
  (e_Lok (ld_aload_n_3 (x_dk dn_61_0_0_ok 7 rfl)))
  (e_Tok2
  (e_Lok (lk_3_267g ho_61 (x_dk dn_61_0_0_ok 8 rfl)))
  (e_Lok (e_st (I := eI) (er_icmpne (off := 11) (tg := 26) (x_dk dn_61_0_0_ok 9 rfl) (by decide)) nx_if2))))
  (e_Tok2
  (e_Tok2
  (e_Lok (ld_aload_n_0 (x_dk dn_61_0_0_ok 10 rfl)))
  (e_Lok (ld_aload_n_3 (x_dk dn_61_0_0_ok 11 rfl))))
  (e_Tok2
  (e_Lok (lk_3_312 ho_61 (x_dk dn_61_0_0_ok 12 rfl)))
  (e_Lok (e_st (I := eI) (er_ifne (off := 11) (tg := 34) (x_dk dn_61_0_0_ok 13 rfl) (by decide)) nx_if1))))))
  (e_Tok2
  (e_Tok2
  (e_Tok2
  (e_Lok (ld_aload_n_0 (x_dk dn_61_0_0_ok 14 rfl)))
  (e_Tok2
  (e_Lok (ps_iconst_3 (x_dk dn_61_0_0_ok 15 rfl)))
  (e_Lok (lk_3_199 ho_61 (x_dk dn_61_0_0_ok 16 rfl)))))
  (e_Tok2
  (e_Tok2
  (e_Lok (e_st (I := eI) (er_goto (off := 84) (tg := 115) (x_dk dn_61_0_0_ok 17 rfl) (by decide)) nx_goto))
  (e_Lok (ld_aload_n_3 (x_dk dn_61_0_0_ok 18 rfl))))
  (e_Tok2
  (e_Lok (lk_3_104g ho_61 (x_dk dn_61_0_0_ok 19 rfl)))
  (e_Lok (e_st (I := eI) (er_ifeq (off := 11) (tg := 49) (x_dk dn_61_0_0_ok 20 rfl) (by decide)) nx_if1)))))
  (e_Tok2
  (e_Tok2
  (e_Tok2
  (e_Lok (ld_aload_n_0 (x_dk dn_61_0_0_ok 21 rfl)))
  (e_Lok (ps_iconst_4 (x_dk dn_61_0_0_ok 22 rfl))))
  (e_Tok2
  (e_Lok (lk_3_199 ho_61 (x_dk dn_61_0_0_ok 23 rfl)))
  (e_Lok (e_st (I := eI) (er_goto (off := 69) (tg := 115) (x_dk dn_61_0_0_ok 24 rfl) (by decide)) nx_goto))))
  (e_Tok2
  (e_Tok2
  (e_Lok (ld_aload_n_0 (x_dk dn_61_0_1_ok 0 rfl)))
  (e_Lok (lk_3_34g ho_61 (x_dk dn_61_0_1_ok 1 rfl))))
  (e_Tok2
  (e_Lok (lk_3_255g ho_61 (x_dk dn_61_0_1_ok 2 rfl)))
  (e_Lok (e_st (I := eI) (er_ifne (off := 11) (tg := 67) (x_dk dn_61_0_1_ok 3 rfl) (by decide)) nx_if1)))))))
def te_61_29 : Nat → eE := (e_T 85 (e_T 70 (e_T 61 (e_T 59 (e_L 59 (0, ei_load 0 2 60, 0, 0)) (e_T 60 (e_L 60 (0, ei_push (0, 5) 61, 0, 0)) (e_L 61 (2, e_nof, 46, 2)))) (e_T 67 (e_T 64 (e_L 64 (0, ei_goto 115, 0, 0)) (e_L 67 (0, ei_push (0, 0) 68, 0, 0))) (e_T 68 (e_L 68 (0, ei_stor 4 0 70, 0, 0)) (e_L 70 (0, ei_load 4 0 72, 0, 0))))) (e_T 76 (e_T 72 (e_L 72 (0, ei_load 3 2 73, 0, 0)) (e_T 73 (e_L 73 (0, ei_getf eft elay 0 8 76, 0, 0)) (e_L 76 (0, ei_if2 3 102 79, 0, 0)))) (e_T 80 (e_T 79 (e_L 79 (0, ei_load 3 2 80, 0, 0)) (e_L 80 (0, ei_getf eft elay 0 0 83, 0, 0))) (e_T 83 (e_L 83 (0, ei_load 4 0 85, 0, 0)) (e_L 85 (0, ei_aald elay 86, 0, 0)))))) (e_T 99 (e_T 90 (e_T 86 (e_L 86 (0, ei_load 0 2 87, 0, 0)) (e_T 87 (e_L 87 (0, ei_getf eft elay 3 7 90, 0, 0)) (e_L 90 (0, ei_load 4 0 92, 0, 0)))) (e_T 93 (e_T 92 (e_L 92 (0, ei_ald elay false 93, 0, 0)) (e_L 93 (0, ei_putf eft elay 5 9 0 96, 0, 0))) (e_T 96 (e_L 96 (0, ei_inc 4 1 99, 0, 0)) (e_L 99 (0, ei_goto 70, 0, 0))))) (e_T 107 (e_T 103 (e_T 102 (e_L 102 (0, ei_load 3 2 103, 0, 0)) (e_L 103 (0, ei_load 1 2 104, 0, 0))) (e_T 104 (e_L 104 (0, ei_getf eft elay 10 0 107, 0, 0)) (e_L 107 (2, e_nof, 13, 2)))) (e_T 111 (e_T 110 (e_L 110 (0, ei_load 1 2 111, 0, 0)) (e_L 111 (0, ei_push (0, 2) 112, 0, 0))) (e_T 112 (e_L 112 (0, ei_putf eft elay 10 1 0 115, 0, 0)) (e_L 115 (1, e_nof, 0, 0)))))))
set_option maxRecDepth 20000 in
set_option maxHeartbeats 4000000 in
theorem te_61_29_ok : ∀ pc, e_EOq eft cls elay eI n_61 pc (te_61_29 pc) :=
  (e_Tok2
  (e_Tok2
  (e_Tok2
  (e_Tok2
  (e_Lok (ld_aload_n_0 (x_dk dn_61_0_1_ok 4 rfl)))
  (e_Tok2
  (e_Lok (ps_iconst_5 (x_dk dn_61_0_1_ok 5 rfl)))
  (e_Lok (lk_3_199 ho_61 (x_dk dn_61_0_1_ok 6 rfl)))))
  (e_Tok2
  (e_Tok2
  (e_Lok (e_st (I := eI) (er_goto (off := 51) (tg := 115) (x_dk dn_61_0_1_ok 7 rfl) (by decide)) nx_goto))
  (e_Lok (ps_iconst_0 (x_dk dn_61_0_1_ok 8 rfl))))
  (e_Tok2
  (e_Lok (e_st (I := eI) (er_istore (i := 4) (x_dk dn_61_0_1_ok 9 rfl) (by decide +kernel)) nx_stor))
  (e_Lok (ld_iload_4 (x_dk dn_61_0_1_ok 10 rfl))))))
  (e_Tok2
  (e_Tok2
  (e_Lok (ld_aload_n_3 (x_dk dn_61_0_1_ok 11 rfl)))
  (e_Tok2
  (e_Lok (lk_3_267g ho_61 (x_dk dn_61_0_1_ok 12 rfl)))
  (e_Lok (e_st (I := eI) (er_icmpge (off := 26) (tg := 102) (x_dk dn_61_0_1_ok 13 rfl) (by decide)) nx_if2))))
  (e_Tok2
  (e_Tok2
  (e_Lok (ld_aload_n_3 (x_dk dn_61_0_1_ok 14 rfl)))
  (e_Lok (lk_3_270g ho_61 (x_dk dn_61_0_1_ok 15 rfl))))
  (e_Tok2
  (e_Lok (ld_iload_4 (x_dk dn_61_0_1_ok 16 rfl)))
  (e_Lok (e_st (I := eI) (er_aaload (x_dk dn_61_0_1_ok 17 rfl)) nx_aald))))))
  (e_Tok2
  (e_Tok2
  (e_Tok2
  (e_Lok (ld_aload_n_0 (x_dk dn_61_0_1_ok 18 rfl)))
  (e_Tok2
  (e_Lok (lk_3_51g ho_61 (x_dk dn_61_0_1_ok 19 rfl)))
  (e_Lok (ld_iload_4 (x_dk dn_61_0_1_ok 20 rfl)))))
  (e_Tok2
  (e_Tok2
  (e_Lok (sm_iaload (x_dk dn_61_0_1_ok 21 rfl)))
  (e_Lok (lk_3_316p ho_61 (x_dk dn_61_0_1_ok 22 rfl))))
  (e_Tok2
  (e_Lok (e_st (I := eI) (er_iinc (i := 4) (n := 1) (x_dk dn_61_0_1_ok 23 rfl) (by decide +kernel) (by decide)) nx_inc))
  (e_Lok (e_st (I := eI) (er_goto (off := (-29)) (tg := 70) (x_dk dn_61_0_1_ok 24 rfl) (by decide)) nx_goto)))))
  (e_Tok2
  (e_Tok2
  (e_Tok2
  (e_Lok (ld_aload_n_3 (x_dk dn_61_0_2_ok 0 rfl)))
  (e_Lok (ld_aload_n_1 (x_dk dn_61_0_2_ok 1 rfl))))
  (e_Tok2
  (e_Lok (lk_3_196g ho_61 (x_dk dn_61_0_2_ok 2 rfl)))
  (e_Lok (lk_3_319 ho_61 (x_dk dn_61_0_2_ok 3 rfl)))))
  (e_Tok2
  (e_Tok2
  (e_Lok (ld_aload_n_1 (x_dk dn_61_0_2_ok 4 rfl)))
  (e_Lok (ps_iconst_2 (x_dk dn_61_0_2_ok 5 rfl))))
  (e_Tok2
  (e_Lok (lk_3_71p ho_61 (x_dk dn_61_0_2_ok 6 rfl)))
  (e_Lok (e_rt (I := eI) (k := 0) ⟨(x_dk dn_61_0_2_ok 7 rfl), rfl⟩)))))))
def te_61 : Nat → eE := (e_T 56 te_61_0 te_61_29)
theorem te_61_ok : ∀ pc, e_EOq eft cls elay eI n_61 pc (te_61 pc) := (e_Tok2 (te_61_0_ok) (te_61_29_ok))
theorem ho_62 : (xm_y n_62).cls = "RobotCellHouse$Doer" := rfl
def dn_62_0_0 : List (Nat × Instr × Nat) := [(0, .iconst 0, 1), (1, .istore_n 2, 1), (2, .iload_n 2, 1), (3, .aload_n 1, 1), (4, .getfield 267, 3), (7, .if_icmp .ge 29, 3), (10, .aload_n 1, 1), (11, .getfield 270, 3), (14, .iload_n 2, 1), (15, .aaload, 1), (16, .aload_n 0, 1), (17, .getfield 51, 3), (20, .iload_n 2, 1), (21, .iaload, 1), (22, .invokevirtual 322, 3), (25, .ifCond .ne 5, 3), (28, .iconst 0, 1), (29, .ireturn, 1), (30, .iinc 2 1, 3), (33, .goto (-31), 3), (36, .iconst 1, 1), (37, .ireturn, 1)]
set_option maxRecDepth 20000 in
theorem dn_62_0_0_ok : dn_62_0_0.all (fun q => decide (decode (xm_b n_62) q.1 = .ok (q.2.1, q.2.2))) = true := xa_g_ok (by decide +kernel)
def te_62_0 : Nat → eE := (e_T 16 (e_T 4 (e_T 1 (e_T 0 (e_L 0 (0, ei_push (0, 0) 1, 0, 0)) (e_L 1 (0, ei_stor 2 0 2, 0, 0))) (e_T 2 (e_L 2 (0, ei_load 2 0 3, 0, 0)) (e_T 3 (e_L 3 (0, ei_load 1 2 4, 0, 0)) (e_L 4 (0, ei_getf eft elay 0 8 7, 0, 0))))) (e_T 11 (e_T 7 (e_L 7 (0, ei_if2 3 36 10, 0, 0)) (e_T 10 (e_L 10 (0, ei_load 1 2 11, 0, 0)) (e_L 11 (0, ei_getf eft elay 0 0 14, 0, 0)))) (e_T 14 (e_L 14 (0, ei_load 2 0 15, 0, 0)) (e_T 15 (e_L 15 (0, ei_aald elay 16, 0, 0)) (e_L 16 (0, ei_load 0 2 17, 0, 0)))))) (e_T 25 (e_T 20 (e_T 17 (e_L 17 (0, ei_getf eft elay 3 7 20, 0, 0)) (e_L 20 (0, ei_load 2 0 21, 0, 0))) (e_T 21 (e_L 21 (0, ei_ald elay false 22, 0, 0)) (e_T 22 (e_L 22 (2, e_nof, 89, 2)) (e_L 25 (0, ei_if1 1 30 28, 0, 0))))) (e_T 30 (e_T 28 (e_L 28 (0, ei_push (0, 0) 29, 0, 0)) (e_T 29 (e_L 29 (1, e_nof, 4, 0)) (e_L 30 (0, ei_inc 2 1 33, 0, 0)))) (e_T 33 (e_L 33 (0, ei_goto 2, 0, 0)) (e_T 36 (e_L 36 (0, ei_push (0, 1) 37, 0, 0)) (e_L 37 (1, e_nof, 4, 0)))))))
set_option maxRecDepth 20000 in
set_option maxHeartbeats 4000000 in
theorem te_62_0_ok : ∀ pc, e_EOq eft cls elay eI n_62 pc (te_62_0 pc) :=
  (e_Tok2
  (e_Tok2
  (e_Tok2
  (e_Tok2
  (e_Lok (ps_iconst_0 (x_dk dn_62_0_0_ok 0 rfl)))
  (e_Lok (e_st (I := eI) (er_istore_n (i := 2) (x_dk dn_62_0_0_ok 1 rfl) (by decide +kernel)) nx_stor)))
  (e_Tok2
  (e_Lok (ld_iload_n_2 (x_dk dn_62_0_0_ok 2 rfl)))
  (e_Tok2
  (e_Lok (ld_aload_n_1 (x_dk dn_62_0_0_ok 3 rfl)))
  (e_Lok (lk_3_267g ho_62 (x_dk dn_62_0_0_ok 4 rfl))))))
  (e_Tok2
  (e_Tok2
  (e_Lok (e_st (I := eI) (er_icmpge (off := 29) (tg := 36) (x_dk dn_62_0_0_ok 5 rfl) (by decide)) nx_if2))
  (e_Tok2
  (e_Lok (ld_aload_n_1 (x_dk dn_62_0_0_ok 6 rfl)))
  (e_Lok (lk_3_270g ho_62 (x_dk dn_62_0_0_ok 7 rfl)))))
  (e_Tok2
  (e_Lok (ld_iload_n_2 (x_dk dn_62_0_0_ok 8 rfl)))
  (e_Tok2
  (e_Lok (e_st (I := eI) (er_aaload (x_dk dn_62_0_0_ok 9 rfl)) nx_aald))
  (e_Lok (ld_aload_n_0 (x_dk dn_62_0_0_ok 10 rfl)))))))
  (e_Tok2
  (e_Tok2
  (e_Tok2
  (e_Lok (lk_3_51g ho_62 (x_dk dn_62_0_0_ok 11 rfl)))
  (e_Lok (ld_iload_n_2 (x_dk dn_62_0_0_ok 12 rfl))))
  (e_Tok2
  (e_Lok (sm_iaload (x_dk dn_62_0_0_ok 13 rfl)))
  (e_Tok2
  (e_Lok (lk_3_322 ho_62 (x_dk dn_62_0_0_ok 14 rfl)))
  (e_Lok (e_st (I := eI) (er_ifne (off := 5) (tg := 30) (x_dk dn_62_0_0_ok 15 rfl) (by decide)) nx_if1)))))
  (e_Tok2
  (e_Tok2
  (e_Lok (ps_iconst_0 (x_dk dn_62_0_0_ok 16 rfl)))
  (e_Tok2
  (e_Lok (e_rt (I := eI) (k := 4) ⟨(x_dk dn_62_0_0_ok 17 rfl), rfl⟩))
  (e_Lok (e_st (I := eI) (er_iinc (i := 2) (n := 1) (x_dk dn_62_0_0_ok 18 rfl) (by decide +kernel) (by decide)) nx_inc))))
  (e_Tok2
  (e_Lok (e_st (I := eI) (er_goto (off := (-31)) (tg := 2) (x_dk dn_62_0_0_ok 19 rfl) (by decide)) nx_goto))
  (e_Tok2
  (e_Lok (ps_iconst_1 (x_dk dn_62_0_0_ok 20 rfl)))
  (e_Lok (e_rt (I := eI) (k := 4) ⟨(x_dk dn_62_0_0_ok 21 rfl), rfl⟩)))))))
def te_62 : Nat → eE := te_62_0
theorem te_62_ok : ∀ pc, e_EOq eft cls elay eI n_62 pc (te_62 pc) := te_62_0_ok
theorem ho_63 : (xm_y n_63).cls = "RobotCellHouse$Doer" := rfl
def dn_63_0_0 : List (Nat × Instr × Nat) := [(0, .iload_n 2, 1), (1, .ifCond .gt 4, 3), (4, .return_, 1), (5, .aload_n 1, 1), (6, .iconst 3, 1), (7, .putfield 71, 3), (10, .aload_n 1, 1), (11, .iload_n 2, 1), (12, .putfield 193, 3), (15, .aload_n 1, 1), (16, .aload_n 0, 1), (17, .getfield 34, 3), (20, .getfield 87, 3), (23, .putfield 190, 3), (26, .return_, 1)]
set_option maxRecDepth 20000 in
theorem dn_63_0_0_ok : dn_63_0_0.all (fun q => decide (decode (xm_b n_63) q.1 = .ok (q.2.1, q.2.2))) = true := xa_g_ok (by decide +kernel)
def te_63_0 : Nat → eE := (e_T 10 (e_T 4 (e_T 0 (e_L 0 (0, ei_load 2 0 1, 0, 0)) (e_T 1 (e_L 1 (0, ei_if1 4 5 4, 0, 0)) (e_L 4 (1, e_nof, 0, 0)))) (e_T 6 (e_T 5 (e_L 5 (0, ei_load 1 2 6, 0, 0)) (e_L 6 (0, ei_push (0, 3) 7, 0, 0))) (e_T 7 (e_L 7 (0, ei_putf eft elay 10 1 0 10, 0, 0)) (e_L 10 (0, ei_load 1 2 11, 0, 0))))) (e_T 16 (e_T 12 (e_T 11 (e_L 11 (0, ei_load 2 0 12, 0, 0)) (e_L 12 (0, ei_putf eft elay 10 8 0 15, 0, 0))) (e_T 15 (e_L 15 (0, ei_load 1 2 16, 0, 0)) (e_L 16 (0, ei_load 0 2 17, 0, 0)))) (e_T 20 (e_T 17 (e_L 17 (0, ei_getf eft elay 3 3 20, 0, 0)) (e_L 20 (0, ei_getf eft elay 2 0 23, 0, 0))) (e_T 23 (e_L 23 (0, ei_putf eft elay 10 9 0 26, 0, 0)) (e_L 26 (1, e_nof, 0, 0))))))
set_option maxRecDepth 20000 in
set_option maxHeartbeats 4000000 in
theorem te_63_0_ok : ∀ pc, e_EOq eft cls elay eI n_63 pc (te_63_0 pc) :=
  (e_Tok2
  (e_Tok2
  (e_Tok2
  (e_Lok (ld_iload_n_2 (x_dk dn_63_0_0_ok 0 rfl)))
  (e_Tok2
  (e_Lok (e_st (I := eI) (er_ifgt (off := 4) (tg := 5) (x_dk dn_63_0_0_ok 1 rfl) (by decide)) nx_if1))
  (e_Lok (e_rt (I := eI) (k := 0) ⟨(x_dk dn_63_0_0_ok 2 rfl), rfl⟩))))
  (e_Tok2
  (e_Tok2
  (e_Lok (ld_aload_n_1 (x_dk dn_63_0_0_ok 3 rfl)))
  (e_Lok (ps_iconst_3 (x_dk dn_63_0_0_ok 4 rfl))))
  (e_Tok2
  (e_Lok (lk_3_71p ho_63 (x_dk dn_63_0_0_ok 5 rfl)))
  (e_Lok (ld_aload_n_1 (x_dk dn_63_0_0_ok 6 rfl))))))
  (e_Tok2
  (e_Tok2
  (e_Tok2
  (e_Lok (ld_iload_n_2 (x_dk dn_63_0_0_ok 7 rfl)))
  (e_Lok (lk_3_193p ho_63 (x_dk dn_63_0_0_ok 8 rfl))))
  (e_Tok2
  (e_Lok (ld_aload_n_1 (x_dk dn_63_0_0_ok 9 rfl)))
  (e_Lok (ld_aload_n_0 (x_dk dn_63_0_0_ok 10 rfl)))))
  (e_Tok2
  (e_Tok2
  (e_Lok (lk_3_34g ho_63 (x_dk dn_63_0_0_ok 11 rfl)))
  (e_Lok (lk_3_87g ho_63 (x_dk dn_63_0_0_ok 12 rfl))))
  (e_Tok2
  (e_Lok (lk_3_190p ho_63 (x_dk dn_63_0_0_ok 13 rfl)))
  (e_Lok (e_rt (I := eI) (k := 0) ⟨(x_dk dn_63_0_0_ok 14 rfl), rfl⟩))))))
def te_63 : Nat → eE := te_63_0
theorem te_63_ok : ∀ pc, e_EOq eft cls elay eI n_63 pc (te_63 pc) := te_63_0_ok
theorem ho_64 : (xm_y n_64).cls = "RobotCellHouse$Doer" := rfl
def dn_64_0_0 : List (Nat × Instr × Nat) := [(0, .iload_n 2, 1), (1, .ifCond .eq 4, 3), (4, .return_, 1), (5, .aload_n 1, 1), (6, .iconst 4, 1), (7, .putfield 71, 3), (10, .aload_n 1, 1), (11, .iload_n 3, 1), (12, .putfield 141, 3), (15, .return_, 1)]
set_option maxRecDepth 20000 in
theorem dn_64_0_0_ok : dn_64_0_0.all (fun q => decide (decode (xm_b n_64) q.1 = .ok (q.2.1, q.2.2))) = true := xa_g_ok (by decide +kernel)
def te_64_0 : Nat → eE := (e_T 6 (e_T 1 (e_T 0 (e_L 0 (0, ei_load 2 0 1, 0, 0)) (e_L 1 (0, ei_if1 0 5 4, 0, 0))) (e_T 4 (e_L 4 (1, e_nof, 0, 0)) (e_T 5 (e_L 5 (0, ei_load 1 2 6, 0, 0)) (e_L 6 (0, ei_push (0, 4) 7, 0, 0))))) (e_T 10 (e_T 7 (e_L 7 (0, ei_putf eft elay 10 1 0 10, 0, 0)) (e_L 10 (0, ei_load 1 2 11, 0, 0))) (e_T 11 (e_L 11 (0, ei_load 3 0 12, 0, 0)) (e_T 12 (e_L 12 (0, ei_putf eft elay 10 3 0 15, 0, 0)) (e_L 15 (1, e_nof, 0, 0))))))
set_option maxRecDepth 20000 in
set_option maxHeartbeats 4000000 in
theorem te_64_0_ok : ∀ pc, e_EOq eft cls elay eI n_64 pc (te_64_0 pc) :=
  (e_Tok2
  (e_Tok2
  (e_Tok2
  (e_Lok (ld_iload_n_2 (x_dk dn_64_0_0_ok 0 rfl)))
  (e_Lok (e_st (I := eI) (er_ifeq (off := 4) (tg := 5) (x_dk dn_64_0_0_ok 1 rfl) (by decide)) nx_if1)))
  (e_Tok2
  (e_Lok (e_rt (I := eI) (k := 0) ⟨(x_dk dn_64_0_0_ok 2 rfl), rfl⟩))
  (e_Tok2
  (e_Lok (ld_aload_n_1 (x_dk dn_64_0_0_ok 3 rfl)))
  (e_Lok (ps_iconst_4 (x_dk dn_64_0_0_ok 4 rfl))))))
  (e_Tok2
  (e_Tok2
  (e_Lok (lk_3_71p ho_64 (x_dk dn_64_0_0_ok 5 rfl)))
  (e_Lok (ld_aload_n_1 (x_dk dn_64_0_0_ok 6 rfl))))
  (e_Tok2
  (e_Lok (ld_iload_n_3 (x_dk dn_64_0_0_ok 7 rfl)))
  (e_Tok2
  (e_Lok (lk_3_141p ho_64 (x_dk dn_64_0_0_ok 8 rfl)))
  (e_Lok (e_rt (I := eI) (k := 0) ⟨(x_dk dn_64_0_0_ok 9 rfl), rfl⟩))))))
def te_64 : Nat → eE := te_64_0
theorem te_64_ok : ∀ pc, e_EOq eft cls elay eI n_64 pc (te_64 pc) := te_64_0_ok
theorem ho_65 : (xm_y n_65).cls = "RobotCellHouse$Doer" := rfl
def dn_65_0_0 : List (Nat × Instr × Nat) := [(0, .iload_n 2, 1), (1, .invokestatic 261, 3), (4, .ifCond .eq 16, 3), (7, .aload_n 0, 1), (8, .getfield 20, 3), (11, .iload_n 2, 1), (12, .iload_n 1, 1), (13, .invokevirtual 325, 3), (16, .pop, 1), (17, .goto 8, 3), (20, .aload_n 0, 1), (21, .iconst 2, 1), (22, .invokevirtual 199, 3), (25, .return_, 1)]
set_option maxRecDepth 20000 in
theorem dn_65_0_0_ok : dn_65_0_0.all (fun q => decide (decode (xm_b n_65) q.1 = .ok (q.2.1, q.2.2))) = true := xa_g_ok (by decide +kernel)
def te_65_0 : Nat → eE := (e_T 12 (e_T 4 (e_T 0 (e_L 0 (0, ei_load 2 0 1, 0, 0)) (e_T 1 (e_L 1 (2, e_nof, 245, 1)) (e_L 4 (0, ei_if1 0 20 7, 0, 0)))) (e_T 8 (e_T 7 (e_L 7 (0, ei_load 0 2 8, 0, 0)) (e_L 8 (0, ei_getf eft elay 3 1 11, 0, 0))) (e_T 11 (e_L 11 (0, ei_load 2 0 12, 0, 0)) (e_L 12 (0, ei_load 1 0 13, 0, 0))))) (e_T 17 (e_T 13 (e_L 13 (2, e_nof, 113, 3)) (e_T 16 (e_L 16 (0, ei_stk ef_pop 17, 0, 0)) (e_L 17 (0, ei_goto 25, 0, 0)))) (e_T 21 (e_T 20 (e_L 20 (0, ei_load 0 2 21, 0, 0)) (e_L 21 (0, ei_push (0, 2) 22, 0, 0))) (e_T 22 (e_L 22 (2, e_nof, 46, 2)) (e_L 25 (1, e_nof, 0, 0))))))
set_option maxRecDepth 20000 in
set_option maxHeartbeats 4000000 in
theorem te_65_0_ok : ∀ pc, e_EOq eft cls elay eI n_65 pc (te_65_0 pc) :=
  (e_Tok2
  (e_Tok2
  (e_Tok2
  (e_Lok (ld_iload_n_2 (x_dk dn_65_0_0_ok 0 rfl)))
  (e_Tok2
  (e_Lok (lk_3_261 ho_65 (x_dk dn_65_0_0_ok 1 rfl)))
  (e_Lok (e_st (I := eI) (er_ifeq (off := 16) (tg := 20) (x_dk dn_65_0_0_ok 2 rfl) (by decide)) nx_if1))))
  (e_Tok2
  (e_Tok2
  (e_Lok (ld_aload_n_0 (x_dk dn_65_0_0_ok 3 rfl)))
  (e_Lok (lk_3_20g ho_65 (x_dk dn_65_0_0_ok 4 rfl))))
  (e_Tok2
  (e_Lok (ld_iload_n_2 (x_dk dn_65_0_0_ok 5 rfl)))
  (e_Lok (ld_iload_n_1 (x_dk dn_65_0_0_ok 6 rfl))))))
  (e_Tok2
  (e_Tok2
  (e_Lok (lk_3_325 ho_65 (x_dk dn_65_0_0_ok 7 rfl)))
  (e_Tok2
  (e_Lok (e_st (I := eI) (er_pop (x_dk dn_65_0_0_ok 8 rfl)) (nx_stk bf_pop)))
  (e_Lok (e_st (I := eI) (er_goto (off := 8) (tg := 25) (x_dk dn_65_0_0_ok 9 rfl) (by decide)) nx_goto))))
  (e_Tok2
  (e_Tok2
  (e_Lok (ld_aload_n_0 (x_dk dn_65_0_0_ok 10 rfl)))
  (e_Lok (ps_iconst_2 (x_dk dn_65_0_0_ok 11 rfl))))
  (e_Tok2
  (e_Lok (lk_3_199 ho_65 (x_dk dn_65_0_0_ok 12 rfl)))
  (e_Lok (e_rt (I := eI) (k := 0) ⟨(x_dk dn_65_0_0_ok 13 rfl), rfl⟩))))))
def te_65 : Nat → eE := te_65_0
theorem te_65_ok : ∀ pc, e_EOq eft cls elay eI n_65 pc (te_65 pc) := te_65_0_ok
theorem ho_66 : (xm_y n_66).cls = "RobotCellHouse$Doer" := rfl
def dn_66_0_0 : List (Nat × Instr × Nat) := [(0, .iload_n 2, 1), (1, .iconst 0, 1), (2, .bipush 7, 2), (4, .invokestatic 120, 3), (7, .ifCond .ne 11, 3), (10, .aload_n 0, 1), (11, .iconst 2, 1), (12, .invokevirtual 199, 3), (15, .goto 75, 3), (18, .aload_n 0, 1), (19, .getfield 44, 3), (22, .iload_n 2, 1), (23, .iaload, 1), (24, .aload_n 1, 1), (25, .getfield 196, 3), (28, .if_icmp .ne 12, 3), (31, .aload_n 0, 1), (32, .bipush 9, 2), (34, .invokevirtual 199, 3), (37, .goto 53, 3), (40, .aload_n 0, 1), (41, .getfield 44, 3), (44, .iload_n 2, 1), (45, .iaload, 1), (46, .ifCond .ge 16, 3)]
set_option maxRecDepth 20000 in
theorem dn_66_0_0_ok : dn_66_0_0.all (fun q => decide (decode (xm_b n_66) q.1 = .ok (q.2.1, q.2.2))) = true := xa_g_ok (by decide +kernel)
def dn_66_0_1 : List (Nat × Instr × Nat) := [(49, .aload_n 0, 1), (50, .getfield 44, 3), (53, .iload_n 2, 1), (54, .aload_n 1, 1), (55, .getfield 196, 3), (58, .iastore, 1), (59, .goto 31, 3), (62, .aload_n 1, 1), (63, .iconst 5, 1), (64, .putfield 71, 3), (67, .aload_n 1, 1), (68, .iload_n 2, 1), (69, .putfield 193, 3), (72, .aload_n 1, 1), (73, .aload_n 0, 1), (74, .getfield 67, 3), (77, .putfield 190, 3), (80, .aload_n 0, 1), (81, .dup, 1), (82, .getfield 67, 3), (85, .iconst 1, 1), (86, .iadd, 1), (87, .putfield 67, 3), (90, .return_, 1)]
set_option maxRecDepth 20000 in
theorem dn_66_0_1_ok : dn_66_0_1.all (fun q => decide (decode (xm_b n_66) q.1 = .ok (q.2.1, q.2.2))) = true := xa_g_ok (by decide +kernel)
def te_66_0 : Nat → eE := (e_T 22 (e_T 10 (e_T 2 (e_T 0 (e_L 0 (0, ei_load 2 0 1, 0, 0)) (e_T 1 (e_L 1 (0, ei_push (0, 0) 2, 0, 0)) (e_L 2 (0, ei_push (0, 7) 4, 0, 0)))) (e_T 4 (e_L 4 (2, e_nof, 242, 3)) (e_T 7 (e_L 7 (0, ei_if1 1 18 10, 0, 0)) (e_L 10 (0, ei_load 0 2 11, 0, 0))))) (e_T 15 (e_T 11 (e_L 11 (0, ei_push (0, 2) 12, 0, 0)) (e_T 12 (e_L 12 (2, e_nof, 46, 2)) (e_L 15 (0, ei_goto 90, 0, 0)))) (e_T 18 (e_L 18 (0, ei_load 0 2 19, 0, 0)) (e_T 19 (e_L 19 (0, ei_getf eft elay 3 5 22, 0, 0)) (e_L 22 (0, ei_load 2 0 23, 0, 0)))))) (e_T 32 (e_T 25 (e_T 23 (e_L 23 (0, ei_ald elay false 24, 0, 0)) (e_T 24 (e_L 24 (0, ei_load 1 2 25, 0, 0)) (e_L 25 (0, ei_getf eft elay 10 0 28, 0, 0)))) (e_T 28 (e_L 28 (0, ei_if2 1 40 31, 0, 0)) (e_T 31 (e_L 31 (0, ei_load 0 2 32, 0, 0)) (e_L 32 (0, ei_push (0, 9) 34, 0, 0))))) (e_T 40 (e_T 34 (e_L 34 (2, e_nof, 46, 2)) (e_T 37 (e_L 37 (0, ei_goto 90, 0, 0)) (e_L 40 (0, ei_load 0 2 41, 0, 0)))) (e_T 41 (e_L 41 (0, ei_getf eft elay 3 5 44, 0, 0)) (e_T 44 (e_L 44 (0, ei_load 2 0 45, 0, 0)) (e_L 45 (0, ei_ald elay false 46, 0, 0)))))))
set_option maxRecDepth 20000 in
set_option maxHeartbeats 4000000 in
theorem te_66_0_ok : ∀ pc, e_EOq eft cls elay eI n_66 pc (te_66_0 pc) :=
  (e_Tok2
  (e_Tok2
  (e_Tok2
  (e_Tok2
  (e_Lok (ld_iload_n_2 (x_dk dn_66_0_0_ok 0 rfl)))
  (e_Tok2
  (e_Lok (ps_iconst_0 (x_dk dn_66_0_0_ok 1 rfl)))
  (e_Lok (ps_bipush_7 (x_dk dn_66_0_0_ok 2 rfl)))))
  (e_Tok2
  (e_Lok (lk_3_120 ho_66 (x_dk dn_66_0_0_ok 3 rfl)))
  (e_Tok2
  (e_Lok (e_st (I := eI) (er_ifne (off := 11) (tg := 18) (x_dk dn_66_0_0_ok 4 rfl) (by decide)) nx_if1))
  (e_Lok (ld_aload_n_0 (x_dk dn_66_0_0_ok 5 rfl))))))
  (e_Tok2
  (e_Tok2
  (e_Lok (ps_iconst_2 (x_dk dn_66_0_0_ok 6 rfl)))
  (e_Tok2
  (e_Lok (lk_3_199 ho_66 (x_dk dn_66_0_0_ok 7 rfl)))
  (e_Lok (e_st (I := eI) (er_goto (off := 75) (tg := 90) (x_dk dn_66_0_0_ok 8 rfl) (by decide)) nx_goto))))
  (e_Tok2
  (e_Lok (ld_aload_n_0 (x_dk dn_66_0_0_ok 9 rfl)))
  (e_Tok2
  (e_Lok (lk_3_44g ho_66 (x_dk dn_66_0_0_ok 10 rfl)))
  (e_Lok (ld_iload_n_2 (x_dk dn_66_0_0_ok 11 rfl)))))))
  (e_Tok2
  (e_Tok2
  (e_Tok2
  (e_Lok (sm_iaload (x_dk dn_66_0_0_ok 12 rfl)))
  (e_Tok2
  (e_Lok (ld_aload_n_1 (x_dk dn_66_0_0_ok 13 rfl)))
  (e_Lok (lk_3_196g ho_66 (x_dk dn_66_0_0_ok 14 rfl)))))
  (e_Tok2
  (e_Lok (e_st (I := eI) (er_icmpne (off := 12) (tg := 40) (x_dk dn_66_0_0_ok 15 rfl) (by decide)) nx_if2))
  (e_Tok2
  (e_Lok (ld_aload_n_0 (x_dk dn_66_0_0_ok 16 rfl)))
  (e_Lok (ps_bipush_9 (x_dk dn_66_0_0_ok 17 rfl))))))
  (e_Tok2
  (e_Tok2
  (e_Lok (lk_3_199 ho_66 (x_dk dn_66_0_0_ok 18 rfl)))
  (e_Tok2
  (e_Lok (e_st (I := eI) (er_goto (off := 53) (tg := 90) (x_dk dn_66_0_0_ok 19 rfl) (by decide)) nx_goto))
  (e_Lok (ld_aload_n_0 (x_dk dn_66_0_0_ok 20 rfl)))))
  (e_Tok2
  (e_Lok (lk_3_44g ho_66 (x_dk dn_66_0_0_ok 21 rfl)))
  (e_Tok2
  (e_Lok (ld_iload_n_2 (x_dk dn_66_0_0_ok 22 rfl)))
  (e_Lok (sm_iaload (x_dk dn_66_0_0_ok 23 rfl))))))))
def te_66_24 : Nat → eE := (e_T 67 (e_T 55 (e_T 50 (e_T 46 (e_L 46 (0, ei_if1 3 62 49, 0, 0)) (e_T 49 (e_L 49 (0, ei_load 0 2 50, 0, 0)) (e_L 50 (0, ei_getf eft elay 3 5 53, 0, 0)))) (e_T 53 (e_L 53 (0, ei_load 2 0 54, 0, 0)) (e_T 54 (e_L 54 (0, ei_load 1 2 55, 0, 0)) (e_L 55 (0, ei_getf eft elay 10 0 58, 0, 0))))) (e_T 62 (e_T 58 (e_L 58 (0, ei_ast elay false 59, 0, 0)) (e_T 59 (e_L 59 (0, ei_goto 90, 0, 0)) (e_L 62 (0, ei_load 1 2 63, 0, 0)))) (e_T 63 (e_L 63 (0, ei_push (0, 5) 64, 0, 0)) (e_T 64 (e_L 64 (0, ei_putf eft elay 10 1 0 67, 0, 0)) (e_L 67 (0, ei_load 1 2 68, 0, 0)))))) (e_T 77 (e_T 72 (e_T 68 (e_L 68 (0, ei_load 2 0 69, 0, 0)) (e_T 69 (e_L 69 (0, ei_putf eft elay 10 8 0 72, 0, 0)) (e_L 72 (0, ei_load 1 2 73, 0, 0)))) (e_T 73 (e_L 73 (0, ei_load 0 2 74, 0, 0)) (e_T 74 (e_L 74 (0, ei_getf eft elay 3 9 77, 0, 0)) (e_L 77 (0, ei_putf eft elay 10 9 0 80, 0, 0))))) (e_T 82 (e_T 80 (e_L 80 (0, ei_load 0 2 81, 0, 0)) (e_T 81 (e_L 81 (0, ei_stk ef_dup 82, 0, 0)) (e_L 82 (0, ei_getf eft elay 3 9 85, 0, 0)))) (e_T 86 (e_T 85 (e_L 85 (0, ei_push (0, 1) 86, 0, 0)) (e_L 86 (0, ei_bin eF_add 87, 0, 0))) (e_T 87 (e_L 87 (0, ei_putf eft elay 3 9 0 90, 0, 0)) (e_L 90 (1, e_nof, 0, 0)))))))
set_option maxRecDepth 20000 in
set_option maxHeartbeats 4000000 in
theorem te_66_24_ok : ∀ pc, e_EOq eft cls elay eI n_66 pc (te_66_24 pc) :=
  (e_Tok2
  (e_Tok2
  (e_Tok2
  (e_Tok2
  (e_Lok (e_st (I := eI) (er_ifge (off := 16) (tg := 62) (x_dk dn_66_0_0_ok 24 rfl) (by decide)) nx_if1))
  (e_Tok2
  (e_Lok (ld_aload_n_0 (x_dk dn_66_0_1_ok 0 rfl)))
  (e_Lok (lk_3_44g ho_66 (x_dk dn_66_0_1_ok 1 rfl)))))
  (e_Tok2
  (e_Lok (ld_iload_n_2 (x_dk dn_66_0_1_ok 2 rfl)))
  (e_Tok2
  (e_Lok (ld_aload_n_1 (x_dk dn_66_0_1_ok 3 rfl)))
  (e_Lok (lk_3_196g ho_66 (x_dk dn_66_0_1_ok 4 rfl))))))
  (e_Tok2
  (e_Tok2
  (e_Lok (sm_iastore (x_dk dn_66_0_1_ok 5 rfl)))
  (e_Tok2
  (e_Lok (e_st (I := eI) (er_goto (off := 31) (tg := 90) (x_dk dn_66_0_1_ok 6 rfl) (by decide)) nx_goto))
  (e_Lok (ld_aload_n_1 (x_dk dn_66_0_1_ok 7 rfl)))))
  (e_Tok2
  (e_Lok (ps_iconst_5 (x_dk dn_66_0_1_ok 8 rfl)))
  (e_Tok2
  (e_Lok (lk_3_71p ho_66 (x_dk dn_66_0_1_ok 9 rfl)))
  (e_Lok (ld_aload_n_1 (x_dk dn_66_0_1_ok 10 rfl)))))))
  (e_Tok2
  (e_Tok2
  (e_Tok2
  (e_Lok (ld_iload_n_2 (x_dk dn_66_0_1_ok 11 rfl)))
  (e_Tok2
  (e_Lok (lk_3_193p ho_66 (x_dk dn_66_0_1_ok 12 rfl)))
  (e_Lok (ld_aload_n_1 (x_dk dn_66_0_1_ok 13 rfl)))))
  (e_Tok2
  (e_Lok (ld_aload_n_0 (x_dk dn_66_0_1_ok 14 rfl)))
  (e_Tok2
  (e_Lok (lk_3_67g ho_66 (x_dk dn_66_0_1_ok 15 rfl)))
  (e_Lok (lk_3_190p ho_66 (x_dk dn_66_0_1_ok 16 rfl))))))
  (e_Tok2
  (e_Tok2
  (e_Lok (ld_aload_n_0 (x_dk dn_66_0_1_ok 17 rfl)))
  (e_Tok2
  (e_Lok (e_st (I := eI) (er_dup (x_dk dn_66_0_1_ok 18 rfl)) (nx_stk bf_dup)))
  (e_Lok (lk_3_67g ho_66 (x_dk dn_66_0_1_ok 19 rfl)))))
  (e_Tok2
  (e_Tok2
  (e_Lok (ps_iconst_1 (x_dk dn_66_0_1_ok 20 rfl)))
  (e_Lok (sm_iadd (x_dk dn_66_0_1_ok 21 rfl))))
  (e_Tok2
  (e_Lok (lk_3_67p ho_66 (x_dk dn_66_0_1_ok 22 rfl)))
  (e_Lok (e_rt (I := eI) (k := 0) ⟨(x_dk dn_66_0_1_ok 23 rfl), rfl⟩)))))))
def te_66 : Nat → eE := (e_T 45 te_66_0 te_66_24)
theorem te_66_ok : ∀ pc, e_EOq eft cls elay eI n_66 pc (te_66 pc) := (e_Tok2 (te_66_0_ok) (te_66_24_ok))
theorem ho_67 : (xm_y n_67).cls = "RobotCellHouse$Doer" := rfl
def dn_67_0_0 : List (Nat × Instr × Nat) := [(0, .iload_n 2, 1), (1, .iconst 0, 1), (2, .bipush 7, 2), (4, .invokestatic 120, 3), (7, .ifCond .eq 24, 3), (10, .aload_n 0, 1), (11, .getfield 44, 3), (14, .iload_n 2, 1), (15, .iaload, 1), (16, .aload_n 1, 1), (17, .getfield 196, 3), (20, .if_icmp .ne 11, 3), (23, .aload_n 0, 1), (24, .iload_n 2, 1), (25, .invokevirtual 236, 3), (28, .goto 9, 3), (31, .aload_n 0, 1), (32, .bipush 9, 2), (34, .invokevirtual 199, 3), (37, .return_, 1)]
set_option maxRecDepth 20000 in
theorem dn_67_0_0_ok : dn_67_0_0.all (fun q => decide (decode (xm_b n_67) q.1 = .ok (q.2.1, q.2.2))) = true := xa_g_ok (by decide +kernel)
def te_67_0 : Nat → eE := (e_T 16 (e_T 7 (e_T 1 (e_T 0 (e_L 0 (0, ei_load 2 0 1, 0, 0)) (e_L 1 (0, ei_push (0, 0) 2, 0, 0))) (e_T 2 (e_L 2 (0, ei_push (0, 7) 4, 0, 0)) (e_T 4 (e_L 4 (2, e_nof, 242, 3)) (e_L 7 (0, ei_if1 0 31 10, 0, 0))))) (e_T 11 (e_T 10 (e_L 10 (0, ei_load 0 2 11, 0, 0)) (e_L 11 (0, ei_getf eft elay 3 5 14, 0, 0))) (e_T 14 (e_L 14 (0, ei_load 2 0 15, 0, 0)) (e_T 15 (e_L 15 (0, ei_ald elay false 16, 0, 0)) (e_L 16 (0, ei_load 1 2 17, 0, 0)))))) (e_T 25 (e_T 20 (e_T 17 (e_L 17 (0, ei_getf eft elay 10 0 20, 0, 0)) (e_L 20 (0, ei_if2 1 31 23, 0, 0))) (e_T 23 (e_L 23 (0, ei_load 0 2 24, 0, 0)) (e_T 24 (e_L 24 (0, ei_load 2 0 25, 0, 0)) (e_L 25 (2, e_nof, 51, 2))))) (e_T 31 (e_T 28 (e_L 28 (0, ei_goto 37, 0, 0)) (e_L 31 (0, ei_load 0 2 32, 0, 0))) (e_T 32 (e_L 32 (0, ei_push (0, 9) 34, 0, 0)) (e_T 34 (e_L 34 (2, e_nof, 46, 2)) (e_L 37 (1, e_nof, 0, 0)))))))
set_option maxRecDepth 20000 in
set_option maxHeartbeats 4000000 in
theorem te_67_0_ok : ∀ pc, e_EOq eft cls elay eI n_67 pc (te_67_0 pc) :=
  (e_Tok2
  (e_Tok2
  (e_Tok2
  (e_Tok2
  (e_Lok (ld_iload_n_2 (x_dk dn_67_0_0_ok 0 rfl)))
  (e_Lok (ps_iconst_0 (x_dk dn_67_0_0_ok 1 rfl))))
  (e_Tok2
  (e_Lok (ps_bipush_7 (x_dk dn_67_0_0_ok 2 rfl)))
  (e_Tok2
  (e_Lok (lk_3_120 ho_67 (x_dk dn_67_0_0_ok 3 rfl)))
  (e_Lok (e_st (I := eI) (er_ifeq (off := 24) (tg := 31) (x_dk dn_67_0_0_ok 4 rfl) (by decide)) nx_if1)))))
  (e_Tok2
  (e_Tok2
  (e_Lok (ld_aload_n_0 (x_dk dn_67_0_0_ok 5 rfl)))
  (e_Lok (lk_3_44g ho_67 (x_dk dn_67_0_0_ok 6 rfl))))
  (e_Tok2
  (e_Lok (ld_iload_n_2 (x_dk dn_67_0_0_ok 7 rfl)))
  (e_Tok2
  (e_Lok (sm_iaload (x_dk dn_67_0_0_ok 8 rfl)))
  (e_Lok (ld_aload_n_1 (x_dk dn_67_0_0_ok 9 rfl)))))))
  (e_Tok2
  (e_Tok2
  (e_Tok2
  (e_Lok (lk_3_196g ho_67 (x_dk dn_67_0_0_ok 10 rfl)))
  (e_Lok (e_st (I := eI) (er_icmpne (off := 11) (tg := 31) (x_dk dn_67_0_0_ok 11 rfl) (by decide)) nx_if2)))
  (e_Tok2
  (e_Lok (ld_aload_n_0 (x_dk dn_67_0_0_ok 12 rfl)))
  (e_Tok2
  (e_Lok (ld_iload_n_2 (x_dk dn_67_0_0_ok 13 rfl)))
  (e_Lok (lk_3_236 ho_67 (x_dk dn_67_0_0_ok 14 rfl))))))
  (e_Tok2
  (e_Tok2
  (e_Lok (e_st (I := eI) (er_goto (off := 9) (tg := 37) (x_dk dn_67_0_0_ok 15 rfl) (by decide)) nx_goto))
  (e_Lok (ld_aload_n_0 (x_dk dn_67_0_0_ok 16 rfl))))
  (e_Tok2
  (e_Lok (ps_bipush_9 (x_dk dn_67_0_0_ok 17 rfl)))
  (e_Tok2
  (e_Lok (lk_3_199 ho_67 (x_dk dn_67_0_0_ok 18 rfl)))
  (e_Lok (e_rt (I := eI) (k := 0) ⟨(x_dk dn_67_0_0_ok 19 rfl), rfl⟩)))))))
def te_67 : Nat → eE := te_67_0
theorem te_67_ok : ∀ pc, e_EOq eft cls elay eI n_67 pc (te_67 pc) := te_67_0_ok
theorem ho_68 : (xm_y n_68).cls = "RobotCellHouse$Doer" := rfl
def dn_68_0_0 : List (Nat × Instr × Nat) := [(0, .aload_n 0, 1), (1, .getfield 11, 3), (4, .iload_n 1, 1), (5, .aaload, 1), (6, .astore_n 2, 1), (7, .iconst (-1), 1), (8, .istore_n 3, 1), (9, .aload_n 2, 1), (10, .getfield 258, 3), (13, .ifCond .ge 33, 3), (16, .aload_n 0, 1), (17, .getfield 27, 3), (20, .aload_n 2, 1), (21, .getfield 328, 3), (24, .aload_n 2, 1), (25, .getfield 267, 3), (28, .iaload, 1), (29, .aload_n 2, 1), (30, .getfield 331, 3), (33, .aload_n 2, 1), (34, .getfield 267, 3), (37, .iaload, 1), (38, .aload_n 2, 1), (39, .getfield 334, 3), (42, .invokevirtual 337, 3)]
set_option maxRecDepth 20000 in
theorem dn_68_0_0_ok : dn_68_0_0.all (fun q => decide (decode (xm_b n_68) q.1 = .ok (q.2.1, q.2.2))) = true := xa_g_ok (by decide +kernel)
def dn_68_0_1 : List (Nat × Instr × Nat) := [(45, .istore_n 3, 1), (46, .iload_n 3, 1), (47, .ifCond .ge 10, 3), (50, .aload_n 0, 1), (51, .bipush 7, 2), (53, .invokevirtual 199, 3), (56, .return_, 1), (57, .aload_n 0, 1), (58, .getfield 27, 3), (61, .iload_n 1, 1), (62, .iload_n 3, 1), (63, .invokevirtual 341, 3), (66, .aload_n 2, 1), (67, .iload_n 3, 1), (68, .putfield 258, 3), (71, .aload_n 2, 1), (72, .aload_n 0, 1), (73, .getfield 27, 3), (76, .getfield 344, 3), (79, .iload_n 3, 1), (80, .iaload, 1), (81, .putfield 347, 3), (84, .aload_n 0, 1), (85, .getfield 34, 3), (88, .bipush 6, 2)]
set_option maxRecDepth 20000 in
theorem dn_68_0_1_ok : dn_68_0_1.all (fun q => decide (decode (xm_b n_68) q.1 = .ok (q.2.1, q.2.2))) = true := xa_g_ok (by decide +kernel)
def dn_68_0_2 : List (Nat × Instr × Nat) := [(90, .iload_n 1, 1), (91, .iload_n 3, 1), (92, .invokevirtual 108, 3), (95, .aload_n 0, 1), (96, .iconst (-1), 1), (97, .invokevirtual 350, 3), (100, .return_, 1)]
set_option maxRecDepth 20000 in
theorem dn_68_0_2_ok : dn_68_0_2.all (fun q => decide (decode (xm_b n_68) q.1 = .ok (q.2.1, q.2.2))) = true := xa_g_ok (by decide +kernel)
def te_68_0 : Nat → eE := (e_T 21 (e_T 8 (e_T 4 (e_T 0 (e_L 0 (0, ei_load 0 2 1, 0, 0)) (e_T 1 (e_L 1 (0, ei_getf eft elay 3 0 4, 0, 0)) (e_L 4 (0, ei_load 1 0 5, 0, 0)))) (e_T 6 (e_T 5 (e_L 5 (0, ei_aald elay 6, 0, 0)) (e_L 6 (0, ei_stor 2 2 7, 0, 0))) (e_T 7 (e_L 7 (0, ei_push (0, (-1)) 8, 0, 0)) (e_L 8 (0, ei_stor 3 0 9, 0, 0))))) (e_T 13 (e_T 9 (e_L 9 (0, ei_load 2 2 10, 0, 0)) (e_T 10 (e_L 10 (0, ei_getf eft elay 0 14 13, 0, 0)) (e_L 13 (0, ei_if1 3 46 16, 0, 0)))) (e_T 17 (e_T 16 (e_L 16 (0, ei_load 0 2 17, 0, 0)) (e_L 17 (0, ei_getf eft elay 3 2 20, 0, 0))) (e_T 20 (e_L 20 (0, ei_load 2 2 21, 0, 0)) (e_L 21 (0, ei_getf eft elay 0 1 24, 0, 0)))))) (e_T 34 (e_T 28 (e_T 24 (e_L 24 (0, ei_load 2 2 25, 0, 0)) (e_T 25 (e_L 25 (0, ei_getf eft elay 0 8 28, 0, 0)) (e_L 28 (0, ei_ald elay false 29, 0, 0)))) (e_T 30 (e_T 29 (e_L 29 (0, ei_load 2 2 30, 0, 0)) (e_L 30 (0, ei_getf eft elay 0 2 33, 0, 0))) (e_T 33 (e_L 33 (0, ei_load 2 2 34, 0, 0)) (e_L 34 (0, ei_getf eft elay 0 8 37, 0, 0))))) (e_T 39 (e_T 37 (e_L 37 (0, ei_ald elay false 38, 0, 0)) (e_T 38 (e_L 38 (0, ei_load 2 2 39, 0, 0)) (e_L 39 (0, ei_getf eft elay 0 10 42, 0, 0)))) (e_T 45 (e_T 42 (e_L 42 (2, e_nof, 83, 4)) (e_L 45 (0, ei_stor 3 0 46, 0, 0))) (e_T 46 (e_L 46 (0, ei_load 3 0 47, 0, 0)) (e_L 47 (0, ei_if1 3 57 50, 0, 0)))))))
set_option maxRecDepth 20000 in
set_option maxHeartbeats 4000000 in
theorem te_68_0_ok : ∀ pc, e_EOq eft cls elay eI n_68 pc (te_68_0 pc) :=
  (e_Tok2
  (e_Tok2
  (e_Tok2
  (e_Tok2
  (e_Lok (ld_aload_n_0 (x_dk dn_68_0_0_ok 0 rfl)))
  (e_Tok2
  (e_Lok (lk_3_11g ho_68 (x_dk dn_68_0_0_ok 1 rfl)))
  (e_Lok (ld_iload_n_1 (x_dk dn_68_0_0_ok 2 rfl)))))
  (e_Tok2
  (e_Tok2
  (e_Lok (e_st (I := eI) (er_aaload (x_dk dn_68_0_0_ok 3 rfl)) nx_aald))
  (e_Lok (e_st (I := eI) (er_astore_n (i := 2) (x_dk dn_68_0_0_ok 4 rfl) (by decide +kernel)) nx_stor)))
  (e_Tok2
  (e_Lok (ps_iconst_m1 (x_dk dn_68_0_0_ok 5 rfl)))
  (e_Lok (e_st (I := eI) (er_istore_n (i := 3) (x_dk dn_68_0_0_ok 6 rfl) (by decide +kernel)) nx_stor)))))
  (e_Tok2
  (e_Tok2
  (e_Lok (ld_aload_n_2 (x_dk dn_68_0_0_ok 7 rfl)))
  (e_Tok2
  (e_Lok (lk_3_258g ho_68 (x_dk dn_68_0_0_ok 8 rfl)))
  (e_Lok (e_st (I := eI) (er_ifge (off := 33) (tg := 46) (x_dk dn_68_0_0_ok 9 rfl) (by decide)) nx_if1))))
  (e_Tok2
  (e_Tok2
  (e_Lok (ld_aload_n_0 (x_dk dn_68_0_0_ok 10 rfl)))
  (e_Lok (lk_3_27g ho_68 (x_dk dn_68_0_0_ok 11 rfl))))
  (e_Tok2
  (e_Lok (ld_aload_n_2 (x_dk dn_68_0_0_ok 12 rfl)))
  (e_Lok (lk_3_328g ho_68 (x_dk dn_68_0_0_ok 13 rfl)))))))
  (e_Tok2
  (e_Tok2
  (e_Tok2
  (e_Lok (ld_aload_n_2 (x_dk dn_68_0_0_ok 14 rfl)))
  (e_Tok2
  (e_Lok (lk_3_267g ho_68 (x_dk dn_68_0_0_ok 15 rfl)))
  (e_Lok (sm_iaload (x_dk dn_68_0_0_ok 16 rfl)))))
  (e_Tok2
  (e_Tok2
  (e_Lok (ld_aload_n_2 (x_dk dn_68_0_0_ok 17 rfl)))
  (e_Lok (lk_3_331g ho_68 (x_dk dn_68_0_0_ok 18 rfl))))
  (e_Tok2
  (e_Lok (ld_aload_n_2 (x_dk dn_68_0_0_ok 19 rfl)))
  (e_Lok (lk_3_267g ho_68 (x_dk dn_68_0_0_ok 20 rfl))))))
  (e_Tok2
  (e_Tok2
  (e_Lok (sm_iaload (x_dk dn_68_0_0_ok 21 rfl)))
  (e_Tok2
  (e_Lok (ld_aload_n_2 (x_dk dn_68_0_0_ok 22 rfl)))
  (e_Lok (lk_3_334g ho_68 (x_dk dn_68_0_0_ok 23 rfl)))))
  (e_Tok2
  (e_Tok2
  (e_Lok (lk_3_337 ho_68 (x_dk dn_68_0_0_ok 24 rfl)))
  (e_Lok (e_st (I := eI) (er_istore_n (i := 3) (x_dk dn_68_0_1_ok 0 rfl) (by decide +kernel)) nx_stor)))
  (e_Tok2
  (e_Lok (ld_iload_n_3 (x_dk dn_68_0_1_ok 1 rfl)))
  (e_Lok (e_st (I := eI) (er_ifge (off := 10) (tg := 57) (x_dk dn_68_0_1_ok 2 rfl) (by decide)) nx_if1)))))))
def te_68_28 : Nat → eE := (e_T 72 (e_T 61 (e_T 53 (e_T 50 (e_L 50 (0, ei_load 0 2 51, 0, 0)) (e_T 51 (e_L 51 (0, ei_push (0, 7) 53, 0, 0)) (e_L 53 (2, e_nof, 46, 2)))) (e_T 57 (e_T 56 (e_L 56 (1, e_nof, 0, 0)) (e_L 57 (0, ei_load 0 2 58, 0, 0))) (e_T 58 (e_L 58 (0, ei_getf eft elay 3 2 61, 0, 0)) (e_L 61 (0, ei_load 1 0 62, 0, 0))))) (e_T 66 (e_T 62 (e_L 62 (0, ei_load 3 0 63, 0, 0)) (e_T 63 (e_L 63 (2, e_nof, 84, 3)) (e_L 66 (0, ei_load 2 2 67, 0, 0)))) (e_T 68 (e_T 67 (e_L 67 (0, ei_load 3 0 68, 0, 0)) (e_L 68 (0, ei_putf eft elay 0 14 0 71, 0, 0))) (e_T 71 (e_L 71 (0, ei_load 2 2 72, 0, 0)) (e_L 72 (0, ei_load 0 2 73, 0, 0)))))) (e_T 85 (e_T 79 (e_T 73 (e_L 73 (0, ei_getf eft elay 3 2 76, 0, 0)) (e_T 76 (e_L 76 (0, ei_getf eft elay 4 16 79, 0, 0)) (e_L 79 (0, ei_load 3 0 80, 0, 0)))) (e_T 81 (e_T 80 (e_L 80 (0, ei_ald elay false 81, 0, 0)) (e_L 81 (0, ei_putf eft elay 0 15 0 84, 0, 0))) (e_T 84 (e_L 84 (0, ei_load 0 2 85, 0, 0)) (e_L 85 (0, ei_getf eft elay 3 3 88, 0, 0))))) (e_T 92 (e_T 90 (e_T 88 (e_L 88 (0, ei_push (0, 6) 90, 0, 0)) (e_L 90 (0, ei_load 1 0 91, 0, 0))) (e_T 91 (e_L 91 (0, ei_load 3 0 92, 0, 0)) (e_L 92 (2, e_nof, 27, 4)))) (e_T 96 (e_T 95 (e_L 95 (0, ei_load 0 2 96, 0, 0)) (e_L 96 (0, ei_push (0, (-1)) 97, 0, 0))) (e_T 97 (e_L 97 (2, e_nof, 39, 2)) (e_L 100 (1, e_nof, 0, 0)))))))
set_option maxRecDepth 20000 in
set_option maxHeartbeats 4000000 in
theorem te_68_28_ok : ∀ pc, e_EOq eft cls elay eI n_68 pc (te_68_28 pc) :=
  (e_Tok2
  (e_Tok2
  (e_Tok2
  (e_Tok2
  (e_Lok (ld_aload_n_0 (x_dk dn_68_0_1_ok 3 rfl)))
  (e_Tok2
  (e_Lok (ps_bipush_7 (x_dk dn_68_0_1_ok 4 rfl)))
  (e_Lok (lk_3_199 ho_68 (x_dk dn_68_0_1_ok 5 rfl)))))
  (e_Tok2
  (e_Tok2
  (e_Lok (e_rt (I := eI) (k := 0) ⟨(x_dk dn_68_0_1_ok 6 rfl), rfl⟩))
  (e_Lok (ld_aload_n_0 (x_dk dn_68_0_1_ok 7 rfl))))
  (e_Tok2
  (e_Lok (lk_3_27g ho_68 (x_dk dn_68_0_1_ok 8 rfl)))
  (e_Lok (ld_iload_n_1 (x_dk dn_68_0_1_ok 9 rfl))))))
  (e_Tok2
  (e_Tok2
  (e_Lok (ld_iload_n_3 (x_dk dn_68_0_1_ok 10 rfl)))
  (e_Tok2
  (e_Lok (lk_3_341 ho_68 (x_dk dn_68_0_1_ok 11 rfl)))
  (e_Lok (ld_aload_n_2 (x_dk dn_68_0_1_ok 12 rfl)))))
  (e_Tok2
  (e_Tok2
  (e_Lok (ld_iload_n_3 (x_dk dn_68_0_1_ok 13 rfl)))
  (e_Lok (lk_3_258p ho_68 (x_dk dn_68_0_1_ok 14 rfl))))
  (e_Tok2
  (e_Lok (ld_aload_n_2 (x_dk dn_68_0_1_ok 15 rfl)))
  (e_Lok (ld_aload_n_0 (x_dk dn_68_0_1_ok 16 rfl)))))))
  (e_Tok2
  (e_Tok2
  (e_Tok2
  (e_Lok (lk_3_27g ho_68 (x_dk dn_68_0_1_ok 17 rfl)))
  (e_Tok2
  (e_Lok (lk_3_344g ho_68 (x_dk dn_68_0_1_ok 18 rfl)))
  (e_Lok (ld_iload_n_3 (x_dk dn_68_0_1_ok 19 rfl)))))
  (e_Tok2
  (e_Tok2
  (e_Lok (sm_iaload (x_dk dn_68_0_1_ok 20 rfl)))
  (e_Lok (lk_3_347p ho_68 (x_dk dn_68_0_1_ok 21 rfl))))
  (e_Tok2
  (e_Lok (ld_aload_n_0 (x_dk dn_68_0_1_ok 22 rfl)))
  (e_Lok (lk_3_34g ho_68 (x_dk dn_68_0_1_ok 23 rfl))))))
  (e_Tok2
  (e_Tok2
  (e_Tok2
  (e_Lok (ps_bipush_6 (x_dk dn_68_0_1_ok 24 rfl)))
  (e_Lok (ld_iload_n_1 (x_dk dn_68_0_2_ok 0 rfl))))
  (e_Tok2
  (e_Lok (ld_iload_n_3 (x_dk dn_68_0_2_ok 1 rfl)))
  (e_Lok (lk_3_108 ho_68 (x_dk dn_68_0_2_ok 2 rfl)))))
  (e_Tok2
  (e_Tok2
  (e_Lok (ld_aload_n_0 (x_dk dn_68_0_2_ok 3 rfl)))
  (e_Lok (ps_iconst_m1 (x_dk dn_68_0_2_ok 4 rfl))))
  (e_Tok2
  (e_Lok (lk_3_350 ho_68 (x_dk dn_68_0_2_ok 5 rfl)))
  (e_Lok (e_rt (I := eI) (k := 0) ⟨(x_dk dn_68_0_2_ok 6 rfl), rfl⟩)))))))
def te_68 : Nat → eE := (e_T 47 te_68_0 te_68_28)
theorem te_68_ok : ∀ pc, e_EOq eft cls elay eI n_68 pc (te_68 pc) := (e_Tok2 (te_68_0_ok) (te_68_28_ok))
end
