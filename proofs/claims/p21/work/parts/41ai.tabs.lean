noncomputable section
theorem ho_119 : (xm_y n_119).cls = "RobotCellHouse$Reader" := rfl
def dn_119_0_0 : List (Nat × Instr × Nat) := [(0, .aload_n 0, 1), (1, .iconst 0, 1), (2, .putfield 9, 3), (5, .aload_n 0, 1), (6, .iconst (-1), 1), (7, .putfield 15, 3), (10, .aload_n 0, 1), (11, .iconst 0, 1), (12, .putfield 39, 3), (15, .aload_n 0, 1), (16, .iconst 0, 1), (17, .putfield 42, 3), (20, .aload_n 0, 1), (21, .iconst 0, 1), (22, .putfield 45, 3), (25, .aload_n 0, 1), (26, .iconst 0, 1), (27, .putfield 48, 3), (30, .aload_n 0, 1), (31, .getfield 21, 3), (34, .invokevirtual 51, 3), (37, .aload_n 0, 1), (38, .invokevirtual 54, 3), (41, .iconst 0, 1), (42, .istore_n 1, 1)]
set_option maxRecDepth 20000 in
theorem dn_119_0_0_ok : dn_119_0_0.all (fun q => decide (decode (xm_b n_119) q.1 = .ok (q.2.1, q.2.2))) = true := xa_g_ok (by decide +kernel)
def dn_119_0_1 : List (Nat × Instr × Nat) := [(43, .iload_n 1, 1), (44, .sipush 4000, 3), (47, .if_icmp .ge 22, 3), (50, .aload_n 0, 1), (51, .getfield 57, 3), (54, .bipush 21, 2), (56, .if_icmp .ne 13, 3), (59, .aload_n 0, 1), (60, .invokevirtual 60, 3), (63, .iinc 1 1, 3), (66, .goto (-23), 3), (69, .iconst 0, 1), (70, .istore_n 1, 1), (71, .iload_n 1, 1), (72, .sipush 4000, 3), (75, .if_icmp .ge 22, 3), (78, .aload_n 0, 1), (79, .getfield 57, 3), (82, .bipush 22, 2), (84, .if_icmp .ne 13, 3), (87, .aload_n 0, 1), (88, .invokevirtual 63, 3), (91, .iinc 1 1, 3), (94, .goto (-23), 3), (97, .aload_n 0, 1)]
set_option maxRecDepth 20000 in
theorem dn_119_0_1_ok : dn_119_0_1.all (fun q => decide (decode (xm_b n_119) q.1 = .ok (q.2.1, q.2.2))) = true := xa_g_ok (by decide +kernel)
def dn_119_0_2 : List (Nat × Instr × Nat) := [(98, .getfield 57, 3), (101, .ifCond .eq 7, 3), (104, .aload_n 0, 1), (105, .invokevirtual 66, 3), (108, .aload_n 0, 1), (109, .getfield 9, 3), (112, .ifCond .eq 4, 3), (115, .return_, 1), (116, .aload_n 0, 1), (117, .invokevirtual 69, 3), (120, .aload_n 0, 1), (121, .aload_n 0, 1), (122, .getfield 39, 3), (125, .putfield 9, 3), (128, .aload_n 0, 1), (129, .getfield 39, 3), (132, .ifCond .eq 11, 3), (135, .aload_n 0, 1), (136, .aload_n 0, 1), (137, .getfield 72, 3), (140, .putfield 15, 3), (143, .return_, 1)]
set_option maxRecDepth 20000 in
theorem dn_119_0_2_ok : dn_119_0_2.all (fun q => decide (decode (xm_b n_119) q.1 = .ok (q.2.1, q.2.2))) = true := xa_g_ok (by decide +kernel)
def te_119_0 : Nat → eE := (e_T 27 (e_T 12 (e_T 5 (e_T 1 (e_T 0 (e_L 0 (0, ei_load 0 2 1, 0, 0)) (e_L 1 (0, ei_push (0, 0) 2, 0, 0))) (e_T 2 (e_L 2 (0, ei_putf eft elay 8 1 0 5, 0, 0)) (e_L 5 (0, ei_load 0 2 6, 0, 0)))) (e_T 7 (e_T 6 (e_L 6 (0, ei_push (0, (-1)) 7, 0, 0)) (e_L 7 (0, ei_putf eft elay 8 2 0 10, 0, 0))) (e_T 10 (e_L 10 (0, ei_load 0 2 11, 0, 0)) (e_T 11 (e_L 11 (0, ei_push (0, 0) 12, 0, 0)) (e_L 12 (0, ei_putf eft elay 8 9 0 15, 0, 0)))))) (e_T 20 (e_T 16 (e_T 15 (e_L 15 (0, ei_load 0 2 16, 0, 0)) (e_L 16 (0, ei_push (0, 0) 17, 0, 0))) (e_T 17 (e_L 17 (0, ei_putf eft elay 8 11 0 20, 0, 0)) (e_L 20 (0, ei_load 0 2 21, 0, 0)))) (e_T 22 (e_T 21 (e_L 21 (0, ei_push (0, 0) 22, 0, 0)) (e_L 22 (0, ei_putf eft elay 8 14 0 25, 0, 0))) (e_T 25 (e_L 25 (0, ei_load 0 2 26, 0, 0)) (e_T 26 (e_L 26 (0, ei_push (0, 0) 27, 0, 0)) (e_L 27 (0, ei_putf eft elay 8 7 0 30, 0, 0))))))) (e_T 44 (e_T 37 (e_T 31 (e_T 30 (e_L 30 (0, ei_load 0 2 31, 0, 0)) (e_L 31 (0, ei_getf eft elay 8 3 34, 0, 0))) (e_T 34 (e_L 34 (2, e_nof, 20, 1)) (e_L 37 (0, ei_load 0 2 38, 0, 0)))) (e_T 41 (e_T 38 (e_L 38 (2, e_nof, 123, 1)) (e_L 41 (0, ei_push (0, 0) 42, 0, 0))) (e_T 42 (e_L 42 (0, ei_stor 1 0 43, 0, 0)) (e_T 43 (e_L 43 (0, ei_load 1 0 44, 0, 0)) (e_L 44 (0, ei_push (0, 4000) 47, 0, 0)))))) (e_T 54 (e_T 50 (e_T 47 (e_L 47 (0, ei_if2 3 69 50, 0, 0)) (e_L 50 (0, ei_load 0 2 51, 0, 0))) (e_T 51 (e_L 51 (0, ei_getf eft elay 8 5 54, 0, 0)) (e_L 54 (0, ei_push (0, 21) 56, 0, 0)))) (e_T 59 (e_T 56 (e_L 56 (0, ei_if2 1 69 59, 0, 0)) (e_L 59 (0, ei_load 0 2 60, 0, 0))) (e_T 60 (e_L 60 (2, e_nof, 140, 1)) (e_T 63 (e_L 63 (0, ei_inc 1 1 66, 0, 0)) (e_L 66 (0, ei_goto 43, 0, 0))))))))
set_option maxRecDepth 20000 in
set_option maxHeartbeats 4000000 in
theorem te_119_0_ok : ∀ pc, e_EOq eft cls elay eI n_119 pc (te_119_0 pc) :=
  (e_Tok2
  (e_Tok2
  (e_Tok2
  (e_Tok2
  (e_Tok2
  (e_Lok (ld_aload_n_0 (x_dk dn_119_0_0_ok 0 rfl)))
  (e_Lok (ps_iconst_0 (x_dk dn_119_0_0_ok 1 rfl))))
  (e_Tok2
  (e_Lok (lk_8_9p ho_119 (x_dk dn_119_0_0_ok 2 rfl)))
  (e_Lok (ld_aload_n_0 (x_dk dn_119_0_0_ok 3 rfl)))))
  (e_Tok2
  (e_Tok2
  (e_Lok (ps_iconst_m1 (x_dk dn_119_0_0_ok 4 rfl)))
  (e_Lok (lk_8_15p ho_119 (x_dk dn_119_0_0_ok 5 rfl))))
  (e_Tok2
  (e_Lok (ld_aload_n_0 (x_dk dn_119_0_0_ok 6 rfl)))
  (e_Tok2
  (e_Lok (ps_iconst_0 (x_dk dn_119_0_0_ok 7 rfl)))
  (e_Lok (lk_8_39p ho_119 (x_dk dn_119_0_0_ok 8 rfl)))))))
  (e_Tok2
  (e_Tok2
  (e_Tok2
  (e_Lok (ld_aload_n_0 (x_dk dn_119_0_0_ok 9 rfl)))
  (e_Lok (ps_iconst_0 (x_dk dn_119_0_0_ok 10 rfl))))
  (e_Tok2
  (e_Lok (lk_8_42p ho_119 (x_dk dn_119_0_0_ok 11 rfl)))
  (e_Lok (ld_aload_n_0 (x_dk dn_119_0_0_ok 12 rfl)))))
  (e_Tok2
  (e_Tok2
  (e_Lok (ps_iconst_0 (x_dk dn_119_0_0_ok 13 rfl)))
  (e_Lok (lk_8_45p ho_119 (x_dk dn_119_0_0_ok 14 rfl))))
  (e_Tok2
  (e_Lok (ld_aload_n_0 (x_dk dn_119_0_0_ok 15 rfl)))
  (e_Tok2
  (e_Lok (ps_iconst_0 (x_dk dn_119_0_0_ok 16 rfl)))
  (e_Lok (lk_8_48p ho_119 (x_dk dn_119_0_0_ok 17 rfl))))))))
  (e_Tok2
  (e_Tok2
  (e_Tok2
  (e_Tok2
  (e_Lok (ld_aload_n_0 (x_dk dn_119_0_0_ok 18 rfl)))
  (e_Lok (lk_8_21g ho_119 (x_dk dn_119_0_0_ok 19 rfl))))
  (e_Tok2
  (e_Lok (lk_8_51 ho_119 (x_dk dn_119_0_0_ok 20 rfl)))
  (e_Lok (ld_aload_n_0 (x_dk dn_119_0_0_ok 21 rfl)))))
  (e_Tok2
  (e_Tok2
  (e_Lok (lk_8_54 ho_119 (x_dk dn_119_0_0_ok 22 rfl)))
  (e_Lok (ps_iconst_0 (x_dk dn_119_0_0_ok 23 rfl))))
  (e_Tok2
  (e_Lok (e_st (I := eI) (er_istore_n (i := 1) (x_dk dn_119_0_0_ok 24 rfl) (by decide +kernel)) nx_stor))
  (e_Tok2
  (e_Lok (ld_iload_n_1 (x_dk dn_119_0_1_ok 0 rfl)))
  (e_Lok (ps_sipush_4000 (x_dk dn_119_0_1_ok 1 rfl)))))))
  (e_Tok2
  (e_Tok2
  (e_Tok2
  (e_Lok (e_st (I := eI) (er_icmpge (off := 22) (tg := 69) (x_dk dn_119_0_1_ok 2 rfl) (by decide)) nx_if2))
  (e_Lok (ld_aload_n_0 (x_dk dn_119_0_1_ok 3 rfl))))
  (e_Tok2
  (e_Lok (lk_8_57g ho_119 (x_dk dn_119_0_1_ok 4 rfl)))
  (e_Lok (ps_bipush_21 (x_dk dn_119_0_1_ok 5 rfl)))))
  (e_Tok2
  (e_Tok2
  (e_Lok (e_st (I := eI) (er_icmpne (off := 13) (tg := 69) (x_dk dn_119_0_1_ok 6 rfl) (by decide)) nx_if2))
  (e_Lok (ld_aload_n_0 (x_dk dn_119_0_1_ok 7 rfl))))
  (e_Tok2
  (e_Lok (lk_8_60 ho_119 (x_dk dn_119_0_1_ok 8 rfl)))
  (e_Tok2
  (e_Lok (e_st (I := eI) (er_iinc (i := 1) (n := 1) (x_dk dn_119_0_1_ok 9 rfl) (by decide +kernel) (by decide)) nx_inc))
  (e_Lok (e_st (I := eI) (er_goto (off := (-23)) (tg := 43) (x_dk dn_119_0_1_ok 10 rfl) (by decide)) nx_goto))))))))
def te_119_36 : Nat → eE := (e_T 105 (e_T 84 (e_T 72 (e_T 70 (e_T 69 (e_L 69 (0, ei_push (0, 0) 70, 0, 0)) (e_L 70 (0, ei_stor 1 0 71, 0, 0))) (e_T 71 (e_L 71 (0, ei_load 1 0 72, 0, 0)) (e_L 72 (0, ei_push (0, 4000) 75, 0, 0)))) (e_T 78 (e_T 75 (e_L 75 (0, ei_if2 3 97 78, 0, 0)) (e_L 78 (0, ei_load 0 2 79, 0, 0))) (e_T 79 (e_L 79 (0, ei_getf eft elay 8 5 82, 0, 0)) (e_T 82 (e_L 82 (0, ei_push (0, 22) 84, 0, 0)) (e_L 84 (0, ei_if2 1 97 87, 0, 0)))))) (e_T 94 (e_T 88 (e_T 87 (e_L 87 (0, ei_load 0 2 88, 0, 0)) (e_L 88 (2, e_nof, 142, 1))) (e_T 91 (e_L 91 (0, ei_inc 1 1 94, 0, 0)) (e_L 94 (0, ei_goto 71, 0, 0)))) (e_T 98 (e_T 97 (e_L 97 (0, ei_load 0 2 98, 0, 0)) (e_L 98 (0, ei_getf eft elay 8 5 101, 0, 0))) (e_T 101 (e_L 101 (0, ei_if1 0 108 104, 0, 0)) (e_T 104 (e_L 104 (0, ei_load 0 2 105, 0, 0)) (e_L 105 (2, e_nof, 130, 1))))))) (e_T 122 (e_T 115 (e_T 109 (e_T 108 (e_L 108 (0, ei_load 0 2 109, 0, 0)) (e_L 109 (0, ei_getf eft elay 8 1 112, 0, 0))) (e_T 112 (e_L 112 (0, ei_if1 0 116 115, 0, 0)) (e_L 115 (1, e_nof, 0, 0)))) (e_T 117 (e_T 116 (e_L 116 (0, ei_load 0 2 117, 0, 0)) (e_L 117 (2, e_nof, 138, 1))) (e_T 120 (e_L 120 (0, ei_load 0 2 121, 0, 0)) (e_T 121 (e_L 121 (0, ei_load 0 2 122, 0, 0)) (e_L 122 (0, ei_getf eft elay 8 9 125, 0, 0)))))) (e_T 132 (e_T 128 (e_T 125 (e_L 125 (0, ei_putf eft elay 8 1 0 128, 0, 0)) (e_L 128 (0, ei_load 0 2 129, 0, 0))) (e_T 129 (e_L 129 (0, ei_getf eft elay 8 9 132, 0, 0)) (e_L 132 (0, ei_if1 0 143 135, 0, 0)))) (e_T 136 (e_T 135 (e_L 135 (0, ei_load 0 2 136, 0, 0)) (e_L 136 (0, ei_load 0 2 137, 0, 0))) (e_T 137 (e_L 137 (0, ei_getf eft elay 8 10 140, 0, 0)) (e_T 140 (e_L 140 (0, ei_putf eft elay 8 2 0 143, 0, 0)) (e_L 143 (1, e_nof, 0, 0))))))))
set_option maxRecDepth 20000 in
set_option maxHeartbeats 4000000 in
theorem te_119_36_ok : ∀ pc, e_EOq eft cls elay eI n_119 pc (te_119_36 pc) :=
  (e_Tok2
  (e_Tok2
  (e_Tok2
  (e_Tok2
  (e_Tok2
  (e_Lok (ps_iconst_0 (x_dk dn_119_0_1_ok 11 rfl)))
  (e_Lok (e_st (I := eI) (er_istore_n (i := 1) (x_dk dn_119_0_1_ok 12 rfl) (by decide +kernel)) nx_stor)))
  (e_Tok2
  (e_Lok (ld_iload_n_1 (x_dk dn_119_0_1_ok 13 rfl)))
  (e_Lok (ps_sipush_4000 (x_dk dn_119_0_1_ok 14 rfl)))))
  (e_Tok2
  (e_Tok2
  (e_Lok (e_st (I := eI) (er_icmpge (off := 22) (tg := 97) (x_dk dn_119_0_1_ok 15 rfl) (by decide)) nx_if2))
  (e_Lok (ld_aload_n_0 (x_dk dn_119_0_1_ok 16 rfl))))
  (e_Tok2
  (e_Lok (lk_8_57g ho_119 (x_dk dn_119_0_1_ok 17 rfl)))
  (e_Tok2
  (e_Lok (ps_bipush_22 (x_dk dn_119_0_1_ok 18 rfl)))
  (e_Lok (e_st (I := eI) (er_icmpne (off := 13) (tg := 97) (x_dk dn_119_0_1_ok 19 rfl) (by decide)) nx_if2))))))
  (e_Tok2
  (e_Tok2
  (e_Tok2
  (e_Lok (ld_aload_n_0 (x_dk dn_119_0_1_ok 20 rfl)))
  (e_Lok (lk_8_63 ho_119 (x_dk dn_119_0_1_ok 21 rfl))))
  (e_Tok2
  (e_Lok (e_st (I := eI) (er_iinc (i := 1) (n := 1) (x_dk dn_119_0_1_ok 22 rfl) (by decide +kernel) (by decide)) nx_inc))
  (e_Lok (e_st (I := eI) (er_goto (off := (-23)) (tg := 71) (x_dk dn_119_0_1_ok 23 rfl) (by decide)) nx_goto))))
  (e_Tok2
  (e_Tok2
  (e_Lok (ld_aload_n_0 (x_dk dn_119_0_1_ok 24 rfl)))
  (e_Lok (lk_8_57g ho_119 (x_dk dn_119_0_2_ok 0 rfl))))
  (e_Tok2
  (e_Lok (e_st (I := eI) (er_ifeq (off := 7) (tg := 108) (x_dk dn_119_0_2_ok 1 rfl) (by decide)) nx_if1))
  (e_Tok2
  (e_Lok (ld_aload_n_0 (x_dk dn_119_0_2_ok 2 rfl)))
  (e_Lok (lk_8_66 ho_119 (x_dk dn_119_0_2_ok 3 rfl))))))))
  (e_Tok2
  (e_Tok2
  (e_Tok2
  (e_Tok2
  (e_Lok (ld_aload_n_0 (x_dk dn_119_0_2_ok 4 rfl)))
  (e_Lok (lk_8_9g ho_119 (x_dk dn_119_0_2_ok 5 rfl))))
  (e_Tok2
  (e_Lok (e_st (I := eI) (er_ifeq (off := 4) (tg := 116) (x_dk dn_119_0_2_ok 6 rfl) (by decide)) nx_if1))
  (e_Lok (e_rt (I := eI) (k := 0) ⟨(x_dk dn_119_0_2_ok 7 rfl), rfl⟩))))
  (e_Tok2
  (e_Tok2
  (e_Lok (ld_aload_n_0 (x_dk dn_119_0_2_ok 8 rfl)))
  (e_Lok (lk_8_69 ho_119 (x_dk dn_119_0_2_ok 9 rfl))))
  (e_Tok2
  (e_Lok (ld_aload_n_0 (x_dk dn_119_0_2_ok 10 rfl)))
  (e_Tok2
  (e_Lok (ld_aload_n_0 (x_dk dn_119_0_2_ok 11 rfl)))
  (e_Lok (lk_8_39g ho_119 (x_dk dn_119_0_2_ok 12 rfl)))))))
  (e_Tok2
  (e_Tok2
  (e_Tok2
  (e_Lok (lk_8_9p ho_119 (x_dk dn_119_0_2_ok 13 rfl)))
  (e_Lok (ld_aload_n_0 (x_dk dn_119_0_2_ok 14 rfl))))
  (e_Tok2
  (e_Lok (lk_8_39g ho_119 (x_dk dn_119_0_2_ok 15 rfl)))
  (e_Lok (e_st (I := eI) (er_ifeq (off := 11) (tg := 143) (x_dk dn_119_0_2_ok 16 rfl) (by decide)) nx_if1))))
  (e_Tok2
  (e_Tok2
  (e_Lok (ld_aload_n_0 (x_dk dn_119_0_2_ok 17 rfl)))
  (e_Lok (ld_aload_n_0 (x_dk dn_119_0_2_ok 18 rfl))))
  (e_Tok2
  (e_Lok (lk_8_72g ho_119 (x_dk dn_119_0_2_ok 19 rfl)))
  (e_Tok2
  (e_Lok (lk_8_15p ho_119 (x_dk dn_119_0_2_ok 20 rfl)))
  (e_Lok (e_rt (I := eI) (k := 0) ⟨(x_dk dn_119_0_2_ok 21 rfl), rfl⟩))))))))
def te_119 : Nat → eE := (e_T 66 te_119_0 te_119_36)
theorem te_119_ok : ∀ pc, e_EOq eft cls elay eI n_119 pc (te_119 pc) := (e_Tok2 (te_119_0_ok) (te_119_36_ok))
theorem ho_120 : (xm_y n_120).cls = "RobotCellHouse$Reader" := rfl
def dn_120_0_0 : List (Nat × Instr × Nat) := [(0, .iload_n 1, 1), (1, .ifCond .lt 24, 3), (4, .iload_n 1, 1), (5, .aload_n 0, 1), (6, .getfield 36, 3), (9, .if_icmp .ge 16, 3), (12, .aload_n 0, 1), (13, .getfield 25, 3), (16, .iload_n 1, 1), (17, .baload, 1), (18, .sipush 255, 3), (21, .iand, 1), (22, .goto 4, 3), (25, .iconst 0, 1), (26, .ireturn, 1)]
set_option maxRecDepth 20000 in
theorem dn_120_0_0_ok : dn_120_0_0.all (fun q => decide (decode (xm_b n_120) q.1 = .ok (q.2.1, q.2.2))) = true := xa_g_ok (by decide +kernel)
def te_120_0 : Nat → eE := (e_T 12 (e_T 4 (e_T 0 (e_L 0 (0, ei_load 1 0 1, 0, 0)) (e_T 1 (e_L 1 (0, ei_if1 2 25 4, 0, 0)) (e_L 4 (0, ei_load 1 0 5, 0, 0)))) (e_T 6 (e_T 5 (e_L 5 (0, ei_load 0 2 6, 0, 0)) (e_L 6 (0, ei_getf eft elay 8 0 9, 0, 0))) (e_T 9 (e_L 9 (0, ei_if2 3 25 12, 0, 0)) (e_L 12 (0, ei_load 0 2 13, 0, 0))))) (e_T 18 (e_T 16 (e_T 13 (e_L 13 (0, ei_getf eft elay 8 4 16, 0, 0)) (e_L 16 (0, ei_load 1 0 17, 0, 0))) (e_T 17 (e_L 17 (0, ei_ald elay true 18, 0, 0)) (e_L 18 (0, ei_push (0, 255) 21, 0, 0)))) (e_T 22 (e_T 21 (e_L 21 (0, ei_bin (eB (fun x y => x &&& y)) 22, 0, 0)) (e_L 22 (0, ei_goto 26, 0, 0))) (e_T 25 (e_L 25 (0, ei_push (0, 0) 26, 0, 0)) (e_L 26 (1, e_nof, 1, 0))))))
set_option maxRecDepth 20000 in
set_option maxHeartbeats 4000000 in
theorem te_120_0_ok : ∀ pc, e_EOq eft cls elay eI n_120 pc (te_120_0 pc) :=
  (e_Tok2
  (e_Tok2
  (e_Tok2
  (e_Lok (ld_iload_n_1 (x_dk dn_120_0_0_ok 0 rfl)))
  (e_Tok2
  (e_Lok (e_st (I := eI) (er_iflt (off := 24) (tg := 25) (x_dk dn_120_0_0_ok 1 rfl) (by decide)) nx_if1))
  (e_Lok (ld_iload_n_1 (x_dk dn_120_0_0_ok 2 rfl)))))
  (e_Tok2
  (e_Tok2
  (e_Lok (ld_aload_n_0 (x_dk dn_120_0_0_ok 3 rfl)))
  (e_Lok (lk_8_36g ho_120 (x_dk dn_120_0_0_ok 4 rfl))))
  (e_Tok2
  (e_Lok (e_st (I := eI) (er_icmpge (off := 16) (tg := 25) (x_dk dn_120_0_0_ok 5 rfl) (by decide)) nx_if2))
  (e_Lok (ld_aload_n_0 (x_dk dn_120_0_0_ok 6 rfl))))))
  (e_Tok2
  (e_Tok2
  (e_Tok2
  (e_Lok (lk_8_25g ho_120 (x_dk dn_120_0_0_ok 7 rfl)))
  (e_Lok (ld_iload_n_1 (x_dk dn_120_0_0_ok 8 rfl))))
  (e_Tok2
  (e_Lok (e_st (I := eI) (er_baload (x_dk dn_120_0_0_ok 9 rfl)) nx_ald))
  (e_Lok (ps_sipush_255 (x_dk dn_120_0_0_ok 10 rfl)))))
  (e_Tok2
  (e_Tok2
  (e_Lok (e_st (I := eI) (er_iand (x_dk dn_120_0_0_ok 11 rfl)) nx_bin))
  (e_Lok (e_st (I := eI) (er_goto (off := 4) (tg := 26) (x_dk dn_120_0_0_ok 12 rfl) (by decide)) nx_goto)))
  (e_Tok2
  (e_Lok (ps_iconst_0 (x_dk dn_120_0_0_ok 13 rfl)))
  (e_Lok (e_rt (I := eI) (k := 1) ⟨(x_dk dn_120_0_0_ok 14 rfl), rfl⟩))))))
def te_120 : Nat → eE := te_120_0
theorem te_120_ok : ∀ pc, e_EOq eft cls elay eI n_120 pc (te_120 pc) := te_120_0_ok
theorem ho_121 : (xm_y n_121).cls = "RobotCellHouse$Reader" := rfl
def dn_121_0_0 : List (Nat × Instr × Nat) := [(0, .iload_n 0, 1), (1, .bipush 48, 2), (3, .if_icmp .lt 13, 3), (6, .iload_n 0, 1), (7, .bipush 57, 2), (9, .if_icmp .gt 7, 3), (12, .iconst 1, 1), (13, .goto 4, 3), (16, .iconst 0, 1), (17, .ireturn, 1)]
set_option maxRecDepth 20000 in
theorem dn_121_0_0_ok : dn_121_0_0.all (fun q => decide (decode (xm_b n_121) q.1 = .ok (q.2.1, q.2.2))) = true := xa_g_ok (by decide +kernel)
def te_121_0 : Nat → eE := (e_T 7 (e_T 1 (e_T 0 (e_L 0 (0, ei_load 0 0 1, 0, 0)) (e_L 1 (0, ei_push (0, 48) 3, 0, 0))) (e_T 3 (e_L 3 (0, ei_if2 2 16 6, 0, 0)) (e_T 6 (e_L 6 (0, ei_load 0 0 7, 0, 0)) (e_L 7 (0, ei_push (0, 57) 9, 0, 0))))) (e_T 12 (e_T 9 (e_L 9 (0, ei_if2 4 16 12, 0, 0)) (e_L 12 (0, ei_push (0, 1) 13, 0, 0))) (e_T 13 (e_L 13 (0, ei_goto 17, 0, 0)) (e_T 16 (e_L 16 (0, ei_push (0, 0) 17, 0, 0)) (e_L 17 (1, e_nof, 4, 0))))))
set_option maxRecDepth 20000 in
set_option maxHeartbeats 4000000 in
theorem te_121_0_ok : ∀ pc, e_EOq eft cls elay eI n_121 pc (te_121_0 pc) :=
  (e_Tok2
  (e_Tok2
  (e_Tok2
  (e_Lok (ld_iload_n_0 (x_dk dn_121_0_0_ok 0 rfl)))
  (e_Lok (ps_bipush_48 (x_dk dn_121_0_0_ok 1 rfl))))
  (e_Tok2
  (e_Lok (e_st (I := eI) (er_icmplt (off := 13) (tg := 16) (x_dk dn_121_0_0_ok 2 rfl) (by decide)) nx_if2))
  (e_Tok2
  (e_Lok (ld_iload_n_0 (x_dk dn_121_0_0_ok 3 rfl)))
  (e_Lok (ps_bipush_57 (x_dk dn_121_0_0_ok 4 rfl))))))
  (e_Tok2
  (e_Tok2
  (e_Lok (e_st (I := eI) (er_icmpgt (off := 7) (tg := 16) (x_dk dn_121_0_0_ok 5 rfl) (by decide)) nx_if2))
  (e_Lok (ps_iconst_1 (x_dk dn_121_0_0_ok 6 rfl))))
  (e_Tok2
  (e_Lok (e_st (I := eI) (er_goto (off := 4) (tg := 17) (x_dk dn_121_0_0_ok 7 rfl) (by decide)) nx_goto))
  (e_Tok2
  (e_Lok (ps_iconst_0 (x_dk dn_121_0_0_ok 8 rfl)))
  (e_Lok (e_rt (I := eI) (k := 4) ⟨(x_dk dn_121_0_0_ok 9 rfl), rfl⟩))))))
def te_121 : Nat → eE := te_121_0
theorem te_121_ok : ∀ pc, e_EOq eft cls elay eI n_121 pc (te_121 pc) := te_121_0_ok
theorem ho_122 : (xm_y n_122).cls = "RobotCellHouse$Reader" := rfl
def dn_122_0_0 : List (Nat × Instr × Nat) := [(0, .iload_n 0, 1), (1, .bipush 97, 2), (3, .if_icmp .lt 9, 3), (6, .iload_n 0, 1), (7, .bipush 122, 2), (9, .if_icmp .le 27, 3), (12, .iload_n 0, 1), (13, .bipush 65, 2), (15, .if_icmp .lt 9, 3), (18, .iload_n 0, 1), (19, .bipush 90, 2), (21, .if_icmp .le 15, 3), (24, .iload_n 0, 1), (25, .bipush 48, 2), (27, .if_icmp .lt 13, 3), (30, .iload_n 0, 1), (31, .bipush 57, 2), (33, .if_icmp .gt 7, 3), (36, .iconst 1, 1), (37, .goto 4, 3), (40, .iconst 0, 1), (41, .ireturn, 1)]
set_option maxRecDepth 20000 in
theorem dn_122_0_0_ok : dn_122_0_0.all (fun q => decide (decode (xm_b n_122) q.1 = .ok (q.2.1, q.2.2))) = true := xa_g_ok (by decide +kernel)
def te_122_0 : Nat → eE := (e_T 19 (e_T 7 (e_T 1 (e_T 0 (e_L 0 (0, ei_load 0 0 1, 0, 0)) (e_L 1 (0, ei_push (0, 97) 3, 0, 0))) (e_T 3 (e_L 3 (0, ei_if2 2 12 6, 0, 0)) (e_T 6 (e_L 6 (0, ei_load 0 0 7, 0, 0)) (e_L 7 (0, ei_push (0, 122) 9, 0, 0))))) (e_T 13 (e_T 9 (e_L 9 (0, ei_if2 5 36 12, 0, 0)) (e_T 12 (e_L 12 (0, ei_load 0 0 13, 0, 0)) (e_L 13 (0, ei_push (0, 65) 15, 0, 0)))) (e_T 15 (e_L 15 (0, ei_if2 2 24 18, 0, 0)) (e_T 18 (e_L 18 (0, ei_load 0 0 19, 0, 0)) (e_L 19 (0, ei_push (0, 90) 21, 0, 0)))))) (e_T 30 (e_T 24 (e_T 21 (e_L 21 (0, ei_if2 5 36 24, 0, 0)) (e_L 24 (0, ei_load 0 0 25, 0, 0))) (e_T 25 (e_L 25 (0, ei_push (0, 48) 27, 0, 0)) (e_T 27 (e_L 27 (0, ei_if2 2 40 30, 0, 0)) (e_L 30 (0, ei_load 0 0 31, 0, 0))))) (e_T 36 (e_T 31 (e_L 31 (0, ei_push (0, 57) 33, 0, 0)) (e_T 33 (e_L 33 (0, ei_if2 4 40 36, 0, 0)) (e_L 36 (0, ei_push (0, 1) 37, 0, 0)))) (e_T 37 (e_L 37 (0, ei_goto 41, 0, 0)) (e_T 40 (e_L 40 (0, ei_push (0, 0) 41, 0, 0)) (e_L 41 (1, e_nof, 4, 0)))))))
set_option maxRecDepth 20000 in
set_option maxHeartbeats 4000000 in
theorem te_122_0_ok : ∀ pc, e_EOq eft cls elay eI n_122 pc (te_122_0 pc) :=
  (e_Tok2
  (e_Tok2
  (e_Tok2
  (e_Tok2
  (e_Lok (ld_iload_n_0 (x_dk dn_122_0_0_ok 0 rfl)))
  (e_Lok (ps_bipush_97 (x_dk dn_122_0_0_ok 1 rfl))))
  (e_Tok2
  (e_Lok (e_st (I := eI) (er_icmplt (off := 9) (tg := 12) (x_dk dn_122_0_0_ok 2 rfl) (by decide)) nx_if2))
  (e_Tok2
  (e_Lok (ld_iload_n_0 (x_dk dn_122_0_0_ok 3 rfl)))
  (e_Lok (ps_bipush_122 (x_dk dn_122_0_0_ok 4 rfl))))))
  (e_Tok2
  (e_Tok2
  (e_Lok (e_st (I := eI) (er_icmple (off := 27) (tg := 36) (x_dk dn_122_0_0_ok 5 rfl) (by decide)) nx_if2))
  (e_Tok2
  (e_Lok (ld_iload_n_0 (x_dk dn_122_0_0_ok 6 rfl)))
  (e_Lok (ps_bipush_65 (x_dk dn_122_0_0_ok 7 rfl)))))
  (e_Tok2
  (e_Lok (e_st (I := eI) (er_icmplt (off := 9) (tg := 24) (x_dk dn_122_0_0_ok 8 rfl) (by decide)) nx_if2))
  (e_Tok2
  (e_Lok (ld_iload_n_0 (x_dk dn_122_0_0_ok 9 rfl)))
  (e_Lok (ps_bipush_90 (x_dk dn_122_0_0_ok 10 rfl)))))))
  (e_Tok2
  (e_Tok2
  (e_Tok2
  (e_Lok (e_st (I := eI) (er_icmple (off := 15) (tg := 36) (x_dk dn_122_0_0_ok 11 rfl) (by decide)) nx_if2))
  (e_Lok (ld_iload_n_0 (x_dk dn_122_0_0_ok 12 rfl))))
  (e_Tok2
  (e_Lok (ps_bipush_48 (x_dk dn_122_0_0_ok 13 rfl)))
  (e_Tok2
  (e_Lok (e_st (I := eI) (er_icmplt (off := 13) (tg := 40) (x_dk dn_122_0_0_ok 14 rfl) (by decide)) nx_if2))
  (e_Lok (ld_iload_n_0 (x_dk dn_122_0_0_ok 15 rfl))))))
  (e_Tok2
  (e_Tok2
  (e_Lok (ps_bipush_57 (x_dk dn_122_0_0_ok 16 rfl)))
  (e_Tok2
  (e_Lok (e_st (I := eI) (er_icmpgt (off := 7) (tg := 40) (x_dk dn_122_0_0_ok 17 rfl) (by decide)) nx_if2))
  (e_Lok (ps_iconst_1 (x_dk dn_122_0_0_ok 18 rfl)))))
  (e_Tok2
  (e_Lok (e_st (I := eI) (er_goto (off := 4) (tg := 41) (x_dk dn_122_0_0_ok 19 rfl) (by decide)) nx_goto))
  (e_Tok2
  (e_Lok (ps_iconst_0 (x_dk dn_122_0_0_ok 20 rfl)))
  (e_Lok (e_rt (I := eI) (k := 4) ⟨(x_dk dn_122_0_0_ok 21 rfl), rfl⟩)))))))
def te_122 : Nat → eE := te_122_0
theorem te_122_ok : ∀ pc, e_EOq eft cls elay eI n_122 pc (te_122 pc) := te_122_0_ok
theorem ho_123 : (xm_y n_123).cls = "RobotCellHouse$Reader" := rfl
def dn_123_0_0 : List (Nat × Instr × Nat) := [(0, .aload_n 0, 1), (1, .invokevirtual 75, 3), (4, .aload_n 0, 1), (5, .aload_n 0, 1), (6, .getfield 48, 3), (9, .putfield 78, 3), (12, .aload_n 0, 1), (13, .aload_n 0, 1), (14, .getfield 48, 3), (17, .invokevirtual 81, 3), (20, .istore_n 1, 1), (21, .aload_n 0, 1), (22, .getfield 48, 3), (25, .aload_n 0, 1), (26, .getfield 36, 3), (29, .if_icmp .lt 11, 3), (32, .aload_n 0, 1), (33, .iconst 0, 1), (34, .putfield 57, 3), (37, .goto 36, 3), (40, .iload_n 1, 1), (41, .invokestatic 85, 3), (44, .ifCond .eq 10, 3), (47, .aload_n 0, 1), (48, .invokevirtual 89, 3)]
set_option maxRecDepth 20000 in
theorem dn_123_0_0_ok : dn_123_0_0.all (fun q => decide (decode (xm_b n_123) q.1 = .ok (q.2.1, q.2.2))) = true := xa_g_ok (by decide +kernel)
def dn_123_0_1 : List (Nat × Instr × Nat) := [(51, .goto 22, 3), (54, .iload_n 1, 1), (55, .invokestatic 92, 3), (58, .ifCond .eq 10, 3), (61, .aload_n 0, 1), (62, .invokevirtual 95, 3), (65, .goto 8, 3), (68, .aload_n 0, 1), (69, .iload_n 1, 1), (70, .invokevirtual 98, 3), (73, .return_, 1)]
set_option maxRecDepth 20000 in
theorem dn_123_0_1_ok : dn_123_0_1.all (fun q => decide (decode (xm_b n_123) q.1 = .ok (q.2.1, q.2.2))) = true := xa_g_ok (by decide +kernel)
def te_123_0 : Nat → eE := (e_T 33 (e_T 14 (e_T 5 (e_T 1 (e_T 0 (e_L 0 (0, ei_load 0 2 1, 0, 0)) (e_L 1 (2, e_nof, 124, 1))) (e_T 4 (e_L 4 (0, ei_load 0 2 5, 0, 0)) (e_L 5 (0, ei_load 0 2 6, 0, 0)))) (e_T 9 (e_T 6 (e_L 6 (0, ei_getf eft elay 8 7 9, 0, 0)) (e_L 9 (0, ei_putf eft elay 8 6 0 12, 0, 0))) (e_T 12 (e_L 12 (0, ei_load 0 2 13, 0, 0)) (e_T 13 (e_L 13 (0, ei_load 0 2 14, 0, 0)) (e_L 14 (0, ei_getf eft elay 8 7 17, 0, 0)))))) (e_T 22 (e_T 20 (e_T 17 (e_L 17 (2, e_nof, 120, 2)) (e_L 20 (0, ei_stor 1 0 21, 0, 0))) (e_T 21 (e_L 21 (0, ei_load 0 2 22, 0, 0)) (e_L 22 (0, ei_getf eft elay 8 7 25, 0, 0)))) (e_T 26 (e_T 25 (e_L 25 (0, ei_load 0 2 26, 0, 0)) (e_L 26 (0, ei_getf eft elay 8 0 29, 0, 0))) (e_T 29 (e_L 29 (0, ei_if2 2 40 32, 0, 0)) (e_T 32 (e_L 32 (0, ei_load 0 2 33, 0, 0)) (e_L 33 (0, ei_push (0, 0) 34, 0, 0))))))) (e_T 54 (e_T 41 (e_T 37 (e_T 34 (e_L 34 (0, ei_putf eft elay 8 5 0 37, 0, 0)) (e_L 37 (0, ei_goto 73, 0, 0))) (e_T 40 (e_L 40 (0, ei_load 1 0 41, 0, 0)) (e_L 41 (2, e_nof, 121, 1)))) (e_T 47 (e_T 44 (e_L 44 (0, ei_if1 0 54 47, 0, 0)) (e_L 47 (0, ei_load 0 2 48, 0, 0))) (e_T 48 (e_L 48 (2, e_nof, 127, 1)) (e_T 51 (e_L 51 (0, ei_goto 73, 0, 0)) (e_L 54 (0, ei_load 1 0 55, 0, 0)))))) (e_T 62 (e_T 58 (e_T 55 (e_L 55 (2, e_nof, 122, 1)) (e_L 58 (0, ei_if1 0 68 61, 0, 0))) (e_T 61 (e_L 61 (0, ei_load 0 2 62, 0, 0)) (e_L 62 (2, e_nof, 125, 1)))) (e_T 68 (e_T 65 (e_L 65 (0, ei_goto 73, 0, 0)) (e_L 68 (0, ei_load 0 2 69, 0, 0))) (e_T 69 (e_L 69 (0, ei_load 1 0 70, 0, 0)) (e_T 70 (e_L 70 (2, e_nof, 128, 2)) (e_L 73 (1, e_nof, 0, 0))))))))
set_option maxRecDepth 20000 in
set_option maxHeartbeats 4000000 in
theorem te_123_0_ok : ∀ pc, e_EOq eft cls elay eI n_123 pc (te_123_0 pc) :=
  (e_Tok2
  (e_Tok2
  (e_Tok2
  (e_Tok2
  (e_Tok2
  (e_Lok (ld_aload_n_0 (x_dk dn_123_0_0_ok 0 rfl)))
  (e_Lok (lk_8_75 ho_123 (x_dk dn_123_0_0_ok 1 rfl))))
  (e_Tok2
  (e_Lok (ld_aload_n_0 (x_dk dn_123_0_0_ok 2 rfl)))
  (e_Lok (ld_aload_n_0 (x_dk dn_123_0_0_ok 3 rfl)))))
  (e_Tok2
  (e_Tok2
  (e_Lok (lk_8_48g ho_123 (x_dk dn_123_0_0_ok 4 rfl)))
  (e_Lok (lk_8_78p ho_123 (x_dk dn_123_0_0_ok 5 rfl))))
  (e_Tok2
  (e_Lok (ld_aload_n_0 (x_dk dn_123_0_0_ok 6 rfl)))
  (e_Tok2
  (e_Lok (ld_aload_n_0 (x_dk dn_123_0_0_ok 7 rfl)))
  (e_Lok (lk_8_48g ho_123 (x_dk dn_123_0_0_ok 8 rfl)))))))
  (e_Tok2
  (e_Tok2
  (e_Tok2
  (e_Lok (lk_8_81 ho_123 (x_dk dn_123_0_0_ok 9 rfl)))
  (e_Lok (e_st (I := eI) (er_istore_n (i := 1) (x_dk dn_123_0_0_ok 10 rfl) (by decide +kernel)) nx_stor)))
  (e_Tok2
  (e_Lok (ld_aload_n_0 (x_dk dn_123_0_0_ok 11 rfl)))
  (e_Lok (lk_8_48g ho_123 (x_dk dn_123_0_0_ok 12 rfl)))))
  (e_Tok2
  (e_Tok2
  (e_Lok (ld_aload_n_0 (x_dk dn_123_0_0_ok 13 rfl)))
  (e_Lok (lk_8_36g ho_123 (x_dk dn_123_0_0_ok 14 rfl))))
  (e_Tok2
  (e_Lok (e_st (I := eI) (er_icmplt (off := 11) (tg := 40) (x_dk dn_123_0_0_ok 15 rfl) (by decide)) nx_if2))
  (e_Tok2
  (e_Lok (ld_aload_n_0 (x_dk dn_123_0_0_ok 16 rfl)))
  (e_Lok (ps_iconst_0 (x_dk dn_123_0_0_ok 17 rfl))))))))
  (e_Tok2
  (e_Tok2
  (e_Tok2
  (e_Tok2
  (e_Lok (lk_8_57p ho_123 (x_dk dn_123_0_0_ok 18 rfl)))
  (e_Lok (e_st (I := eI) (er_goto (off := 36) (tg := 73) (x_dk dn_123_0_0_ok 19 rfl) (by decide)) nx_goto)))
  (e_Tok2
  (e_Lok (ld_iload_n_1 (x_dk dn_123_0_0_ok 20 rfl)))
  (e_Lok (lk_8_85 ho_123 (x_dk dn_123_0_0_ok 21 rfl)))))
  (e_Tok2
  (e_Tok2
  (e_Lok (e_st (I := eI) (er_ifeq (off := 10) (tg := 54) (x_dk dn_123_0_0_ok 22 rfl) (by decide)) nx_if1))
  (e_Lok (ld_aload_n_0 (x_dk dn_123_0_0_ok 23 rfl))))
  (e_Tok2
  (e_Lok (lk_8_89 ho_123 (x_dk dn_123_0_0_ok 24 rfl)))
  (e_Tok2
  (e_Lok (e_st (I := eI) (er_goto (off := 22) (tg := 73) (x_dk dn_123_0_1_ok 0 rfl) (by decide)) nx_goto))
  (e_Lok (ld_iload_n_1 (x_dk dn_123_0_1_ok 1 rfl)))))))
  (e_Tok2
  (e_Tok2
  (e_Tok2
  (e_Lok (lk_8_92 ho_123 (x_dk dn_123_0_1_ok 2 rfl)))
  (e_Lok (e_st (I := eI) (er_ifeq (off := 10) (tg := 68) (x_dk dn_123_0_1_ok 3 rfl) (by decide)) nx_if1)))
  (e_Tok2
  (e_Lok (ld_aload_n_0 (x_dk dn_123_0_1_ok 4 rfl)))
  (e_Lok (lk_8_95 ho_123 (x_dk dn_123_0_1_ok 5 rfl)))))
  (e_Tok2
  (e_Tok2
  (e_Lok (e_st (I := eI) (er_goto (off := 8) (tg := 73) (x_dk dn_123_0_1_ok 6 rfl) (by decide)) nx_goto))
  (e_Lok (ld_aload_n_0 (x_dk dn_123_0_1_ok 7 rfl))))
  (e_Tok2
  (e_Lok (ld_iload_n_1 (x_dk dn_123_0_1_ok 8 rfl)))
  (e_Tok2
  (e_Lok (lk_8_98 ho_123 (x_dk dn_123_0_1_ok 9 rfl)))
  (e_Lok (e_rt (I := eI) (k := 0) ⟨(x_dk dn_123_0_1_ok 10 rfl), rfl⟩))))))))
def te_123 : Nat → eE := te_123_0
theorem te_123_ok : ∀ pc, e_EOq eft cls elay eI n_123 pc (te_123 pc) := te_123_0_ok
theorem ho_124 : (xm_y n_124).cls = "RobotCellHouse$Reader" := rfl
def dn_124_0_0 : List (Nat × Instr × Nat) := [(0, .iconst 0, 1), (1, .istore_n 1, 1), (2, .aload_n 0, 1), (3, .getfield 48, 3), (6, .aload_n 0, 1), (7, .getfield 36, 3), (10, .if_icmp .ge 58, 3), (13, .aload_n 0, 1), (14, .aload_n 0, 1), (15, .getfield 48, 3), (18, .invokevirtual 81, 3), (21, .istore_n 2, 1), (22, .iload_n 2, 1), (23, .bipush 35, 2), (25, .if_icmp .ne 8, 3), (28, .iconst 1, 1), (29, .istore_n 1, 1), (30, .goto 25, 3), (33, .iload_n 2, 1), (34, .bipush 10, 2), (36, .if_icmp .ne 8, 3), (39, .iconst 0, 1), (40, .istore_n 1, 1), (41, .goto 14, 3), (44, .iload_n 2, 1)]
set_option maxRecDepth 20000 in
theorem dn_124_0_0_ok : dn_124_0_0.all (fun q => decide (decode (xm_b n_124) q.1 = .ok (q.2.1, q.2.2))) = true := xa_g_ok (by decide +kernel)
def dn_124_0_1 : List (Nat × Instr × Nat) := [(45, .bipush 32, 2), (47, .if_icmp .le 8, 3), (50, .iload_n 1, 1), (51, .ifCond .ne 4, 3), (54, .return_, 1), (55, .aload_n 0, 1), (56, .dup, 1), (57, .getfield 48, 3), (60, .iconst 1, 1), (61, .iadd, 1), (62, .putfield 48, 3), (65, .goto (-63), 3), (68, .return_, 1)]
set_option maxRecDepth 20000 in
theorem dn_124_0_1_ok : dn_124_0_1.all (fun q => decide (decode (xm_b n_124) q.1 = .ok (q.2.1, q.2.2))) = true := xa_g_ok (by decide +kernel)
def te_124_0 : Nat → eE := (e_T 33 (e_T 14 (e_T 3 (e_T 1 (e_T 0 (e_L 0 (0, ei_push (0, 0) 1, 0, 0)) (e_L 1 (0, ei_stor 1 0 2, 0, 0))) (e_T 2 (e_L 2 (0, ei_load 0 2 3, 0, 0)) (e_L 3 (0, ei_getf eft elay 8 7 6, 0, 0)))) (e_T 7 (e_T 6 (e_L 6 (0, ei_load 0 2 7, 0, 0)) (e_L 7 (0, ei_getf eft elay 8 0 10, 0, 0))) (e_T 10 (e_L 10 (0, ei_if2 3 68 13, 0, 0)) (e_T 13 (e_L 13 (0, ei_load 0 2 14, 0, 0)) (e_L 14 (0, ei_load 0 2 15, 0, 0)))))) (e_T 23 (e_T 18 (e_T 15 (e_L 15 (0, ei_getf eft elay 8 7 18, 0, 0)) (e_L 18 (2, e_nof, 120, 2))) (e_T 21 (e_L 21 (0, ei_stor 2 0 22, 0, 0)) (e_T 22 (e_L 22 (0, ei_load 2 0 23, 0, 0)) (e_L 23 (0, ei_push (0, 35) 25, 0, 0))))) (e_T 28 (e_T 25 (e_L 25 (0, ei_if2 1 33 28, 0, 0)) (e_L 28 (0, ei_push (0, 1) 29, 0, 0))) (e_T 29 (e_L 29 (0, ei_stor 1 0 30, 0, 0)) (e_T 30 (e_L 30 (0, ei_goto 55, 0, 0)) (e_L 33 (0, ei_load 2 0 34, 0, 0))))))) (e_T 50 (e_T 40 (e_T 36 (e_T 34 (e_L 34 (0, ei_push (0, 10) 36, 0, 0)) (e_L 36 (0, ei_if2 1 44 39, 0, 0))) (e_T 39 (e_L 39 (0, ei_push (0, 0) 40, 0, 0)) (e_L 40 (0, ei_stor 1 0 41, 0, 0)))) (e_T 44 (e_T 41 (e_L 41 (0, ei_goto 55, 0, 0)) (e_L 44 (0, ei_load 2 0 45, 0, 0))) (e_T 45 (e_L 45 (0, ei_push (0, 32) 47, 0, 0)) (e_T 47 (e_L 47 (0, ei_if2 5 55 50, 0, 0)) (e_L 50 (0, ei_load 1 0 51, 0, 0)))))) (e_T 57 (e_T 54 (e_T 51 (e_L 51 (0, ei_if1 1 55 54, 0, 0)) (e_L 54 (1, e_nof, 0, 0))) (e_T 55 (e_L 55 (0, ei_load 0 2 56, 0, 0)) (e_T 56 (e_L 56 (0, ei_stk ef_dup 57, 0, 0)) (e_L 57 (0, ei_getf eft elay 8 7 60, 0, 0))))) (e_T 61 (e_T 60 (e_L 60 (0, ei_push (0, 1) 61, 0, 0)) (e_L 61 (0, ei_bin eF_add 62, 0, 0))) (e_T 62 (e_L 62 (0, ei_putf eft elay 8 7 0 65, 0, 0)) (e_T 65 (e_L 65 (0, ei_goto 2, 0, 0)) (e_L 68 (1, e_nof, 0, 0))))))))
set_option maxRecDepth 20000 in
set_option maxHeartbeats 4000000 in
theorem te_124_0_ok : ∀ pc, e_EOq eft cls elay eI n_124 pc (te_124_0 pc) :=
  (e_Tok2
  (e_Tok2
  (e_Tok2
  (e_Tok2
  (e_Tok2
  (e_Lok (ps_iconst_0 (x_dk dn_124_0_0_ok 0 rfl)))
  (e_Lok (e_st (I := eI) (er_istore_n (i := 1) (x_dk dn_124_0_0_ok 1 rfl) (by decide +kernel)) nx_stor)))
  (e_Tok2
  (e_Lok (ld_aload_n_0 (x_dk dn_124_0_0_ok 2 rfl)))
  (e_Lok (lk_8_48g ho_124 (x_dk dn_124_0_0_ok 3 rfl)))))
  (e_Tok2
  (e_Tok2
  (e_Lok (ld_aload_n_0 (x_dk dn_124_0_0_ok 4 rfl)))
  (e_Lok (lk_8_36g ho_124 (x_dk dn_124_0_0_ok 5 rfl))))
  (e_Tok2
  (e_Lok (e_st (I := eI) (er_icmpge (off := 58) (tg := 68) (x_dk dn_124_0_0_ok 6 rfl) (by decide)) nx_if2))
  (e_Tok2
  (e_Lok (ld_aload_n_0 (x_dk dn_124_0_0_ok 7 rfl)))
  (e_Lok (ld_aload_n_0 (x_dk dn_124_0_0_ok 8 rfl)))))))
  (e_Tok2
  (e_Tok2
  (e_Tok2
  (e_Lok (lk_8_48g ho_124 (x_dk dn_124_0_0_ok 9 rfl)))
  (e_Lok (lk_8_81 ho_124 (x_dk dn_124_0_0_ok 10 rfl))))
  (e_Tok2
  (e_Lok (e_st (I := eI) (er_istore_n (i := 2) (x_dk dn_124_0_0_ok 11 rfl) (by decide +kernel)) nx_stor))
  (e_Tok2
  (e_Lok (ld_iload_n_2 (x_dk dn_124_0_0_ok 12 rfl)))
  (e_Lok (ps_bipush_35 (x_dk dn_124_0_0_ok 13 rfl))))))
  (e_Tok2
  (e_Tok2
  (e_Lok (e_st (I := eI) (er_icmpne (off := 8) (tg := 33) (x_dk dn_124_0_0_ok 14 rfl) (by decide)) nx_if2))
  (e_Lok (ps_iconst_1 (x_dk dn_124_0_0_ok 15 rfl))))
  (e_Tok2
  (e_Lok (e_st (I := eI) (er_istore_n (i := 1) (x_dk dn_124_0_0_ok 16 rfl) (by decide +kernel)) nx_stor))
  (e_Tok2
  (e_Lok (e_st (I := eI) (er_goto (off := 25) (tg := 55) (x_dk dn_124_0_0_ok 17 rfl) (by decide)) nx_goto))
  (e_Lok (ld_iload_n_2 (x_dk dn_124_0_0_ok 18 rfl))))))))
  (e_Tok2
  (e_Tok2
  (e_Tok2
  (e_Tok2
  (e_Lok (ps_bipush_10 (x_dk dn_124_0_0_ok 19 rfl)))
  (e_Lok (e_st (I := eI) (er_icmpne (off := 8) (tg := 44) (x_dk dn_124_0_0_ok 20 rfl) (by decide)) nx_if2)))
  (e_Tok2
  (e_Lok (ps_iconst_0 (x_dk dn_124_0_0_ok 21 rfl)))
  (e_Lok (e_st (I := eI) (er_istore_n (i := 1) (x_dk dn_124_0_0_ok 22 rfl) (by decide +kernel)) nx_stor))))
  (e_Tok2
  (e_Tok2
  (e_Lok (e_st (I := eI) (er_goto (off := 14) (tg := 55) (x_dk dn_124_0_0_ok 23 rfl) (by decide)) nx_goto))
  (e_Lok (ld_iload_n_2 (x_dk dn_124_0_0_ok 24 rfl))))
  (e_Tok2
  (e_Lok (ps_bipush_32 (x_dk dn_124_0_1_ok 0 rfl)))
  (e_Tok2
  (e_Lok (e_st (I := eI) (er_icmple (off := 8) (tg := 55) (x_dk dn_124_0_1_ok 1 rfl) (by decide)) nx_if2))
  (e_Lok (ld_iload_n_1 (x_dk dn_124_0_1_ok 2 rfl)))))))
  (e_Tok2
  (e_Tok2
  (e_Tok2
  (e_Lok (e_st (I := eI) (er_ifne (off := 4) (tg := 55) (x_dk dn_124_0_1_ok 3 rfl) (by decide)) nx_if1))
  (e_Lok (e_rt (I := eI) (k := 0) ⟨(x_dk dn_124_0_1_ok 4 rfl), rfl⟩)))
  (e_Tok2
  (e_Lok (ld_aload_n_0 (x_dk dn_124_0_1_ok 5 rfl)))
  (e_Tok2
  (e_Lok (e_st (I := eI) (er_dup (x_dk dn_124_0_1_ok 6 rfl)) (nx_stk bf_dup)))
  (e_Lok (lk_8_48g ho_124 (x_dk dn_124_0_1_ok 7 rfl))))))
  (e_Tok2
  (e_Tok2
  (e_Lok (ps_iconst_1 (x_dk dn_124_0_1_ok 8 rfl)))
  (e_Lok (sm_iadd (x_dk dn_124_0_1_ok 9 rfl))))
  (e_Tok2
  (e_Lok (lk_8_48p ho_124 (x_dk dn_124_0_1_ok 10 rfl)))
  (e_Tok2
  (e_Lok (e_st (I := eI) (er_goto (off := (-63)) (tg := 2) (x_dk dn_124_0_1_ok 11 rfl) (by decide)) nx_goto))
  (e_Lok (e_rt (I := eI) (k := 0) ⟨(x_dk dn_124_0_1_ok 12 rfl), rfl⟩))))))))
def te_124 : Nat → eE := te_124_0
theorem te_124_ok : ∀ pc, e_EOq eft cls elay eI n_124 pc (te_124 pc) := te_124_0_ok
theorem ho_125 : (xm_y n_125).cls = "RobotCellHouse$Reader" := rfl
def dn_125_0_0 : List (Nat × Instr × Nat) := [(0, .aload_n 0, 1), (1, .getfield 48, 3), (4, .aload_n 0, 1), (5, .getfield 36, 3), (8, .if_icmp .ge 30, 3), (11, .aload_n 0, 1), (12, .aload_n 0, 1), (13, .getfield 48, 3), (16, .invokevirtual 81, 3), (19, .invokestatic 92, 3), (22, .ifCond .eq 16, 3), (25, .aload_n 0, 1), (26, .dup, 1), (27, .getfield 48, 3), (30, .iconst 1, 1), (31, .iadd, 1), (32, .putfield 48, 3), (35, .goto (-35), 3), (38, .aload_n 0, 1), (39, .aload_n 0, 1), (40, .getfield 48, 3), (43, .aload_n 0, 1), (44, .getfield 78, 3), (47, .isub, 1), (48, .bipush 24, 2)]
set_option maxRecDepth 20000 in
theorem dn_125_0_0_ok : dn_125_0_0.all (fun q => decide (decode (xm_b n_125) q.1 = .ok (q.2.1, q.2.2))) = true := xa_g_ok (by decide +kernel)
def dn_125_0_1 : List (Nat × Instr × Nat) := [(50, .if_icmp .le 7, 3), (53, .iconst 3, 1), (54, .goto 7, 3), (57, .aload_n 0, 1), (58, .invokevirtual 102, 3), (61, .putfield 57, 3), (64, .return_, 1)]
set_option maxRecDepth 20000 in
theorem dn_125_0_1_ok : dn_125_0_1.all (fun q => decide (decode (xm_b n_125) q.1 = .ok (q.2.1, q.2.2))) = true := xa_g_ok (by decide +kernel)
def te_125_0 : Nat → eE := (e_T 31 (e_T 13 (e_T 5 (e_T 1 (e_T 0 (e_L 0 (0, ei_load 0 2 1, 0, 0)) (e_L 1 (0, ei_getf eft elay 8 7 4, 0, 0))) (e_T 4 (e_L 4 (0, ei_load 0 2 5, 0, 0)) (e_L 5 (0, ei_getf eft elay 8 0 8, 0, 0)))) (e_T 11 (e_T 8 (e_L 8 (0, ei_if2 3 38 11, 0, 0)) (e_L 11 (0, ei_load 0 2 12, 0, 0))) (e_T 12 (e_L 12 (0, ei_load 0 2 13, 0, 0)) (e_L 13 (0, ei_getf eft elay 8 7 16, 0, 0))))) (e_T 25 (e_T 19 (e_T 16 (e_L 16 (2, e_nof, 120, 2)) (e_L 19 (2, e_nof, 122, 1))) (e_T 22 (e_L 22 (0, ei_if1 0 38 25, 0, 0)) (e_L 25 (0, ei_load 0 2 26, 0, 0)))) (e_T 27 (e_T 26 (e_L 26 (0, ei_stk ef_dup 27, 0, 0)) (e_L 27 (0, ei_getf eft elay 8 7 30, 0, 0))) (e_T 30 (e_L 30 (0, ei_push (0, 1) 31, 0, 0)) (e_L 31 (0, ei_bin eF_add 32, 0, 0)))))) (e_T 47 (e_T 39 (e_T 35 (e_T 32 (e_L 32 (0, ei_putf eft elay 8 7 0 35, 0, 0)) (e_L 35 (0, ei_goto 0, 0, 0))) (e_T 38 (e_L 38 (0, ei_load 0 2 39, 0, 0)) (e_L 39 (0, ei_load 0 2 40, 0, 0)))) (e_T 43 (e_T 40 (e_L 40 (0, ei_getf eft elay 8 7 43, 0, 0)) (e_L 43 (0, ei_load 0 2 44, 0, 0))) (e_T 44 (e_L 44 (0, ei_getf eft elay 8 6 47, 0, 0)) (e_L 47 (0, ei_bin eF_sub 48, 0, 0))))) (e_T 54 (e_T 50 (e_T 48 (e_L 48 (0, ei_push (0, 24) 50, 0, 0)) (e_L 50 (0, ei_if2 5 57 53, 0, 0))) (e_T 53 (e_L 53 (0, ei_push (0, 3) 54, 0, 0)) (e_L 54 (0, ei_goto 61, 0, 0)))) (e_T 58 (e_T 57 (e_L 57 (0, ei_load 0 2 58, 0, 0)) (e_L 58 (2, e_nof, 126, 1))) (e_T 61 (e_L 61 (0, ei_putf eft elay 8 5 0 64, 0, 0)) (e_L 64 (1, e_nof, 0, 0)))))))
set_option maxRecDepth 20000 in
set_option maxHeartbeats 4000000 in
theorem te_125_0_ok : ∀ pc, e_EOq eft cls elay eI n_125 pc (te_125_0 pc) :=
  (e_Tok2
  (e_Tok2
  (e_Tok2
  (e_Tok2
  (e_Tok2
  (e_Lok (ld_aload_n_0 (x_dk dn_125_0_0_ok 0 rfl)))
  (e_Lok (lk_8_48g ho_125 (x_dk dn_125_0_0_ok 1 rfl))))
  (e_Tok2
  (e_Lok (ld_aload_n_0 (x_dk dn_125_0_0_ok 2 rfl)))
  (e_Lok (lk_8_36g ho_125 (x_dk dn_125_0_0_ok 3 rfl)))))
  (e_Tok2
  (e_Tok2
  (e_Lok (e_st (I := eI) (er_icmpge (off := 30) (tg := 38) (x_dk dn_125_0_0_ok 4 rfl) (by decide)) nx_if2))
  (e_Lok (ld_aload_n_0 (x_dk dn_125_0_0_ok 5 rfl))))
  (e_Tok2
  (e_Lok (ld_aload_n_0 (x_dk dn_125_0_0_ok 6 rfl)))
  (e_Lok (lk_8_48g ho_125 (x_dk dn_125_0_0_ok 7 rfl))))))
  (e_Tok2
  (e_Tok2
  (e_Tok2
  (e_Lok (lk_8_81 ho_125 (x_dk dn_125_0_0_ok 8 rfl)))
  (e_Lok (lk_8_92 ho_125 (x_dk dn_125_0_0_ok 9 rfl))))
  (e_Tok2
  (e_Lok (e_st (I := eI) (er_ifeq (off := 16) (tg := 38) (x_dk dn_125_0_0_ok 10 rfl) (by decide)) nx_if1))
  (e_Lok (ld_aload_n_0 (x_dk dn_125_0_0_ok 11 rfl)))))
  (e_Tok2
  (e_Tok2
  (e_Lok (e_st (I := eI) (er_dup (x_dk dn_125_0_0_ok 12 rfl)) (nx_stk bf_dup)))
  (e_Lok (lk_8_48g ho_125 (x_dk dn_125_0_0_ok 13 rfl))))
  (e_Tok2
  (e_Lok (ps_iconst_1 (x_dk dn_125_0_0_ok 14 rfl)))
  (e_Lok (sm_iadd (x_dk dn_125_0_0_ok 15 rfl)))))))
  (e_Tok2
  (e_Tok2
  (e_Tok2
  (e_Tok2
  (e_Lok (lk_8_48p ho_125 (x_dk dn_125_0_0_ok 16 rfl)))
  (e_Lok (e_st (I := eI) (er_goto (off := (-35)) (tg := 0) (x_dk dn_125_0_0_ok 17 rfl) (by decide)) nx_goto)))
  (e_Tok2
  (e_Lok (ld_aload_n_0 (x_dk dn_125_0_0_ok 18 rfl)))
  (e_Lok (ld_aload_n_0 (x_dk dn_125_0_0_ok 19 rfl)))))
  (e_Tok2
  (e_Tok2
  (e_Lok (lk_8_48g ho_125 (x_dk dn_125_0_0_ok 20 rfl)))
  (e_Lok (ld_aload_n_0 (x_dk dn_125_0_0_ok 21 rfl))))
  (e_Tok2
  (e_Lok (lk_8_78g ho_125 (x_dk dn_125_0_0_ok 22 rfl)))
  (e_Lok (sm_isub (x_dk dn_125_0_0_ok 23 rfl))))))
  (e_Tok2
  (e_Tok2
  (e_Tok2
  (e_Lok (ps_bipush_24 (x_dk dn_125_0_0_ok 24 rfl)))
  (e_Lok (e_st (I := eI) (er_icmple (off := 7) (tg := 57) (x_dk dn_125_0_1_ok 0 rfl) (by decide)) nx_if2)))
  (e_Tok2
  (e_Lok (ps_iconst_3 (x_dk dn_125_0_1_ok 1 rfl)))
  (e_Lok (e_st (I := eI) (er_goto (off := 7) (tg := 61) (x_dk dn_125_0_1_ok 2 rfl) (by decide)) nx_goto))))
  (e_Tok2
  (e_Tok2
  (e_Lok (ld_aload_n_0 (x_dk dn_125_0_1_ok 3 rfl)))
  (e_Lok (lk_8_102 ho_125 (x_dk dn_125_0_1_ok 4 rfl))))
  (e_Tok2
  (e_Lok (lk_8_57p ho_125 (x_dk dn_125_0_1_ok 5 rfl)))
  (e_Lok (e_rt (I := eI) (k := 0) ⟨(x_dk dn_125_0_1_ok 6 rfl), rfl⟩)))))))
def te_125 : Nat → eE := te_125_0
theorem te_125_ok : ∀ pc, e_EOq eft cls elay eI n_125 pc (te_125 pc) := te_125_0_ok
theorem ho_129 : (xm_y n_129).cls = "RobotCellHouse$Reader" := rfl
def dn_129_0_0 : List (Nat × Instr × Nat) := [(0, .aload_n 0, 1), (1, .getfield 57, 3), (4, .iload_n 1, 1), (5, .if_icmp .ne 10, 3), (8, .aload_n 0, 1), (9, .invokevirtual 54, 3), (12, .goto 7, 3), (15, .aload_n 0, 1), (16, .invokevirtual 66, 3), (19, .return_, 1)]
set_option maxRecDepth 20000 in
theorem dn_129_0_0_ok : dn_129_0_0.all (fun q => decide (decode (xm_b n_129) q.1 = .ok (q.2.1, q.2.2))) = true := xa_g_ok (by decide +kernel)
def te_129_0 : Nat → eE := (e_T 8 (e_T 1 (e_T 0 (e_L 0 (0, ei_load 0 2 1, 0, 0)) (e_L 1 (0, ei_getf eft elay 8 5 4, 0, 0))) (e_T 4 (e_L 4 (0, ei_load 1 0 5, 0, 0)) (e_T 5 (e_L 5 (0, ei_if2 1 15 8, 0, 0)) (e_L 8 (0, ei_load 0 2 9, 0, 0))))) (e_T 12 (e_T 9 (e_L 9 (2, e_nof, 123, 1)) (e_L 12 (0, ei_goto 19, 0, 0))) (e_T 15 (e_L 15 (0, ei_load 0 2 16, 0, 0)) (e_T 16 (e_L 16 (2, e_nof, 130, 1)) (e_L 19 (1, e_nof, 0, 0))))))
set_option maxRecDepth 20000 in
set_option maxHeartbeats 4000000 in
theorem te_129_0_ok : ∀ pc, e_EOq eft cls elay eI n_129 pc (te_129_0 pc) :=
  (e_Tok2
  (e_Tok2
  (e_Tok2
  (e_Lok (ld_aload_n_0 (x_dk dn_129_0_0_ok 0 rfl)))
  (e_Lok (lk_8_57g ho_129 (x_dk dn_129_0_0_ok 1 rfl))))
  (e_Tok2
  (e_Lok (ld_iload_n_1 (x_dk dn_129_0_0_ok 2 rfl)))
  (e_Tok2
  (e_Lok (e_st (I := eI) (er_icmpne (off := 10) (tg := 15) (x_dk dn_129_0_0_ok 3 rfl) (by decide)) nx_if2))
  (e_Lok (ld_aload_n_0 (x_dk dn_129_0_0_ok 4 rfl))))))
  (e_Tok2
  (e_Tok2
  (e_Lok (lk_8_54 ho_129 (x_dk dn_129_0_0_ok 5 rfl)))
  (e_Lok (e_st (I := eI) (er_goto (off := 7) (tg := 19) (x_dk dn_129_0_0_ok 6 rfl) (by decide)) nx_goto)))
  (e_Tok2
  (e_Lok (ld_aload_n_0 (x_dk dn_129_0_0_ok 7 rfl)))
  (e_Tok2
  (e_Lok (lk_8_66 ho_129 (x_dk dn_129_0_0_ok 8 rfl)))
  (e_Lok (e_rt (I := eI) (k := 0) ⟨(x_dk dn_129_0_0_ok 9 rfl), rfl⟩))))))
def te_129 : Nat → eE := te_129_0
theorem te_129_ok : ∀ pc, e_EOq eft cls elay eI n_129 pc (te_129 pc) := te_129_0_ok
theorem ho_130 : (xm_y n_130).cls = "RobotCellHouse$Reader" := rfl
def dn_130_0_0 : List (Nat × Instr × Nat) := [(0, .aload_n 0, 1), (1, .aload_n 0, 1), (2, .getfield 57, 3), (5, .iconst 3, 1), (6, .if_icmp .ne 7, 3), (9, .iconst 1, 1), (10, .goto 4, 3), (13, .iconst 2, 1), (14, .invokevirtual 140, 3), (17, .return_, 1)]
set_option maxRecDepth 20000 in
theorem dn_130_0_0_ok : dn_130_0_0.all (fun q => decide (decode (xm_b n_130) q.1 = .ok (q.2.1, q.2.2))) = true := xa_g_ok (by decide +kernel)
def te_130_0 : Nat → eE := (e_T 6 (e_T 1 (e_T 0 (e_L 0 (0, ei_load 0 2 1, 0, 0)) (e_L 1 (0, ei_load 0 2 2, 0, 0))) (e_T 2 (e_L 2 (0, ei_getf eft elay 8 5 5, 0, 0)) (e_T 5 (e_L 5 (0, ei_push (0, 3) 6, 0, 0)) (e_L 6 (0, ei_if2 1 13 9, 0, 0))))) (e_T 10 (e_T 9 (e_L 9 (0, ei_push (0, 1) 10, 0, 0)) (e_L 10 (0, ei_goto 14, 0, 0))) (e_T 13 (e_L 13 (0, ei_push (0, 2) 14, 0, 0)) (e_T 14 (e_L 14 (2, e_nof, 131, 2)) (e_L 17 (1, e_nof, 0, 0))))))
set_option maxRecDepth 20000 in
set_option maxHeartbeats 4000000 in
theorem te_130_0_ok : ∀ pc, e_EOq eft cls elay eI n_130 pc (te_130_0 pc) :=
  (e_Tok2
  (e_Tok2
  (e_Tok2
  (e_Lok (ld_aload_n_0 (x_dk dn_130_0_0_ok 0 rfl)))
  (e_Lok (ld_aload_n_0 (x_dk dn_130_0_0_ok 1 rfl))))
  (e_Tok2
  (e_Lok (lk_8_57g ho_130 (x_dk dn_130_0_0_ok 2 rfl)))
  (e_Tok2
  (e_Lok (ps_iconst_3 (x_dk dn_130_0_0_ok 3 rfl)))
  (e_Lok (e_st (I := eI) (er_icmpne (off := 7) (tg := 13) (x_dk dn_130_0_0_ok 4 rfl) (by decide)) nx_if2)))))
  (e_Tok2
  (e_Tok2
  (e_Lok (ps_iconst_1 (x_dk dn_130_0_0_ok 5 rfl)))
  (e_Lok (e_st (I := eI) (er_goto (off := 4) (tg := 14) (x_dk dn_130_0_0_ok 6 rfl) (by decide)) nx_goto)))
  (e_Tok2
  (e_Lok (ps_iconst_2 (x_dk dn_130_0_0_ok 7 rfl)))
  (e_Tok2
  (e_Lok (lk_8_140 ho_130 (x_dk dn_130_0_0_ok 8 rfl)))
  (e_Lok (e_rt (I := eI) (k := 0) ⟨(x_dk dn_130_0_0_ok 9 rfl), rfl⟩))))))
def te_130 : Nat → eE := te_130_0
theorem te_130_ok : ∀ pc, e_EOq eft cls elay eI n_130 pc (te_130 pc) := te_130_0_ok
theorem ho_131 : (xm_y n_131).cls = "RobotCellHouse$Reader" := rfl
def dn_131_0_0 : List (Nat × Instr × Nat) := [(0, .aload_n 0, 1), (1, .getfield 9, 3), (4, .ifCond .ne 16, 3), (7, .aload_n 0, 1), (8, .iload_n 1, 1), (9, .putfield 9, 3), (12, .aload_n 0, 1), (13, .aload_n 0, 1), (14, .getfield 78, 3), (17, .putfield 15, 3), (20, .aload_n 0, 1), (21, .iconst 4, 1), (22, .putfield 57, 3), (25, .return_, 1)]
set_option maxRecDepth 20000 in
theorem dn_131_0_0_ok : dn_131_0_0.all (fun q => decide (decode (xm_b n_131) q.1 = .ok (q.2.1, q.2.2))) = true := xa_g_ok (by decide +kernel)
def te_131_0 : Nat → eE := (e_T 12 (e_T 4 (e_T 0 (e_L 0 (0, ei_load 0 2 1, 0, 0)) (e_T 1 (e_L 1 (0, ei_getf eft elay 8 1 4, 0, 0)) (e_L 4 (0, ei_if1 1 20 7, 0, 0)))) (e_T 8 (e_T 7 (e_L 7 (0, ei_load 0 2 8, 0, 0)) (e_L 8 (0, ei_load 1 0 9, 0, 0))) (e_T 9 (e_L 9 (0, ei_putf eft elay 8 1 0 12, 0, 0)) (e_L 12 (0, ei_load 0 2 13, 0, 0))))) (e_T 17 (e_T 13 (e_L 13 (0, ei_load 0 2 14, 0, 0)) (e_T 14 (e_L 14 (0, ei_getf eft elay 8 6 17, 0, 0)) (e_L 17 (0, ei_putf eft elay 8 2 0 20, 0, 0)))) (e_T 21 (e_T 20 (e_L 20 (0, ei_load 0 2 21, 0, 0)) (e_L 21 (0, ei_push (0, 4) 22, 0, 0))) (e_T 22 (e_L 22 (0, ei_putf eft elay 8 5 0 25, 0, 0)) (e_L 25 (1, e_nof, 0, 0))))))
set_option maxRecDepth 20000 in
set_option maxHeartbeats 4000000 in
theorem te_131_0_ok : ∀ pc, e_EOq eft cls elay eI n_131 pc (te_131_0 pc) :=
  (e_Tok2
  (e_Tok2
  (e_Tok2
  (e_Lok (ld_aload_n_0 (x_dk dn_131_0_0_ok 0 rfl)))
  (e_Tok2
  (e_Lok (lk_8_9g ho_131 (x_dk dn_131_0_0_ok 1 rfl)))
  (e_Lok (e_st (I := eI) (er_ifne (off := 16) (tg := 20) (x_dk dn_131_0_0_ok 2 rfl) (by decide)) nx_if1))))
  (e_Tok2
  (e_Tok2
  (e_Lok (ld_aload_n_0 (x_dk dn_131_0_0_ok 3 rfl)))
  (e_Lok (ld_iload_n_1 (x_dk dn_131_0_0_ok 4 rfl))))
  (e_Tok2
  (e_Lok (lk_8_9p ho_131 (x_dk dn_131_0_0_ok 5 rfl)))
  (e_Lok (ld_aload_n_0 (x_dk dn_131_0_0_ok 6 rfl))))))
  (e_Tok2
  (e_Tok2
  (e_Lok (ld_aload_n_0 (x_dk dn_131_0_0_ok 7 rfl)))
  (e_Tok2
  (e_Lok (lk_8_78g ho_131 (x_dk dn_131_0_0_ok 8 rfl)))
  (e_Lok (lk_8_15p ho_131 (x_dk dn_131_0_0_ok 9 rfl)))))
  (e_Tok2
  (e_Tok2
  (e_Lok (ld_aload_n_0 (x_dk dn_131_0_0_ok 10 rfl)))
  (e_Lok (ps_iconst_4 (x_dk dn_131_0_0_ok 11 rfl))))
  (e_Tok2
  (e_Lok (lk_8_57p ho_131 (x_dk dn_131_0_0_ok 12 rfl)))
  (e_Lok (e_rt (I := eI) (k := 0) ⟨(x_dk dn_131_0_0_ok 13 rfl), rfl⟩))))))
def te_131 : Nat → eE := te_131_0
theorem te_131_ok : ∀ pc, e_EOq eft cls elay eI n_131 pc (te_131 pc) := te_131_0_ok
theorem ho_132 : (xm_y n_132).cls = "RobotCellHouse$Reader" := rfl
def dn_132_0_0 : List (Nat × Instr × Nat) := [(0, .aload_n 0, 1), (1, .getfield 42, 3), (4, .bipush 30, 2), (6, .if_icmp .lt 10, 3), (9, .aload_n 0, 1), (10, .iconst 3, 1), (11, .invokevirtual 140, 3), (14, .iconst 0, 1), (15, .ireturn, 1), (16, .aload_n 0, 1), (17, .dup, 1), (18, .getfield 42, 3), (21, .iconst 1, 1), (22, .iadd, 1), (23, .putfield 42, 3), (26, .iconst 1, 1), (27, .ireturn, 1)]
set_option maxRecDepth 20000 in
theorem dn_132_0_0_ok : dn_132_0_0.all (fun q => decide (decode (xm_b n_132) q.1 = .ok (q.2.1, q.2.2))) = true := xa_g_ok (by decide +kernel)
def te_132_0 : Nat → eE := (e_T 14 (e_T 6 (e_T 1 (e_T 0 (e_L 0 (0, ei_load 0 2 1, 0, 0)) (e_L 1 (0, ei_getf eft elay 8 11 4, 0, 0))) (e_T 4 (e_L 4 (0, ei_push (0, 30) 6, 0, 0)) (e_L 6 (0, ei_if2 2 16 9, 0, 0)))) (e_T 10 (e_T 9 (e_L 9 (0, ei_load 0 2 10, 0, 0)) (e_L 10 (0, ei_push (0, 3) 11, 0, 0))) (e_T 11 (e_L 11 (2, e_nof, 131, 2)) (e_L 14 (0, ei_push (0, 0) 15, 0, 0))))) (e_T 18 (e_T 16 (e_T 15 (e_L 15 (1, e_nof, 4, 0)) (e_L 16 (0, ei_load 0 2 17, 0, 0))) (e_T 17 (e_L 17 (0, ei_stk ef_dup 18, 0, 0)) (e_L 18 (0, ei_getf eft elay 8 11 21, 0, 0)))) (e_T 22 (e_T 21 (e_L 21 (0, ei_push (0, 1) 22, 0, 0)) (e_L 22 (0, ei_bin eF_add 23, 0, 0))) (e_T 23 (e_L 23 (0, ei_putf eft elay 8 11 0 26, 0, 0)) (e_T 26 (e_L 26 (0, ei_push (0, 1) 27, 0, 0)) (e_L 27 (1, e_nof, 4, 0)))))))
set_option maxRecDepth 20000 in
set_option maxHeartbeats 4000000 in
theorem te_132_0_ok : ∀ pc, e_EOq eft cls elay eI n_132 pc (te_132_0 pc) :=
  (e_Tok2
  (e_Tok2
  (e_Tok2
  (e_Tok2
  (e_Lok (ld_aload_n_0 (x_dk dn_132_0_0_ok 0 rfl)))
  (e_Lok (lk_8_42g ho_132 (x_dk dn_132_0_0_ok 1 rfl))))
  (e_Tok2
  (e_Lok (ps_bipush_30 (x_dk dn_132_0_0_ok 2 rfl)))
  (e_Lok (e_st (I := eI) (er_icmplt (off := 10) (tg := 16) (x_dk dn_132_0_0_ok 3 rfl) (by decide)) nx_if2))))
  (e_Tok2
  (e_Tok2
  (e_Lok (ld_aload_n_0 (x_dk dn_132_0_0_ok 4 rfl)))
  (e_Lok (ps_iconst_3 (x_dk dn_132_0_0_ok 5 rfl))))
  (e_Tok2
  (e_Lok (lk_8_140 ho_132 (x_dk dn_132_0_0_ok 6 rfl)))
  (e_Lok (ps_iconst_0 (x_dk dn_132_0_0_ok 7 rfl))))))
  (e_Tok2
  (e_Tok2
  (e_Tok2
  (e_Lok (e_rt (I := eI) (k := 4) ⟨(x_dk dn_132_0_0_ok 8 rfl), rfl⟩))
  (e_Lok (ld_aload_n_0 (x_dk dn_132_0_0_ok 9 rfl))))
  (e_Tok2
  (e_Lok (e_st (I := eI) (er_dup (x_dk dn_132_0_0_ok 10 rfl)) (nx_stk bf_dup)))
  (e_Lok (lk_8_42g ho_132 (x_dk dn_132_0_0_ok 11 rfl)))))
  (e_Tok2
  (e_Tok2
  (e_Lok (ps_iconst_1 (x_dk dn_132_0_0_ok 12 rfl)))
  (e_Lok (sm_iadd (x_dk dn_132_0_0_ok 13 rfl))))
  (e_Tok2
  (e_Lok (lk_8_42p ho_132 (x_dk dn_132_0_0_ok 14 rfl)))
  (e_Tok2
  (e_Lok (ps_iconst_1 (x_dk dn_132_0_0_ok 15 rfl)))
  (e_Lok (e_rt (I := eI) (k := 4) ⟨(x_dk dn_132_0_0_ok 16 rfl), rfl⟩)))))))
def te_132 : Nat → eE := te_132_0
theorem te_132_ok : ∀ pc, e_EOq eft cls elay eI n_132 pc (te_132 pc) := te_132_0_ok
theorem ho_133 : (xm_y n_133).cls = "RobotCellHouse$Reader" := rfl
def dn_133_0_0 : List (Nat × Instr × Nat) := [(0, .aload_n 0, 1), (1, .getfield 39, 3), (4, .ifCond .eq 11, 3), (7, .iload_n 2, 1), (8, .aload_n 0, 1), (9, .getfield 72, 3), (12, .if_icmp .ge 7, 3), (15, .iconst 1, 1), (16, .goto 4, 3), (19, .iconst 0, 1), (20, .istore_n 3, 1), (21, .iload_n 3, 1), (22, .ifCond .ne 20, 3), (25, .iload_n 2, 1), (26, .aload_n 0, 1), (27, .getfield 72, 3), (30, .if_icmp .gt 11, 3), (33, .iload_n 1, 1), (34, .aload_n 0, 1), (35, .getfield 39, 3), (38, .if_icmp .le 4, 3), (41, .return_, 1), (42, .aload_n 0, 1), (43, .iload_n 1, 1), (44, .putfield 39, 3)]
set_option maxRecDepth 20000 in
theorem dn_133_0_0_ok : dn_133_0_0.all (fun q => decide (decode (xm_b n_133) q.1 = .ok (q.2.1, q.2.2))) = true := xa_g_ok (by decide +kernel)
def dn_133_0_1 : List (Nat × Instr × Nat) := [(47, .aload_n 0, 1), (48, .iload_n 2, 1), (49, .putfield 72, 3), (52, .return_, 1)]
set_option maxRecDepth 20000 in
theorem dn_133_0_1_ok : dn_133_0_1.all (fun q => decide (decode (xm_b n_133) q.1 = .ok (q.2.1, q.2.2))) = true := xa_g_ok (by decide +kernel)
def te_133_0 : Nat → eE := (e_T 25 (e_T 12 (e_T 4 (e_T 0 (e_L 0 (0, ei_load 0 2 1, 0, 0)) (e_T 1 (e_L 1 (0, ei_getf eft elay 8 9 4, 0, 0)) (e_L 4 (0, ei_if1 0 15 7, 0, 0)))) (e_T 8 (e_T 7 (e_L 7 (0, ei_load 2 0 8, 0, 0)) (e_L 8 (0, ei_load 0 2 9, 0, 0))) (e_T 9 (e_L 9 (0, ei_getf eft elay 8 10 12, 0, 0)) (e_L 12 (0, ei_if2 3 19 15, 0, 0))))) (e_T 19 (e_T 15 (e_L 15 (0, ei_push (0, 1) 16, 0, 0)) (e_T 16 (e_L 16 (0, ei_goto 20, 0, 0)) (e_L 19 (0, ei_push (0, 0) 20, 0, 0)))) (e_T 21 (e_T 20 (e_L 20 (0, ei_stor 3 0 21, 0, 0)) (e_L 21 (0, ei_load 3 0 22, 0, 0))) (e_T 22 (e_L 22 (0, ei_if1 1 42 25, 0, 0)) (e_L 25 (0, ei_load 2 0 26, 0, 0)))))) (e_T 38 (e_T 30 (e_T 26 (e_L 26 (0, ei_load 0 2 27, 0, 0)) (e_T 27 (e_L 27 (0, ei_getf eft elay 8 10 30, 0, 0)) (e_L 30 (0, ei_if2 4 41 33, 0, 0)))) (e_T 34 (e_T 33 (e_L 33 (0, ei_load 1 0 34, 0, 0)) (e_L 34 (0, ei_load 0 2 35, 0, 0))) (e_T 35 (e_L 35 (0, ei_getf eft elay 8 9 38, 0, 0)) (e_L 38 (0, ei_if2 5 42 41, 0, 0))))) (e_T 44 (e_T 42 (e_T 41 (e_L 41 (1, e_nof, 0, 0)) (e_L 42 (0, ei_load 0 2 43, 0, 0))) (e_T 43 (e_L 43 (0, ei_load 1 0 44, 0, 0)) (e_L 44 (0, ei_putf eft elay 8 9 0 47, 0, 0)))) (e_T 48 (e_T 47 (e_L 47 (0, ei_load 0 2 48, 0, 0)) (e_L 48 (0, ei_load 2 0 49, 0, 0))) (e_T 49 (e_L 49 (0, ei_putf eft elay 8 10 0 52, 0, 0)) (e_L 52 (1, e_nof, 0, 0)))))))
set_option maxRecDepth 20000 in
set_option maxHeartbeats 4000000 in
theorem te_133_0_ok : ∀ pc, e_EOq eft cls elay eI n_133 pc (te_133_0 pc) :=
  (e_Tok2
  (e_Tok2
  (e_Tok2
  (e_Tok2
  (e_Lok (ld_aload_n_0 (x_dk dn_133_0_0_ok 0 rfl)))
  (e_Tok2
  (e_Lok (lk_8_39g ho_133 (x_dk dn_133_0_0_ok 1 rfl)))
  (e_Lok (e_st (I := eI) (er_ifeq (off := 11) (tg := 15) (x_dk dn_133_0_0_ok 2 rfl) (by decide)) nx_if1))))
  (e_Tok2
  (e_Tok2
  (e_Lok (ld_iload_n_2 (x_dk dn_133_0_0_ok 3 rfl)))
  (e_Lok (ld_aload_n_0 (x_dk dn_133_0_0_ok 4 rfl))))
  (e_Tok2
  (e_Lok (lk_8_72g ho_133 (x_dk dn_133_0_0_ok 5 rfl)))
  (e_Lok (e_st (I := eI) (er_icmpge (off := 7) (tg := 19) (x_dk dn_133_0_0_ok 6 rfl) (by decide)) nx_if2)))))
  (e_Tok2
  (e_Tok2
  (e_Lok (ps_iconst_1 (x_dk dn_133_0_0_ok 7 rfl)))
  (e_Tok2
  (e_Lok (e_st (I := eI) (er_goto (off := 4) (tg := 20) (x_dk dn_133_0_0_ok 8 rfl) (by decide)) nx_goto))
  (e_Lok (ps_iconst_0 (x_dk dn_133_0_0_ok 9 rfl)))))
  (e_Tok2
  (e_Tok2
  (e_Lok (e_st (I := eI) (er_istore_n (i := 3) (x_dk dn_133_0_0_ok 10 rfl) (by decide +kernel)) nx_stor))
  (e_Lok (ld_iload_n_3 (x_dk dn_133_0_0_ok 11 rfl))))
  (e_Tok2
  (e_Lok (e_st (I := eI) (er_ifne (off := 20) (tg := 42) (x_dk dn_133_0_0_ok 12 rfl) (by decide)) nx_if1))
  (e_Lok (ld_iload_n_2 (x_dk dn_133_0_0_ok 13 rfl)))))))
  (e_Tok2
  (e_Tok2
  (e_Tok2
  (e_Lok (ld_aload_n_0 (x_dk dn_133_0_0_ok 14 rfl)))
  (e_Tok2
  (e_Lok (lk_8_72g ho_133 (x_dk dn_133_0_0_ok 15 rfl)))
  (e_Lok (e_st (I := eI) (er_icmpgt (off := 11) (tg := 41) (x_dk dn_133_0_0_ok 16 rfl) (by decide)) nx_if2))))
  (e_Tok2
  (e_Tok2
  (e_Lok (ld_iload_n_1 (x_dk dn_133_0_0_ok 17 rfl)))
  (e_Lok (ld_aload_n_0 (x_dk dn_133_0_0_ok 18 rfl))))
  (e_Tok2
  (e_Lok (lk_8_39g ho_133 (x_dk dn_133_0_0_ok 19 rfl)))
  (e_Lok (e_st (I := eI) (er_icmple (off := 4) (tg := 42) (x_dk dn_133_0_0_ok 20 rfl) (by decide)) nx_if2)))))
  (e_Tok2
  (e_Tok2
  (e_Tok2
  (e_Lok (e_rt (I := eI) (k := 0) ⟨(x_dk dn_133_0_0_ok 21 rfl), rfl⟩))
  (e_Lok (ld_aload_n_0 (x_dk dn_133_0_0_ok 22 rfl))))
  (e_Tok2
  (e_Lok (ld_iload_n_1 (x_dk dn_133_0_0_ok 23 rfl)))
  (e_Lok (lk_8_39p ho_133 (x_dk dn_133_0_0_ok 24 rfl)))))
  (e_Tok2
  (e_Tok2
  (e_Lok (ld_aload_n_0 (x_dk dn_133_0_1_ok 0 rfl)))
  (e_Lok (ld_iload_n_2 (x_dk dn_133_0_1_ok 1 rfl))))
  (e_Tok2
  (e_Lok (lk_8_72p ho_133 (x_dk dn_133_0_1_ok 2 rfl)))
  (e_Lok (e_rt (I := eI) (k := 0) ⟨(x_dk dn_133_0_1_ok 3 rfl), rfl⟩)))))))
def te_133 : Nat → eE := te_133_0
theorem te_133_ok : ∀ pc, e_EOq eft cls elay eI n_133 pc (te_133 pc) := te_133_0_ok
theorem ho_134 : (xm_y n_134).cls = "RobotCellHouse$Reader" := rfl
def dn_134_0_0 : List (Nat × Instr × Nat) := [(0, .iconst 0, 1), (1, .istore_n 3, 1), (2, .iload_n 3, 1), (3, .bipush 24, 2), (5, .if_icmp .ge 39, 3), (8, .aload_n 0, 1), (9, .iload_n 1, 1), (10, .iload_n 3, 1), (11, .iadd, 1), (12, .invokevirtual 81, 3), (15, .invokestatic 92, 3), (18, .ifCond .eq 26, 3), (21, .aload_n 0, 1), (22, .iload_n 1, 1), (23, .iload_n 3, 1), (24, .iadd, 1), (25, .invokevirtual 81, 3), (28, .aload_n 0, 1), (29, .iload_n 2, 1), (30, .iload_n 3, 1), (31, .iadd, 1), (32, .invokevirtual 81, 3), (35, .if_icmp .ne 9, 3), (38, .iinc 3 1, 3), (41, .goto (-39), 3)]
set_option maxRecDepth 20000 in
theorem dn_134_0_0_ok : dn_134_0_0.all (fun q => decide (decode (xm_b n_134) q.1 = .ok (q.2.1, q.2.2))) = true := xa_g_ok (by decide +kernel)
def dn_134_0_1 : List (Nat × Instr × Nat) := [(44, .aload_n 0, 1), (45, .iload_n 1, 1), (46, .iload_n 3, 1), (47, .iadd, 1), (48, .invokevirtual 81, 3), (51, .invokestatic 92, 3), (54, .ifCond .ne 20, 3), (57, .aload_n 0, 1), (58, .iload_n 2, 1), (59, .iload_n 3, 1), (60, .iadd, 1), (61, .invokevirtual 81, 3), (64, .invokestatic 92, 3), (67, .ifCond .ne 7, 3), (70, .iconst 1, 1), (71, .goto 4, 3), (74, .iconst 0, 1), (75, .ireturn, 1)]
set_option maxRecDepth 20000 in
theorem dn_134_0_1_ok : dn_134_0_1.all (fun q => decide (decode (xm_b n_134) q.1 = .ok (q.2.1, q.2.2))) = true := xa_g_ok (by decide +kernel)
def te_134_0 : Nat → eE := (e_T 12 (e_T 5 (e_T 1 (e_T 0 (e_L 0 (0, ei_push (0, 0) 1, 0, 0)) (e_L 1 (0, ei_stor 3 0 2, 0, 0))) (e_T 2 (e_L 2 (0, ei_load 3 0 3, 0, 0)) (e_T 3 (e_L 3 (0, ei_push (0, 24) 5, 0, 0)) (e_L 5 (0, ei_if2 3 44 8, 0, 0))))) (e_T 9 (e_T 8 (e_L 8 (0, ei_load 0 2 9, 0, 0)) (e_L 9 (0, ei_load 1 0 10, 0, 0))) (e_T 10 (e_L 10 (0, ei_load 3 0 11, 0, 0)) (e_T 11 (e_L 11 (0, ei_bin eF_add 12, 0, 0)) (e_L 12 (2, e_nof, 120, 2)))))) (e_T 23 (e_T 18 (e_T 15 (e_L 15 (2, e_nof, 122, 1)) (e_L 18 (0, ei_if1 0 44 21, 0, 0))) (e_T 21 (e_L 21 (0, ei_load 0 2 22, 0, 0)) (e_T 22 (e_L 22 (0, ei_load 1 0 23, 0, 0)) (e_L 23 (0, ei_load 3 0 24, 0, 0))))) (e_T 28 (e_T 24 (e_L 24 (0, ei_bin eF_add 25, 0, 0)) (e_T 25 (e_L 25 (2, e_nof, 120, 2)) (e_L 28 (0, ei_load 0 2 29, 0, 0)))) (e_T 29 (e_L 29 (0, ei_load 2 0 30, 0, 0)) (e_T 30 (e_L 30 (0, ei_load 3 0 31, 0, 0)) (e_L 31 (0, ei_bin eF_add 32, 0, 0)))))))
set_option maxRecDepth 20000 in
set_option maxHeartbeats 4000000 in
theorem te_134_0_ok : ∀ pc, e_EOq eft cls elay eI n_134 pc (te_134_0 pc) :=
  (e_Tok2
  (e_Tok2
  (e_Tok2
  (e_Tok2
  (e_Lok (ps_iconst_0 (x_dk dn_134_0_0_ok 0 rfl)))
  (e_Lok (e_st (I := eI) (er_istore_n (i := 3) (x_dk dn_134_0_0_ok 1 rfl) (by decide +kernel)) nx_stor)))
  (e_Tok2
  (e_Lok (ld_iload_n_3 (x_dk dn_134_0_0_ok 2 rfl)))
  (e_Tok2
  (e_Lok (ps_bipush_24 (x_dk dn_134_0_0_ok 3 rfl)))
  (e_Lok (e_st (I := eI) (er_icmpge (off := 39) (tg := 44) (x_dk dn_134_0_0_ok 4 rfl) (by decide)) nx_if2)))))
  (e_Tok2
  (e_Tok2
  (e_Lok (ld_aload_n_0 (x_dk dn_134_0_0_ok 5 rfl)))
  (e_Lok (ld_iload_n_1 (x_dk dn_134_0_0_ok 6 rfl))))
  (e_Tok2
  (e_Lok (ld_iload_n_3 (x_dk dn_134_0_0_ok 7 rfl)))
  (e_Tok2
  (e_Lok (sm_iadd (x_dk dn_134_0_0_ok 8 rfl)))
  (e_Lok (lk_8_81 ho_134 (x_dk dn_134_0_0_ok 9 rfl)))))))
  (e_Tok2
  (e_Tok2
  (e_Tok2
  (e_Lok (lk_8_92 ho_134 (x_dk dn_134_0_0_ok 10 rfl)))
  (e_Lok (e_st (I := eI) (er_ifeq (off := 26) (tg := 44) (x_dk dn_134_0_0_ok 11 rfl) (by decide)) nx_if1)))
  (e_Tok2
  (e_Lok (ld_aload_n_0 (x_dk dn_134_0_0_ok 12 rfl)))
  (e_Tok2
  (e_Lok (ld_iload_n_1 (x_dk dn_134_0_0_ok 13 rfl)))
  (e_Lok (ld_iload_n_3 (x_dk dn_134_0_0_ok 14 rfl))))))
  (e_Tok2
  (e_Tok2
  (e_Lok (sm_iadd (x_dk dn_134_0_0_ok 15 rfl)))
  (e_Tok2
  (e_Lok (lk_8_81 ho_134 (x_dk dn_134_0_0_ok 16 rfl)))
  (e_Lok (ld_aload_n_0 (x_dk dn_134_0_0_ok 17 rfl)))))
  (e_Tok2
  (e_Lok (ld_iload_n_2 (x_dk dn_134_0_0_ok 18 rfl)))
  (e_Tok2
  (e_Lok (ld_iload_n_3 (x_dk dn_134_0_0_ok 19 rfl)))
  (e_Lok (sm_iadd (x_dk dn_134_0_0_ok 20 rfl))))))))
def te_134_21 : Nat → eE := (e_T 54 (e_T 44 (e_T 35 (e_T 32 (e_L 32 (2, e_nof, 120, 2)) (e_L 35 (0, ei_if2 1 44 38, 0, 0))) (e_T 38 (e_L 38 (0, ei_inc 3 1 41, 0, 0)) (e_T 41 (e_L 41 (0, ei_goto 2, 0, 0)) (e_L 44 (0, ei_load 0 2 45, 0, 0))))) (e_T 47 (e_T 45 (e_L 45 (0, ei_load 1 0 46, 0, 0)) (e_T 46 (e_L 46 (0, ei_load 3 0 47, 0, 0)) (e_L 47 (0, ei_bin eF_add 48, 0, 0)))) (e_T 48 (e_L 48 (2, e_nof, 120, 2)) (e_T 51 (e_L 51 (2, e_nof, 122, 1)) (e_L 54 (0, ei_if1 1 74 57, 0, 0)))))) (e_T 61 (e_T 58 (e_T 57 (e_L 57 (0, ei_load 0 2 58, 0, 0)) (e_L 58 (0, ei_load 2 0 59, 0, 0))) (e_T 59 (e_L 59 (0, ei_load 3 0 60, 0, 0)) (e_T 60 (e_L 60 (0, ei_bin eF_add 61, 0, 0)) (e_L 61 (2, e_nof, 120, 2))))) (e_T 70 (e_T 64 (e_L 64 (2, e_nof, 122, 1)) (e_T 67 (e_L 67 (0, ei_if1 1 74 70, 0, 0)) (e_L 70 (0, ei_push (0, 1) 71, 0, 0)))) (e_T 71 (e_L 71 (0, ei_goto 75, 0, 0)) (e_T 74 (e_L 74 (0, ei_push (0, 0) 75, 0, 0)) (e_L 75 (1, e_nof, 4, 0)))))))
set_option maxRecDepth 20000 in
set_option maxHeartbeats 4000000 in
theorem te_134_21_ok : ∀ pc, e_EOq eft cls elay eI n_134 pc (te_134_21 pc) :=
  (e_Tok2
  (e_Tok2
  (e_Tok2
  (e_Tok2
  (e_Lok (lk_8_81 ho_134 (x_dk dn_134_0_0_ok 21 rfl)))
  (e_Lok (e_st (I := eI) (er_icmpne (off := 9) (tg := 44) (x_dk dn_134_0_0_ok 22 rfl) (by decide)) nx_if2)))
  (e_Tok2
  (e_Lok (e_st (I := eI) (er_iinc (i := 3) (n := 1) (x_dk dn_134_0_0_ok 23 rfl) (by decide +kernel) (by decide)) nx_inc))
  (e_Tok2
  (e_Lok (e_st (I := eI) (er_goto (off := (-39)) (tg := 2) (x_dk dn_134_0_0_ok 24 rfl) (by decide)) nx_goto))
  (e_Lok (ld_aload_n_0 (x_dk dn_134_0_1_ok 0 rfl))))))
  (e_Tok2
  (e_Tok2
  (e_Lok (ld_iload_n_1 (x_dk dn_134_0_1_ok 1 rfl)))
  (e_Tok2
  (e_Lok (ld_iload_n_3 (x_dk dn_134_0_1_ok 2 rfl)))
  (e_Lok (sm_iadd (x_dk dn_134_0_1_ok 3 rfl)))))
  (e_Tok2
  (e_Lok (lk_8_81 ho_134 (x_dk dn_134_0_1_ok 4 rfl)))
  (e_Tok2
  (e_Lok (lk_8_92 ho_134 (x_dk dn_134_0_1_ok 5 rfl)))
  (e_Lok (e_st (I := eI) (er_ifne (off := 20) (tg := 74) (x_dk dn_134_0_1_ok 6 rfl) (by decide)) nx_if1))))))
  (e_Tok2
  (e_Tok2
  (e_Tok2
  (e_Lok (ld_aload_n_0 (x_dk dn_134_0_1_ok 7 rfl)))
  (e_Lok (ld_iload_n_2 (x_dk dn_134_0_1_ok 8 rfl))))
  (e_Tok2
  (e_Lok (ld_iload_n_3 (x_dk dn_134_0_1_ok 9 rfl)))
  (e_Tok2
  (e_Lok (sm_iadd (x_dk dn_134_0_1_ok 10 rfl)))
  (e_Lok (lk_8_81 ho_134 (x_dk dn_134_0_1_ok 11 rfl))))))
  (e_Tok2
  (e_Tok2
  (e_Lok (lk_8_92 ho_134 (x_dk dn_134_0_1_ok 12 rfl)))
  (e_Tok2
  (e_Lok (e_st (I := eI) (er_ifne (off := 7) (tg := 74) (x_dk dn_134_0_1_ok 13 rfl) (by decide)) nx_if1))
  (e_Lok (ps_iconst_1 (x_dk dn_134_0_1_ok 14 rfl)))))
  (e_Tok2
  (e_Lok (e_st (I := eI) (er_goto (off := 4) (tg := 75) (x_dk dn_134_0_1_ok 15 rfl) (by decide)) nx_goto))
  (e_Tok2
  (e_Lok (ps_iconst_0 (x_dk dn_134_0_1_ok 16 rfl)))
  (e_Lok (e_rt (I := eI) (k := 4) ⟨(x_dk dn_134_0_1_ok 17 rfl), rfl⟩)))))))
def te_134 : Nat → eE := (e_T 31 te_134_0 te_134_21)
theorem te_134_ok : ∀ pc, e_EOq eft cls elay eI n_134 pc (te_134 pc) := (e_Tok2 (te_134_0_ok) (te_134_21_ok))
theorem ho_135 : (xm_y n_135).cls = "RobotCellHouse$Reader" := rfl
def dn_135_0_0 : List (Nat × Instr × Nat) := [(0, .iconst 0, 1), (1, .istore_n 2, 1), (2, .iload_n 2, 1), (3, .aload_n 0, 1), (4, .getfield 21, 3), (7, .getfield 143, 3), (10, .if_icmp .ge 25, 3), (13, .aload_n 0, 1), (14, .aload_n 0, 1), (15, .getfield 29, 3), (18, .iload_n 2, 1), (19, .iaload, 1), (20, .iload_n 1, 1), (21, .invokevirtual 146, 3), (24, .ifCond .eq 5, 3), (27, .iload_n 2, 1), (28, .ireturn, 1), (29, .iinc 2 1, 3), (32, .goto (-30), 3), (35, .iconst (-1), 1), (36, .ireturn, 1)]
set_option maxRecDepth 20000 in
theorem dn_135_0_0_ok : dn_135_0_0.all (fun q => decide (decode (xm_b n_135) q.1 = .ok (q.2.1, q.2.2))) = true := xa_g_ok (by decide +kernel)
def te_135_0 : Nat → eE := (e_T 15 (e_T 4 (e_T 1 (e_T 0 (e_L 0 (0, ei_push (0, 0) 1, 0, 0)) (e_L 1 (0, ei_stor 2 0 2, 0, 0))) (e_T 2 (e_L 2 (0, ei_load 2 0 3, 0, 0)) (e_T 3 (e_L 3 (0, ei_load 0 2 4, 0, 0)) (e_L 4 (0, ei_getf eft elay 8 3 7, 0, 0))))) (e_T 10 (e_T 7 (e_L 7 (0, ei_getf eft elay 1 2 10, 0, 0)) (e_L 10 (0, ei_if2 3 35 13, 0, 0))) (e_T 13 (e_L 13 (0, ei_load 0 2 14, 0, 0)) (e_T 14 (e_L 14 (0, ei_load 0 2 15, 0, 0)) (e_L 15 (0, ei_getf eft elay 8 15 18, 0, 0)))))) (e_T 24 (e_T 19 (e_T 18 (e_L 18 (0, ei_load 2 0 19, 0, 0)) (e_L 19 (0, ei_ald elay false 20, 0, 0))) (e_T 20 (e_L 20 (0, ei_load 1 0 21, 0, 0)) (e_T 21 (e_L 21 (2, e_nof, 134, 3)) (e_L 24 (0, ei_if1 0 29 27, 0, 0))))) (e_T 29 (e_T 27 (e_L 27 (0, ei_load 2 0 28, 0, 0)) (e_T 28 (e_L 28 (1, e_nof, 1, 0)) (e_L 29 (0, ei_inc 2 1 32, 0, 0)))) (e_T 32 (e_L 32 (0, ei_goto 2, 0, 0)) (e_T 35 (e_L 35 (0, ei_push (0, (-1)) 36, 0, 0)) (e_L 36 (1, e_nof, 1, 0)))))))
set_option maxRecDepth 20000 in
set_option maxHeartbeats 4000000 in
theorem te_135_0_ok : ∀ pc, e_EOq eft cls elay eI n_135 pc (te_135_0 pc) :=
  (e_Tok2
  (e_Tok2
  (e_Tok2
  (e_Tok2
  (e_Lok (ps_iconst_0 (x_dk dn_135_0_0_ok 0 rfl)))
  (e_Lok (e_st (I := eI) (er_istore_n (i := 2) (x_dk dn_135_0_0_ok 1 rfl) (by decide +kernel)) nx_stor)))
  (e_Tok2
  (e_Lok (ld_iload_n_2 (x_dk dn_135_0_0_ok 2 rfl)))
  (e_Tok2
  (e_Lok (ld_aload_n_0 (x_dk dn_135_0_0_ok 3 rfl)))
  (e_Lok (lk_8_21g ho_135 (x_dk dn_135_0_0_ok 4 rfl))))))
  (e_Tok2
  (e_Tok2
  (e_Lok (lk_8_143g ho_135 (x_dk dn_135_0_0_ok 5 rfl)))
  (e_Lok (e_st (I := eI) (er_icmpge (off := 25) (tg := 35) (x_dk dn_135_0_0_ok 6 rfl) (by decide)) nx_if2)))
  (e_Tok2
  (e_Lok (ld_aload_n_0 (x_dk dn_135_0_0_ok 7 rfl)))
  (e_Tok2
  (e_Lok (ld_aload_n_0 (x_dk dn_135_0_0_ok 8 rfl)))
  (e_Lok (lk_8_29g ho_135 (x_dk dn_135_0_0_ok 9 rfl)))))))
  (e_Tok2
  (e_Tok2
  (e_Tok2
  (e_Lok (ld_iload_n_2 (x_dk dn_135_0_0_ok 10 rfl)))
  (e_Lok (sm_iaload (x_dk dn_135_0_0_ok 11 rfl))))
  (e_Tok2
  (e_Lok (ld_iload_n_1 (x_dk dn_135_0_0_ok 12 rfl)))
  (e_Tok2
  (e_Lok (lk_8_146 ho_135 (x_dk dn_135_0_0_ok 13 rfl)))
  (e_Lok (e_st (I := eI) (er_ifeq (off := 5) (tg := 29) (x_dk dn_135_0_0_ok 14 rfl) (by decide)) nx_if1)))))
  (e_Tok2
  (e_Tok2
  (e_Lok (ld_iload_n_2 (x_dk dn_135_0_0_ok 15 rfl)))
  (e_Tok2
  (e_Lok (e_rt (I := eI) (k := 1) ⟨(x_dk dn_135_0_0_ok 16 rfl), rfl⟩))
  (e_Lok (e_st (I := eI) (er_iinc (i := 2) (n := 1) (x_dk dn_135_0_0_ok 17 rfl) (by decide +kernel) (by decide)) nx_inc))))
  (e_Tok2
  (e_Lok (e_st (I := eI) (er_goto (off := (-30)) (tg := 2) (x_dk dn_135_0_0_ok 18 rfl) (by decide)) nx_goto))
  (e_Tok2
  (e_Lok (ps_iconst_m1 (x_dk dn_135_0_0_ok 19 rfl)))
  (e_Lok (e_rt (I := eI) (k := 1) ⟨(x_dk dn_135_0_0_ok 20 rfl), rfl⟩)))))))
def te_135 : Nat → eE := te_135_0
theorem te_135_ok : ∀ pc, e_EOq eft cls elay eI n_135 pc (te_135 pc) := te_135_0_ok
theorem ho_136 : (xm_y n_136).cls = "RobotCellHouse$Reader" := rfl
def dn_136_0_0 : List (Nat × Instr × Nat) := [(0, .iconst 0, 1), (1, .istore_n 2, 1), (2, .iload_n 2, 1), (3, .aload_n 0, 1), (4, .getfield 45, 3), (7, .if_icmp .ge 25, 3), (10, .aload_n 0, 1), (11, .aload_n 0, 1), (12, .getfield 33, 3), (15, .iload_n 2, 1), (16, .iaload, 1), (17, .iload_n 1, 1), (18, .invokevirtual 146, 3), (21, .ifCond .eq 5, 3), (24, .iload_n 2, 1), (25, .ireturn, 1), (26, .iinc 2 1, 3), (29, .goto (-27), 3), (32, .iconst (-1), 1), (33, .ireturn, 1)]
set_option maxRecDepth 20000 in
theorem dn_136_0_0_ok : dn_136_0_0.all (fun q => decide (decode (xm_b n_136) q.1 = .ok (q.2.1, q.2.2))) = true := xa_g_ok (by decide +kernel)
def te_136_0 : Nat → eE := (e_T 15 (e_T 4 (e_T 1 (e_T 0 (e_L 0 (0, ei_push (0, 0) 1, 0, 0)) (e_L 1 (0, ei_stor 2 0 2, 0, 0))) (e_T 2 (e_L 2 (0, ei_load 2 0 3, 0, 0)) (e_T 3 (e_L 3 (0, ei_load 0 2 4, 0, 0)) (e_L 4 (0, ei_getf eft elay 8 14 7, 0, 0))))) (e_T 10 (e_T 7 (e_L 7 (0, ei_if2 3 32 10, 0, 0)) (e_L 10 (0, ei_load 0 2 11, 0, 0))) (e_T 11 (e_L 11 (0, ei_load 0 2 12, 0, 0)) (e_T 12 (e_L 12 (0, ei_getf eft elay 8 16 15, 0, 0)) (e_L 15 (0, ei_load 2 0 16, 0, 0)))))) (e_T 24 (e_T 17 (e_T 16 (e_L 16 (0, ei_ald elay false 17, 0, 0)) (e_L 17 (0, ei_load 1 0 18, 0, 0))) (e_T 18 (e_L 18 (2, e_nof, 134, 3)) (e_T 21 (e_L 21 (0, ei_if1 0 26 24, 0, 0)) (e_L 24 (0, ei_load 2 0 25, 0, 0))))) (e_T 26 (e_T 25 (e_L 25 (1, e_nof, 1, 0)) (e_L 26 (0, ei_inc 2 1 29, 0, 0))) (e_T 29 (e_L 29 (0, ei_goto 2, 0, 0)) (e_T 32 (e_L 32 (0, ei_push (0, (-1)) 33, 0, 0)) (e_L 33 (1, e_nof, 1, 0)))))))
set_option maxRecDepth 20000 in
set_option maxHeartbeats 4000000 in
theorem te_136_0_ok : ∀ pc, e_EOq eft cls elay eI n_136 pc (te_136_0 pc) :=
  (e_Tok2
  (e_Tok2
  (e_Tok2
  (e_Tok2
  (e_Lok (ps_iconst_0 (x_dk dn_136_0_0_ok 0 rfl)))
  (e_Lok (e_st (I := eI) (er_istore_n (i := 2) (x_dk dn_136_0_0_ok 1 rfl) (by decide +kernel)) nx_stor)))
  (e_Tok2
  (e_Lok (ld_iload_n_2 (x_dk dn_136_0_0_ok 2 rfl)))
  (e_Tok2
  (e_Lok (ld_aload_n_0 (x_dk dn_136_0_0_ok 3 rfl)))
  (e_Lok (lk_8_45g ho_136 (x_dk dn_136_0_0_ok 4 rfl))))))
  (e_Tok2
  (e_Tok2
  (e_Lok (e_st (I := eI) (er_icmpge (off := 25) (tg := 32) (x_dk dn_136_0_0_ok 5 rfl) (by decide)) nx_if2))
  (e_Lok (ld_aload_n_0 (x_dk dn_136_0_0_ok 6 rfl))))
  (e_Tok2
  (e_Lok (ld_aload_n_0 (x_dk dn_136_0_0_ok 7 rfl)))
  (e_Tok2
  (e_Lok (lk_8_33g ho_136 (x_dk dn_136_0_0_ok 8 rfl)))
  (e_Lok (ld_iload_n_2 (x_dk dn_136_0_0_ok 9 rfl)))))))
  (e_Tok2
  (e_Tok2
  (e_Tok2
  (e_Lok (sm_iaload (x_dk dn_136_0_0_ok 10 rfl)))
  (e_Lok (ld_iload_n_1 (x_dk dn_136_0_0_ok 11 rfl))))
  (e_Tok2
  (e_Lok (lk_8_146 ho_136 (x_dk dn_136_0_0_ok 12 rfl)))
  (e_Tok2
  (e_Lok (e_st (I := eI) (er_ifeq (off := 5) (tg := 26) (x_dk dn_136_0_0_ok 13 rfl) (by decide)) nx_if1))
  (e_Lok (ld_iload_n_2 (x_dk dn_136_0_0_ok 14 rfl))))))
  (e_Tok2
  (e_Tok2
  (e_Lok (e_rt (I := eI) (k := 1) ⟨(x_dk dn_136_0_0_ok 15 rfl), rfl⟩))
  (e_Lok (e_st (I := eI) (er_iinc (i := 2) (n := 1) (x_dk dn_136_0_0_ok 16 rfl) (by decide +kernel) (by decide)) nx_inc)))
  (e_Tok2
  (e_Lok (e_st (I := eI) (er_goto (off := (-27)) (tg := 2) (x_dk dn_136_0_0_ok 17 rfl) (by decide)) nx_goto))
  (e_Tok2
  (e_Lok (ps_iconst_m1 (x_dk dn_136_0_0_ok 18 rfl)))
  (e_Lok (e_rt (I := eI) (k := 1) ⟨(x_dk dn_136_0_0_ok 19 rfl), rfl⟩)))))))
def te_136 : Nat → eE := te_136_0
theorem te_136_ok : ∀ pc, e_EOq eft cls elay eI n_136 pc (te_136 pc) := te_136_0_ok
theorem ho_137 : (xm_y n_137).cls = "RobotCellHouse$Reader" := rfl
def dn_137_0_0 : List (Nat × Instr × Nat) := [(0, .aload_n 0, 1), (1, .aload_n 0, 1), (2, .getfield 78, 3), (5, .invokevirtual 150, 3), (8, .istore_n 1, 1), (9, .iload_n 1, 1), (10, .ifCond .ge 12, 3), (13, .aload_n 0, 1), (14, .iconst 5, 1), (15, .aload_n 0, 1), (16, .getfield 78, 3), (19, .invokevirtual 153, 3), (22, .iload_n 1, 1), (23, .iconst 0, 1), (24, .invokestatic 157, 3), (27, .ireturn, 1)]
set_option maxRecDepth 20000 in
theorem dn_137_0_0_ok : dn_137_0_0.all (fun q => decide (decode (xm_b n_137) q.1 = .ok (q.2.1, q.2.2))) = true := xa_g_ok (by decide +kernel)
def te_137_0 : Nat → eE := (e_T 13 (e_T 5 (e_T 1 (e_T 0 (e_L 0 (0, ei_load 0 2 1, 0, 0)) (e_L 1 (0, ei_load 0 2 2, 0, 0))) (e_T 2 (e_L 2 (0, ei_getf eft elay 8 6 5, 0, 0)) (e_L 5 (2, e_nof, 135, 2)))) (e_T 9 (e_T 8 (e_L 8 (0, ei_stor 1 0 9, 0, 0)) (e_L 9 (0, ei_load 1 0 10, 0, 0))) (e_T 10 (e_L 10 (0, ei_if1 3 22 13, 0, 0)) (e_L 13 (0, ei_load 0 2 14, 0, 0))))) (e_T 19 (e_T 15 (e_T 14 (e_L 14 (0, ei_push (0, 5) 15, 0, 0)) (e_L 15 (0, ei_load 0 2 16, 0, 0))) (e_T 16 (e_L 16 (0, ei_getf eft elay 8 6 19, 0, 0)) (e_L 19 (2, e_nof, 133, 3)))) (e_T 23 (e_T 22 (e_L 22 (0, ei_load 1 0 23, 0, 0)) (e_L 23 (0, ei_push (0, 0) 24, 0, 0))) (e_T 24 (e_L 24 (0, ei_m2 eM_max 27, 0, 0)) (e_L 27 (1, e_nof, 1, 0))))))
set_option maxRecDepth 20000 in
set_option maxHeartbeats 4000000 in
theorem te_137_0_ok : ∀ pc, e_EOq eft cls elay eI n_137 pc (te_137_0 pc) :=
  (e_Tok2
  (e_Tok2
  (e_Tok2
  (e_Tok2
  (e_Lok (ld_aload_n_0 (x_dk dn_137_0_0_ok 0 rfl)))
  (e_Lok (ld_aload_n_0 (x_dk dn_137_0_0_ok 1 rfl))))
  (e_Tok2
  (e_Lok (lk_8_78g ho_137 (x_dk dn_137_0_0_ok 2 rfl)))
  (e_Lok (lk_8_150 ho_137 (x_dk dn_137_0_0_ok 3 rfl)))))
  (e_Tok2
  (e_Tok2
  (e_Lok (e_st (I := eI) (er_istore_n (i := 1) (x_dk dn_137_0_0_ok 4 rfl) (by decide +kernel)) nx_stor))
  (e_Lok (ld_iload_n_1 (x_dk dn_137_0_0_ok 5 rfl))))
  (e_Tok2
  (e_Lok (e_st (I := eI) (er_ifge (off := 12) (tg := 22) (x_dk dn_137_0_0_ok 6 rfl) (by decide)) nx_if1))
  (e_Lok (ld_aload_n_0 (x_dk dn_137_0_0_ok 7 rfl))))))
  (e_Tok2
  (e_Tok2
  (e_Tok2
  (e_Lok (ps_iconst_5 (x_dk dn_137_0_0_ok 8 rfl)))
  (e_Lok (ld_aload_n_0 (x_dk dn_137_0_0_ok 9 rfl))))
  (e_Tok2
  (e_Lok (lk_8_78g ho_137 (x_dk dn_137_0_0_ok 10 rfl)))
  (e_Lok (lk_8_153 ho_137 (x_dk dn_137_0_0_ok 11 rfl)))))
  (e_Tok2
  (e_Tok2
  (e_Lok (ld_iload_n_1 (x_dk dn_137_0_0_ok 12 rfl)))
  (e_Lok (ps_iconst_0 (x_dk dn_137_0_0_ok 13 rfl))))
  (e_Tok2
  (e_Lok (e_st (I := eI) (er_max (ix := 157) (in_t6 (List.mem_of_getElem? (i := 56) rfl) rfl) (in_t5 (List.mem_of_getElem? (i := 184) rfl) rfl) (in_t1 (List.mem_of_getElem? (i := 15) rfl) rfl) (in_t5 (List.mem_of_getElem? (i := 185) rfl) rfl) (x_dk dn_137_0_0_ok 14 rfl)) nx_m2))
  (e_Lok (e_rt (I := eI) (k := 1) ⟨(x_dk dn_137_0_0_ok 15 rfl), rfl⟩))))))
def te_137 : Nat → eE := te_137_0
theorem te_137_ok : ∀ pc, e_EOq eft cls elay eI n_137 pc (te_137 pc) := te_137_0_ok
theorem ho_138 : (xm_y n_138).cls = "RobotCellHouse$Reader" := rfl
def dn_138_0_0 : List (Nat × Instr × Nat) := [(0, .aload_n 0, 1), (1, .getfield 21, 3), (4, .aload_n 0, 1), (5, .getfield 45, 3), (8, .bipush 32, 2), (10, .invokestatic 161, 3), (13, .putfield 163, 3), (16, .iconst 0, 1), (17, .istore_n 1, 1), (18, .iload_n 1, 1), (19, .aload_n 0, 1), (20, .getfield 21, 3), (23, .getfield 164, 3), (26, .if_icmp .ge 86, 3), (29, .aload_n 0, 1), (30, .getfield 21, 3), (33, .iload_n 1, 1), (34, .invokevirtual 165, 3), (37, .istore_n 2, 1), (38, .iload_n 2, 1), (39, .bipush 33, 2), (41, .if_icmp .eq 18, 3), (44, .iload_n 2, 1), (45, .bipush 34, 2), (47, .if_icmp .eq 12, 3)]
set_option maxRecDepth 20000 in
theorem dn_138_0_0_ok : dn_138_0_0.all (fun q => decide (decode (xm_b n_138) q.1 = .ok (q.2.1, q.2.2))) = true := xa_g_ok (by decide +kernel)
def dn_138_0_1 : List (Nat × Instr × Nat) := [(50, .iload_n 2, 1), (51, .bipush 39, 2), (53, .if_icmp .eq 6, 3), (56, .goto 50, 3), (59, .aload_n 0, 1), (60, .aload_n 0, 1), (61, .getfield 21, 3), (64, .iload_n 1, 1), (65, .invokevirtual 168, 3), (68, .invokevirtual 171, 3), (71, .istore_n 3, 1), (72, .iload_n 3, 1), (73, .ifCond .ge 19, 3), (76, .aload_n 0, 1), (77, .iconst 5, 1), (78, .aload_n 0, 1), (79, .getfield 21, 3), (82, .iload_n 1, 1), (83, .invokevirtual 168, 3), (86, .invokevirtual 153, 3), (89, .goto 17, 3), (92, .aload_n 0, 1), (93, .getfield 21, 3), (96, .iload_n 1, 1), (97, .iload_n 3, 1)]
set_option maxRecDepth 20000 in
theorem dn_138_0_1_ok : dn_138_0_1.all (fun q => decide (decode (xm_b n_138) q.1 = .ok (q.2.1, q.2.2))) = true := xa_g_ok (by decide +kernel)
def dn_138_0_2 : List (Nat × Instr × Nat) := [(98, .bipush 31, 2), (100, .invokestatic 161, 3), (103, .invokevirtual 174, 3), (106, .iinc 1 1, 3), (109, .goto (-91), 3), (112, .return_, 1)]
set_option maxRecDepth 20000 in
theorem dn_138_0_2_ok : dn_138_0_2.all (fun q => decide (decode (xm_b n_138) q.1 = .ok (q.2.1, q.2.2))) = true := xa_g_ok (by decide +kernel)
def te_138_0 : Nat → eE := (e_T 26 (e_T 13 (e_T 4 (e_T 0 (e_L 0 (0, ei_load 0 2 1, 0, 0)) (e_T 1 (e_L 1 (0, ei_getf eft elay 8 3 4, 0, 0)) (e_L 4 (0, ei_load 0 2 5, 0, 0)))) (e_T 8 (e_T 5 (e_L 5 (0, ei_getf eft elay 8 14 8, 0, 0)) (e_L 8 (0, ei_push (0, 32) 10, 0, 0))) (e_T 10 (e_L 10 (0, ei_m2 eM_min 13, 0, 0)) (e_L 13 (0, ei_putf eft elay 1 1 0 16, 0, 0))))) (e_T 18 (e_T 16 (e_L 16 (0, ei_push (0, 0) 17, 0, 0)) (e_T 17 (e_L 17 (0, ei_stor 1 0 18, 0, 0)) (e_L 18 (0, ei_load 1 0 19, 0, 0)))) (e_T 20 (e_T 19 (e_L 19 (0, ei_load 0 2 20, 0, 0)) (e_L 20 (0, ei_getf eft elay 8 3 23, 0, 0))) (e_T 23 (e_L 23 (0, ei_getf eft elay 1 0 26, 0, 0)) (e_L 26 (0, ei_if2 3 112 29, 0, 0)))))) (e_T 39 (e_T 33 (e_T 29 (e_L 29 (0, ei_load 0 2 30, 0, 0)) (e_T 30 (e_L 30 (0, ei_getf eft elay 8 3 33, 0, 0)) (e_L 33 (0, ei_load 1 0 34, 0, 0)))) (e_T 37 (e_T 34 (e_L 34 (2, e_nof, 23, 2)) (e_L 37 (0, ei_stor 2 0 38, 0, 0))) (e_T 38 (e_L 38 (0, ei_load 2 0 39, 0, 0)) (e_L 39 (0, ei_push (0, 33) 41, 0, 0))))) (e_T 45 (e_T 41 (e_L 41 (0, ei_if2 0 59 44, 0, 0)) (e_T 44 (e_L 44 (0, ei_load 2 0 45, 0, 0)) (e_L 45 (0, ei_push (0, 34) 47, 0, 0)))) (e_T 50 (e_T 47 (e_L 47 (0, ei_if2 0 59 50, 0, 0)) (e_L 50 (0, ei_load 2 0 51, 0, 0))) (e_T 51 (e_L 51 (0, ei_push (0, 39) 53, 0, 0)) (e_L 53 (0, ei_if2 0 59 56, 0, 0)))))))
set_option maxRecDepth 20000 in
set_option maxHeartbeats 4000000 in
theorem te_138_0_ok : ∀ pc, e_EOq eft cls elay eI n_138 pc (te_138_0 pc) :=
  (e_Tok2
  (e_Tok2
  (e_Tok2
  (e_Tok2
  (e_Lok (ld_aload_n_0 (x_dk dn_138_0_0_ok 0 rfl)))
  (e_Tok2
  (e_Lok (lk_8_21g ho_138 (x_dk dn_138_0_0_ok 1 rfl)))
  (e_Lok (ld_aload_n_0 (x_dk dn_138_0_0_ok 2 rfl)))))
  (e_Tok2
  (e_Tok2
  (e_Lok (lk_8_45g ho_138 (x_dk dn_138_0_0_ok 3 rfl)))
  (e_Lok (ps_bipush_32 (x_dk dn_138_0_0_ok 4 rfl))))
  (e_Tok2
  (e_Lok (e_st (I := eI) (er_min (ix := 161) (in_t6 (List.mem_of_getElem? (i := 150) rfl) rfl) (in_t5 (List.mem_of_getElem? (i := 187) rfl) rfl) (in_t1 (List.mem_of_getElem? (i := 15) rfl) rfl) (in_t5 (List.mem_of_getElem? (i := 188) rfl) rfl) (x_dk dn_138_0_0_ok 5 rfl)) nx_m2))
  (e_Lok (lk_8_163p ho_138 (x_dk dn_138_0_0_ok 6 rfl))))))
  (e_Tok2
  (e_Tok2
  (e_Lok (ps_iconst_0 (x_dk dn_138_0_0_ok 7 rfl)))
  (e_Tok2
  (e_Lok (e_st (I := eI) (er_istore_n (i := 1) (x_dk dn_138_0_0_ok 8 rfl) (by decide +kernel)) nx_stor))
  (e_Lok (ld_iload_n_1 (x_dk dn_138_0_0_ok 9 rfl)))))
  (e_Tok2
  (e_Tok2
  (e_Lok (ld_aload_n_0 (x_dk dn_138_0_0_ok 10 rfl)))
  (e_Lok (lk_8_21g ho_138 (x_dk dn_138_0_0_ok 11 rfl))))
  (e_Tok2
  (e_Lok (lk_8_164g ho_138 (x_dk dn_138_0_0_ok 12 rfl)))
  (e_Lok (e_st (I := eI) (er_icmpge (off := 86) (tg := 112) (x_dk dn_138_0_0_ok 13 rfl) (by decide)) nx_if2))))))
  (e_Tok2
  (e_Tok2
  (e_Tok2
  (e_Lok (ld_aload_n_0 (x_dk dn_138_0_0_ok 14 rfl)))
  (e_Tok2
  (e_Lok (lk_8_21g ho_138 (x_dk dn_138_0_0_ok 15 rfl)))
  (e_Lok (ld_iload_n_1 (x_dk dn_138_0_0_ok 16 rfl)))))
  (e_Tok2
  (e_Tok2
  (e_Lok (lk_8_165 ho_138 (x_dk dn_138_0_0_ok 17 rfl)))
  (e_Lok (e_st (I := eI) (er_istore_n (i := 2) (x_dk dn_138_0_0_ok 18 rfl) (by decide +kernel)) nx_stor)))
  (e_Tok2
  (e_Lok (ld_iload_n_2 (x_dk dn_138_0_0_ok 19 rfl)))
  (e_Lok (ps_bipush_33 (x_dk dn_138_0_0_ok 20 rfl))))))
  (e_Tok2
  (e_Tok2
  (e_Lok (e_st (I := eI) (er_icmpeq (off := 18) (tg := 59) (x_dk dn_138_0_0_ok 21 rfl) (by decide)) nx_if2))
  (e_Tok2
  (e_Lok (ld_iload_n_2 (x_dk dn_138_0_0_ok 22 rfl)))
  (e_Lok (ps_bipush_34 (x_dk dn_138_0_0_ok 23 rfl)))))
  (e_Tok2
  (e_Tok2
  (e_Lok (e_st (I := eI) (er_icmpeq (off := 12) (tg := 59) (x_dk dn_138_0_0_ok 24 rfl) (by decide)) nx_if2))
  (e_Lok (ld_iload_n_2 (x_dk dn_138_0_1_ok 0 rfl))))
  (e_Tok2
  (e_Lok (ps_bipush_39 (x_dk dn_138_0_1_ok 1 rfl)))
  (e_Lok (e_st (I := eI) (er_icmpeq (off := 6) (tg := 59) (x_dk dn_138_0_1_ok 2 rfl) (by decide)) nx_if2)))))))
def te_138_28 : Nat → eE := (e_T 79 (e_T 68 (e_T 60 (e_T 56 (e_L 56 (0, ei_goto 106, 0, 0)) (e_T 59 (e_L 59 (0, ei_load 0 2 60, 0, 0)) (e_L 60 (0, ei_load 0 2 61, 0, 0)))) (e_T 64 (e_T 61 (e_L 61 (0, ei_getf eft elay 8 3 64, 0, 0)) (e_L 64 (0, ei_load 1 0 65, 0, 0))) (e_T 65 (e_L 65 (2, e_nof, 24, 2)) (e_L 68 (2, e_nof, 136, 2))))) (e_T 73 (e_T 71 (e_L 71 (0, ei_stor 3 0 72, 0, 0)) (e_T 72 (e_L 72 (0, ei_load 3 0 73, 0, 0)) (e_L 73 (0, ei_if1 3 92 76, 0, 0)))) (e_T 77 (e_T 76 (e_L 76 (0, ei_load 0 2 77, 0, 0)) (e_L 77 (0, ei_push (0, 5) 78, 0, 0))) (e_T 78 (e_L 78 (0, ei_load 0 2 79, 0, 0)) (e_L 79 (0, ei_getf eft elay 8 3 82, 0, 0)))))) (e_T 96 (e_T 86 (e_T 82 (e_L 82 (0, ei_load 1 0 83, 0, 0)) (e_T 83 (e_L 83 (2, e_nof, 24, 2)) (e_L 86 (2, e_nof, 133, 3)))) (e_T 92 (e_T 89 (e_L 89 (0, ei_goto 106, 0, 0)) (e_L 92 (0, ei_load 0 2 93, 0, 0))) (e_T 93 (e_L 93 (0, ei_getf eft elay 8 3 96, 0, 0)) (e_L 96 (0, ei_load 1 0 97, 0, 0))))) (e_T 100 (e_T 97 (e_L 97 (0, ei_load 3 0 98, 0, 0)) (e_T 98 (e_L 98 (0, ei_push (0, 31) 100, 0, 0)) (e_L 100 (0, ei_m2 eM_min 103, 0, 0)))) (e_T 106 (e_T 103 (e_L 103 (2, e_nof, 22, 3)) (e_L 106 (0, ei_inc 1 1 109, 0, 0))) (e_T 109 (e_L 109 (0, ei_goto 18, 0, 0)) (e_L 112 (1, e_nof, 0, 0)))))))
set_option maxRecDepth 20000 in
set_option maxHeartbeats 4000000 in
theorem te_138_28_ok : ∀ pc, e_EOq eft cls elay eI n_138 pc (te_138_28 pc) :=
  (e_Tok2
  (e_Tok2
  (e_Tok2
  (e_Tok2
  (e_Lok (e_st (I := eI) (er_goto (off := 50) (tg := 106) (x_dk dn_138_0_1_ok 3 rfl) (by decide)) nx_goto))
  (e_Tok2
  (e_Lok (ld_aload_n_0 (x_dk dn_138_0_1_ok 4 rfl)))
  (e_Lok (ld_aload_n_0 (x_dk dn_138_0_1_ok 5 rfl)))))
  (e_Tok2
  (e_Tok2
  (e_Lok (lk_8_21g ho_138 (x_dk dn_138_0_1_ok 6 rfl)))
  (e_Lok (ld_iload_n_1 (x_dk dn_138_0_1_ok 7 rfl))))
  (e_Tok2
  (e_Lok (lk_8_168 ho_138 (x_dk dn_138_0_1_ok 8 rfl)))
  (e_Lok (lk_8_171 ho_138 (x_dk dn_138_0_1_ok 9 rfl))))))
  (e_Tok2
  (e_Tok2
  (e_Lok (e_st (I := eI) (er_istore_n (i := 3) (x_dk dn_138_0_1_ok 10 rfl) (by decide +kernel)) nx_stor))
  (e_Tok2
  (e_Lok (ld_iload_n_3 (x_dk dn_138_0_1_ok 11 rfl)))
  (e_Lok (e_st (I := eI) (er_ifge (off := 19) (tg := 92) (x_dk dn_138_0_1_ok 12 rfl) (by decide)) nx_if1))))
  (e_Tok2
  (e_Tok2
  (e_Lok (ld_aload_n_0 (x_dk dn_138_0_1_ok 13 rfl)))
  (e_Lok (ps_iconst_5 (x_dk dn_138_0_1_ok 14 rfl))))
  (e_Tok2
  (e_Lok (ld_aload_n_0 (x_dk dn_138_0_1_ok 15 rfl)))
  (e_Lok (lk_8_21g ho_138 (x_dk dn_138_0_1_ok 16 rfl)))))))
  (e_Tok2
  (e_Tok2
  (e_Tok2
  (e_Lok (ld_iload_n_1 (x_dk dn_138_0_1_ok 17 rfl)))
  (e_Tok2
  (e_Lok (lk_8_168 ho_138 (x_dk dn_138_0_1_ok 18 rfl)))
  (e_Lok (lk_8_153 ho_138 (x_dk dn_138_0_1_ok 19 rfl)))))
  (e_Tok2
  (e_Tok2
  (e_Lok (e_st (I := eI) (er_goto (off := 17) (tg := 106) (x_dk dn_138_0_1_ok 20 rfl) (by decide)) nx_goto))
  (e_Lok (ld_aload_n_0 (x_dk dn_138_0_1_ok 21 rfl))))
  (e_Tok2
  (e_Lok (lk_8_21g ho_138 (x_dk dn_138_0_1_ok 22 rfl)))
  (e_Lok (ld_iload_n_1 (x_dk dn_138_0_1_ok 23 rfl))))))
  (e_Tok2
  (e_Tok2
  (e_Lok (ld_iload_n_3 (x_dk dn_138_0_1_ok 24 rfl)))
  (e_Tok2
  (e_Lok (ps_bipush_31 (x_dk dn_138_0_2_ok 0 rfl)))
  (e_Lok (e_st (I := eI) (er_min (ix := 161) (in_t6 (List.mem_of_getElem? (i := 150) rfl) rfl) (in_t5 (List.mem_of_getElem? (i := 187) rfl) rfl) (in_t1 (List.mem_of_getElem? (i := 15) rfl) rfl) (in_t5 (List.mem_of_getElem? (i := 188) rfl) rfl) (x_dk dn_138_0_2_ok 1 rfl)) nx_m2))))
  (e_Tok2
  (e_Tok2
  (e_Lok (lk_8_174 ho_138 (x_dk dn_138_0_2_ok 2 rfl)))
  (e_Lok (e_st (I := eI) (er_iinc (i := 1) (n := 1) (x_dk dn_138_0_2_ok 3 rfl) (by decide +kernel) (by decide)) nx_inc)))
  (e_Tok2
  (e_Lok (e_st (I := eI) (er_goto (off := (-91)) (tg := 18) (x_dk dn_138_0_2_ok 4 rfl) (by decide)) nx_goto))
  (e_Lok (e_rt (I := eI) (k := 0) ⟨(x_dk dn_138_0_2_ok 5 rfl), rfl⟩)))))))
def te_138 : Nat → eE := (e_T 53 te_138_0 te_138_28)
theorem te_138_ok : ∀ pc, e_EOq eft cls elay eI n_138 pc (te_138 pc) := (e_Tok2 (te_138_0_ok) (te_138_28_ok))
theorem ho_139 : (xm_y n_139).cls = "RobotCellHouse$Reader" := rfl
def dn_139_0_0 : List (Nat × Instr × Nat) := [(0, .aload_n 0, 1), (1, .aload_n 0, 1), (2, .getfield 78, 3), (5, .invokevirtual 150, 3), (8, .ifCond .ge 14, 3), (11, .aload_n 0, 1), (12, .aload_n 0, 1), (13, .getfield 78, 3), (16, .invokevirtual 171, 3), (19, .ifCond .lt 12, 3), (22, .aload_n 0, 1), (23, .iconst 4, 1), (24, .aload_n 0, 1), (25, .getfield 78, 3), (28, .invokevirtual 153, 3), (31, .return_, 1)]
set_option maxRecDepth 20000 in
theorem dn_139_0_0_ok : dn_139_0_0.all (fun q => decide (decode (xm_b n_139) q.1 = .ok (q.2.1, q.2.2))) = true := xa_g_ok (by decide +kernel)
def te_139_0 : Nat → eE := (e_T 13 (e_T 5 (e_T 1 (e_T 0 (e_L 0 (0, ei_load 0 2 1, 0, 0)) (e_L 1 (0, ei_load 0 2 2, 0, 0))) (e_T 2 (e_L 2 (0, ei_getf eft elay 8 6 5, 0, 0)) (e_L 5 (2, e_nof, 135, 2)))) (e_T 11 (e_T 8 (e_L 8 (0, ei_if1 3 22 11, 0, 0)) (e_L 11 (0, ei_load 0 2 12, 0, 0))) (e_T 12 (e_L 12 (0, ei_load 0 2 13, 0, 0)) (e_L 13 (0, ei_getf eft elay 8 6 16, 0, 0))))) (e_T 23 (e_T 19 (e_T 16 (e_L 16 (2, e_nof, 136, 2)) (e_L 19 (0, ei_if1 2 31 22, 0, 0))) (e_T 22 (e_L 22 (0, ei_load 0 2 23, 0, 0)) (e_L 23 (0, ei_push (0, 4) 24, 0, 0)))) (e_T 25 (e_T 24 (e_L 24 (0, ei_load 0 2 25, 0, 0)) (e_L 25 (0, ei_getf eft elay 8 6 28, 0, 0))) (e_T 28 (e_L 28 (2, e_nof, 133, 3)) (e_L 31 (1, e_nof, 0, 0))))))
set_option maxRecDepth 20000 in
set_option maxHeartbeats 4000000 in
theorem te_139_0_ok : ∀ pc, e_EOq eft cls elay eI n_139 pc (te_139_0 pc) :=
  (e_Tok2
  (e_Tok2
  (e_Tok2
  (e_Tok2
  (e_Lok (ld_aload_n_0 (x_dk dn_139_0_0_ok 0 rfl)))
  (e_Lok (ld_aload_n_0 (x_dk dn_139_0_0_ok 1 rfl))))
  (e_Tok2
  (e_Lok (lk_8_78g ho_139 (x_dk dn_139_0_0_ok 2 rfl)))
  (e_Lok (lk_8_150 ho_139 (x_dk dn_139_0_0_ok 3 rfl)))))
  (e_Tok2
  (e_Tok2
  (e_Lok (e_st (I := eI) (er_ifge (off := 14) (tg := 22) (x_dk dn_139_0_0_ok 4 rfl) (by decide)) nx_if1))
  (e_Lok (ld_aload_n_0 (x_dk dn_139_0_0_ok 5 rfl))))
  (e_Tok2
  (e_Lok (ld_aload_n_0 (x_dk dn_139_0_0_ok 6 rfl)))
  (e_Lok (lk_8_78g ho_139 (x_dk dn_139_0_0_ok 7 rfl))))))
  (e_Tok2
  (e_Tok2
  (e_Tok2
  (e_Lok (lk_8_171 ho_139 (x_dk dn_139_0_0_ok 8 rfl)))
  (e_Lok (e_st (I := eI) (er_iflt (off := 12) (tg := 31) (x_dk dn_139_0_0_ok 9 rfl) (by decide)) nx_if1)))
  (e_Tok2
  (e_Lok (ld_aload_n_0 (x_dk dn_139_0_0_ok 10 rfl)))
  (e_Lok (ps_iconst_4 (x_dk dn_139_0_0_ok 11 rfl)))))
  (e_Tok2
  (e_Tok2
  (e_Lok (ld_aload_n_0 (x_dk dn_139_0_0_ok 12 rfl)))
  (e_Lok (lk_8_78g ho_139 (x_dk dn_139_0_0_ok 13 rfl))))
  (e_Tok2
  (e_Lok (lk_8_153 ho_139 (x_dk dn_139_0_0_ok 14 rfl)))
  (e_Lok (e_rt (I := eI) (k := 0) ⟨(x_dk dn_139_0_0_ok 15 rfl), rfl⟩))))))
def te_139 : Nat → eE := te_139_0
theorem te_139_ok : ∀ pc, e_EOq eft cls elay eI n_139 pc (te_139 pc) := te_139_0_ok
theorem ho_140 : (xm_y n_140).cls = "RobotCellHouse$Reader" := rfl
def dn_140_0_0 : List (Nat × Instr × Nat) := [(0, .aload_n 0, 1), (1, .invokevirtual 54, 3), (4, .aload_n 0, 1), (5, .invokevirtual 177, 3), (8, .iconst 0, 1), (9, .istore_n 1, 1), (10, .iload_n 1, 1), (11, .sipush 4000, 3), (14, .if_icmp .ge 26, 3), (17, .aload_n 0, 1), (18, .getfield 57, 3), (21, .bipush 18, 2), (23, .if_icmp .ne 17, 3), (26, .aload_n 0, 1), (27, .invokevirtual 54, 3), (30, .aload_n 0, 1), (31, .invokevirtual 177, 3), (34, .iinc 1 1, 3), (37, .goto (-27), 3), (40, .aload_n 0, 1), (41, .bipush 19, 2), (43, .invokevirtual 180, 3), (46, .return_, 1)]
set_option maxRecDepth 20000 in
theorem dn_140_0_0_ok : dn_140_0_0.all (fun q => decide (decode (xm_b n_140) q.1 = .ok (q.2.1, q.2.2))) = true := xa_g_ok (by decide +kernel)
def te_140_0 : Nat → eE := (e_T 18 (e_T 8 (e_T 1 (e_T 0 (e_L 0 (0, ei_load 0 2 1, 0, 0)) (e_L 1 (2, e_nof, 123, 1))) (e_T 4 (e_L 4 (0, ei_load 0 2 5, 0, 0)) (e_T 5 (e_L 5 (2, e_nof, 141, 1)) (e_L 8 (0, ei_push (0, 0) 9, 0, 0))))) (e_T 11 (e_T 9 (e_L 9 (0, ei_stor 1 0 10, 0, 0)) (e_T 10 (e_L 10 (0, ei_load 1 0 11, 0, 0)) (e_L 11 (0, ei_push (0, 4000) 14, 0, 0)))) (e_T 14 (e_L 14 (0, ei_if2 3 40 17, 0, 0)) (e_T 17 (e_L 17 (0, ei_load 0 2 18, 0, 0)) (e_L 18 (0, ei_getf eft elay 8 5 21, 0, 0)))))) (e_T 31 (e_T 26 (e_T 21 (e_L 21 (0, ei_push (0, 18) 23, 0, 0)) (e_T 23 (e_L 23 (0, ei_if2 1 40 26, 0, 0)) (e_L 26 (0, ei_load 0 2 27, 0, 0)))) (e_T 27 (e_L 27 (2, e_nof, 123, 1)) (e_T 30 (e_L 30 (0, ei_load 0 2 31, 0, 0)) (e_L 31 (2, e_nof, 141, 1))))) (e_T 40 (e_T 34 (e_L 34 (0, ei_inc 1 1 37, 0, 0)) (e_T 37 (e_L 37 (0, ei_goto 10, 0, 0)) (e_L 40 (0, ei_load 0 2 41, 0, 0)))) (e_T 41 (e_L 41 (0, ei_push (0, 19) 43, 0, 0)) (e_T 43 (e_L 43 (2, e_nof, 129, 2)) (e_L 46 (1, e_nof, 0, 0)))))))
set_option maxRecDepth 20000 in
set_option maxHeartbeats 4000000 in
theorem te_140_0_ok : ∀ pc, e_EOq eft cls elay eI n_140 pc (te_140_0 pc) :=
  (e_Tok2
  (e_Tok2
  (e_Tok2
  (e_Tok2
  (e_Lok (ld_aload_n_0 (x_dk dn_140_0_0_ok 0 rfl)))
  (e_Lok (lk_8_54 ho_140 (x_dk dn_140_0_0_ok 1 rfl))))
  (e_Tok2
  (e_Lok (ld_aload_n_0 (x_dk dn_140_0_0_ok 2 rfl)))
  (e_Tok2
  (e_Lok (lk_8_177 ho_140 (x_dk dn_140_0_0_ok 3 rfl)))
  (e_Lok (ps_iconst_0 (x_dk dn_140_0_0_ok 4 rfl))))))
  (e_Tok2
  (e_Tok2
  (e_Lok (e_st (I := eI) (er_istore_n (i := 1) (x_dk dn_140_0_0_ok 5 rfl) (by decide +kernel)) nx_stor))
  (e_Tok2
  (e_Lok (ld_iload_n_1 (x_dk dn_140_0_0_ok 6 rfl)))
  (e_Lok (ps_sipush_4000 (x_dk dn_140_0_0_ok 7 rfl)))))
  (e_Tok2
  (e_Lok (e_st (I := eI) (er_icmpge (off := 26) (tg := 40) (x_dk dn_140_0_0_ok 8 rfl) (by decide)) nx_if2))
  (e_Tok2
  (e_Lok (ld_aload_n_0 (x_dk dn_140_0_0_ok 9 rfl)))
  (e_Lok (lk_8_57g ho_140 (x_dk dn_140_0_0_ok 10 rfl)))))))
  (e_Tok2
  (e_Tok2
  (e_Tok2
  (e_Lok (ps_bipush_18 (x_dk dn_140_0_0_ok 11 rfl)))
  (e_Tok2
  (e_Lok (e_st (I := eI) (er_icmpne (off := 17) (tg := 40) (x_dk dn_140_0_0_ok 12 rfl) (by decide)) nx_if2))
  (e_Lok (ld_aload_n_0 (x_dk dn_140_0_0_ok 13 rfl)))))
  (e_Tok2
  (e_Lok (lk_8_54 ho_140 (x_dk dn_140_0_0_ok 14 rfl)))
  (e_Tok2
  (e_Lok (ld_aload_n_0 (x_dk dn_140_0_0_ok 15 rfl)))
  (e_Lok (lk_8_177 ho_140 (x_dk dn_140_0_0_ok 16 rfl))))))
  (e_Tok2
  (e_Tok2
  (e_Lok (e_st (I := eI) (er_iinc (i := 1) (n := 1) (x_dk dn_140_0_0_ok 17 rfl) (by decide +kernel) (by decide)) nx_inc))
  (e_Tok2
  (e_Lok (e_st (I := eI) (er_goto (off := (-27)) (tg := 10) (x_dk dn_140_0_0_ok 18 rfl) (by decide)) nx_goto))
  (e_Lok (ld_aload_n_0 (x_dk dn_140_0_0_ok 19 rfl)))))
  (e_Tok2
  (e_Lok (ps_bipush_19 (x_dk dn_140_0_0_ok 20 rfl)))
  (e_Tok2
  (e_Lok (lk_8_180 ho_140 (x_dk dn_140_0_0_ok 21 rfl)))
  (e_Lok (e_rt (I := eI) (k := 0) ⟨(x_dk dn_140_0_0_ok 22 rfl), rfl⟩)))))))
def te_140 : Nat → eE := te_140_0
theorem te_140_ok : ∀ pc, e_EOq eft cls elay eI n_140 pc (te_140 pc) := te_140_0_ok
theorem ho_141 : (xm_y n_141).cls = "RobotCellHouse$Reader" := rfl
def dn_141_0_0 : List (Nat × Instr × Nat) := [(0, .aload_n 0, 1), (1, .getfield 57, 3), (4, .iconst 1, 1), (5, .if_icmp .ne 61, 3), (8, .aload_n 0, 1), (9, .invokevirtual 183, 3), (12, .aload_n 0, 1), (13, .getfield 21, 3), (16, .getfield 143, 3), (19, .bipush 32, 2), (21, .if_icmp .ge 35, 3), (24, .aload_n 0, 1), (25, .getfield 29, 3), (28, .aload_n 0, 1), (29, .getfield 21, 3), (32, .getfield 143, 3), (35, .aload_n 0, 1), (36, .getfield 78, 3), (39, .iastore, 1), (40, .aload_n 0, 1), (41, .getfield 21, 3), (44, .dup, 1), (45, .getfield 143, 3), (48, .iconst 1, 1), (49, .iadd, 1)]
set_option maxRecDepth 20000 in
theorem dn_141_0_0_ok : dn_141_0_0.all (fun q => decide (decode (xm_b n_141) q.1 = .ok (q.2.1, q.2.2))) = true := xa_g_ok (by decide +kernel)
def dn_141_0_1 : List (Nat × Instr × Nat) := [(50, .putfield 143, 3), (53, .goto 13, 3), (56, .aload_n 0, 1), (57, .bipush 7, 2), (59, .aload_n 0, 1), (60, .getfield 78, 3), (63, .invokevirtual 153, 3), (66, .aload_n 0, 1), (67, .iconst 1, 1), (68, .invokevirtual 180, 3), (71, .return_, 1)]
set_option maxRecDepth 20000 in
theorem dn_141_0_1_ok : dn_141_0_1.all (fun q => decide (decode (xm_b n_141) q.1 = .ok (q.2.1, q.2.2))) = true := xa_g_ok (by decide +kernel)
def te_141_0 : Nat → eE := (e_T 36 (e_T 16 (e_T 5 (e_T 1 (e_T 0 (e_L 0 (0, ei_load 0 2 1, 0, 0)) (e_L 1 (0, ei_getf eft elay 8 5 4, 0, 0))) (e_T 4 (e_L 4 (0, ei_push (0, 1) 5, 0, 0)) (e_L 5 (0, ei_if2 1 66 8, 0, 0)))) (e_T 9 (e_T 8 (e_L 8 (0, ei_load 0 2 9, 0, 0)) (e_L 9 (2, e_nof, 139, 1))) (e_T 12 (e_L 12 (0, ei_load 0 2 13, 0, 0)) (e_T 13 (e_L 13 (0, ei_getf eft elay 8 3 16, 0, 0)) (e_L 16 (0, ei_getf eft elay 1 2 19, 0, 0)))))) (e_T 25 (e_T 21 (e_T 19 (e_L 19 (0, ei_push (0, 32) 21, 0, 0)) (e_L 21 (0, ei_if2 3 56 24, 0, 0))) (e_T 24 (e_L 24 (0, ei_load 0 2 25, 0, 0)) (e_L 25 (0, ei_getf eft elay 8 15 28, 0, 0)))) (e_T 29 (e_T 28 (e_L 28 (0, ei_load 0 2 29, 0, 0)) (e_L 29 (0, ei_getf eft elay 8 3 32, 0, 0))) (e_T 32 (e_L 32 (0, ei_getf eft elay 1 2 35, 0, 0)) (e_T 35 (e_L 35 (0, ei_load 0 2 36, 0, 0)) (e_L 36 (0, ei_getf eft elay 8 6 39, 0, 0))))))) (e_T 53 (e_T 44 (e_T 40 (e_T 39 (e_L 39 (0, ei_ast elay false 40, 0, 0)) (e_L 40 (0, ei_load 0 2 41, 0, 0))) (e_T 41 (e_L 41 (0, ei_getf eft elay 8 3 44, 0, 0)) (e_L 44 (0, ei_stk ef_dup 45, 0, 0)))) (e_T 48 (e_T 45 (e_L 45 (0, ei_getf eft elay 1 2 48, 0, 0)) (e_L 48 (0, ei_push (0, 1) 49, 0, 0))) (e_T 49 (e_L 49 (0, ei_bin eF_add 50, 0, 0)) (e_T 50 (e_L 50 (0, ei_putf eft elay 1 2 0 53, 0, 0)) (e_L 53 (0, ei_goto 66, 0, 0)))))) (e_T 60 (e_T 57 (e_T 56 (e_L 56 (0, ei_load 0 2 57, 0, 0)) (e_L 57 (0, ei_push (0, 7) 59, 0, 0))) (e_T 59 (e_L 59 (0, ei_load 0 2 60, 0, 0)) (e_L 60 (0, ei_getf eft elay 8 6 63, 0, 0)))) (e_T 66 (e_T 63 (e_L 63 (2, e_nof, 133, 3)) (e_L 66 (0, ei_load 0 2 67, 0, 0))) (e_T 67 (e_L 67 (0, ei_push (0, 1) 68, 0, 0)) (e_T 68 (e_L 68 (2, e_nof, 129, 2)) (e_L 71 (1, e_nof, 0, 0))))))))
set_option maxRecDepth 20000 in
set_option maxHeartbeats 4000000 in
theorem te_141_0_ok : ∀ pc, e_EOq eft cls elay eI n_141 pc (te_141_0 pc) :=
  (e_Tok2
  (e_Tok2
  (e_Tok2
  (e_Tok2
  (e_Tok2
  (e_Lok (ld_aload_n_0 (x_dk dn_141_0_0_ok 0 rfl)))
  (e_Lok (lk_8_57g ho_141 (x_dk dn_141_0_0_ok 1 rfl))))
  (e_Tok2
  (e_Lok (ps_iconst_1 (x_dk dn_141_0_0_ok 2 rfl)))
  (e_Lok (e_st (I := eI) (er_icmpne (off := 61) (tg := 66) (x_dk dn_141_0_0_ok 3 rfl) (by decide)) nx_if2))))
  (e_Tok2
  (e_Tok2
  (e_Lok (ld_aload_n_0 (x_dk dn_141_0_0_ok 4 rfl)))
  (e_Lok (lk_8_183 ho_141 (x_dk dn_141_0_0_ok 5 rfl))))
  (e_Tok2
  (e_Lok (ld_aload_n_0 (x_dk dn_141_0_0_ok 6 rfl)))
  (e_Tok2
  (e_Lok (lk_8_21g ho_141 (x_dk dn_141_0_0_ok 7 rfl)))
  (e_Lok (lk_8_143g ho_141 (x_dk dn_141_0_0_ok 8 rfl)))))))
  (e_Tok2
  (e_Tok2
  (e_Tok2
  (e_Lok (ps_bipush_32 (x_dk dn_141_0_0_ok 9 rfl)))
  (e_Lok (e_st (I := eI) (er_icmpge (off := 35) (tg := 56) (x_dk dn_141_0_0_ok 10 rfl) (by decide)) nx_if2)))
  (e_Tok2
  (e_Lok (ld_aload_n_0 (x_dk dn_141_0_0_ok 11 rfl)))
  (e_Lok (lk_8_29g ho_141 (x_dk dn_141_0_0_ok 12 rfl)))))
  (e_Tok2
  (e_Tok2
  (e_Lok (ld_aload_n_0 (x_dk dn_141_0_0_ok 13 rfl)))
  (e_Lok (lk_8_21g ho_141 (x_dk dn_141_0_0_ok 14 rfl))))
  (e_Tok2
  (e_Lok (lk_8_143g ho_141 (x_dk dn_141_0_0_ok 15 rfl)))
  (e_Tok2
  (e_Lok (ld_aload_n_0 (x_dk dn_141_0_0_ok 16 rfl)))
  (e_Lok (lk_8_78g ho_141 (x_dk dn_141_0_0_ok 17 rfl))))))))
  (e_Tok2
  (e_Tok2
  (e_Tok2
  (e_Tok2
  (e_Lok (sm_iastore (x_dk dn_141_0_0_ok 18 rfl)))
  (e_Lok (ld_aload_n_0 (x_dk dn_141_0_0_ok 19 rfl))))
  (e_Tok2
  (e_Lok (lk_8_21g ho_141 (x_dk dn_141_0_0_ok 20 rfl)))
  (e_Lok (e_st (I := eI) (er_dup (x_dk dn_141_0_0_ok 21 rfl)) (nx_stk bf_dup)))))
  (e_Tok2
  (e_Tok2
  (e_Lok (lk_8_143g ho_141 (x_dk dn_141_0_0_ok 22 rfl)))
  (e_Lok (ps_iconst_1 (x_dk dn_141_0_0_ok 23 rfl))))
  (e_Tok2
  (e_Lok (sm_iadd (x_dk dn_141_0_0_ok 24 rfl)))
  (e_Tok2
  (e_Lok (lk_8_143p ho_141 (x_dk dn_141_0_1_ok 0 rfl)))
  (e_Lok (e_st (I := eI) (er_goto (off := 13) (tg := 66) (x_dk dn_141_0_1_ok 1 rfl) (by decide)) nx_goto))))))
  (e_Tok2
  (e_Tok2
  (e_Tok2
  (e_Lok (ld_aload_n_0 (x_dk dn_141_0_1_ok 2 rfl)))
  (e_Lok (ps_bipush_7 (x_dk dn_141_0_1_ok 3 rfl))))
  (e_Tok2
  (e_Lok (ld_aload_n_0 (x_dk dn_141_0_1_ok 4 rfl)))
  (e_Lok (lk_8_78g ho_141 (x_dk dn_141_0_1_ok 5 rfl)))))
  (e_Tok2
  (e_Tok2
  (e_Lok (lk_8_153 ho_141 (x_dk dn_141_0_1_ok 6 rfl)))
  (e_Lok (ld_aload_n_0 (x_dk dn_141_0_1_ok 7 rfl))))
  (e_Tok2
  (e_Lok (ps_iconst_1 (x_dk dn_141_0_1_ok 8 rfl)))
  (e_Tok2
  (e_Lok (lk_8_180 ho_141 (x_dk dn_141_0_1_ok 9 rfl)))
  (e_Lok (e_rt (I := eI) (k := 0) ⟨(x_dk dn_141_0_1_ok 10 rfl), rfl⟩))))))))
def te_141 : Nat → eE := te_141_0
theorem te_141_ok : ∀ pc, e_EOq eft cls elay eI n_141 pc (te_141 pc) := te_141_0_ok
end
