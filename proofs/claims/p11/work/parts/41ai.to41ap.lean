-- part 41ai
section
noncomputable section
theorem ho_119 : (xm_y n_119).cls = "RobotCellHouse$Reader" := rfl
def dn_119_0_0 : List (Nat × Instr × Nat) := [(0, .aload_n 0, 1), (1, .iconst 0, 1), (2, .putfield 9, 3), (5, .aload_n 0, 1), (6, .iconst (-1), 1), (7, .putfield 15, 3), (10, .aload_n 0, 1), (11, .iconst 0, 1), (12, .putfield 39, 3), (15, .aload_n 0, 1), (16, .iconst 0, 1), (17, .putfield 42, 3), (20, .aload_n 0, 1), (21, .iconst 0, 1), (22, .putfield 45, 3), (25, .aload_n 0, 1), (26, .iconst 0, 1), (27, .putfield 48, 3), (30, .aload_n 0, 1), (31, .getfield 21, 3), (34, .invokevirtual 51, 3), (37, .aload_n 0, 1), (38, .invokevirtual 54, 3), (41, .iconst 0, 1), (42, .istore_n 1, 1)]
set_option maxRecDepth 20000 in
theorem dn_119_0_0_ok : dn_119_0_0.all (fun q => decide (decode (xm_b n_119) q.1 = .ok (q.2.1, q.2.2))) = true := xa_g_ok (by decide +kernel)
def dn_119_0_1 : List (Nat × Instr × Nat) := [(43, .iload_n 1, 1), (44, .sipush 4000, 3), (47, .if_icmp .ge 22, 3), (50, .aload_n 0, 1), (51, .getfield 57, 3), (54, .bipush 21, 2), (56, .if_icmp .ne 13, 3), (59, .aload_n 0, 1), (60, .invokevirtual 60, 3), (63, .iinc 1 1, 3), (66, .goto (-23), 3), (69, .iconst 0, 1), (70, .istore_n 1, 1), (71, .iload_n 1, 1), (72, .sipush 4000, 3), (75, .if_icmp .ge 22, 3), (78, .aload_n 0, 1), (79, .getfield 57, 3), (82, .bipush 22, 2), (84, .if_icmp .ne 13, 3), (87, .aload_n 0, 1), (88, .invokevirtual 63, 3), (91, .iinc 1 1, 3), (94, .goto (-23), 3), (97, .aload_n 0, 1)]
set_option maxRecDepth 20000 in
theorem dn_119_0_1_ok : dn_119_0_1.all (fun q => decide (decode (xm_b n_119) q.1 = .ok (q.2.1, q.2.2))) = true := xa_g_ok (by decide +kernel)
def dn_119_0_2 : List (Nat × Instr × Nat) := [(98, .getfield 57, 3), (101, .ifCond .eq 7, 3), (104, .aload_n 0, 1), (105, .invokevirtual 66, 3), (108, .aload_n 0, 1), (109, .getfield 9, 3), (112, .ifCond .eq 4, 3), (115, .return_, 1), (116, .aload_n 0, 1), (117, .invokevirtual 69, 3), (120, .aload_n 0, 1), (121, .aload_n 0, 1), (122, .getfield 39, 3), (125, .putfield 9, 3), (128, .aload_n 0, 1), (129, .getfield 39, 3), (132, .ifCond .eq 11, 3), (135, .aload_n 0, 1), (136, .aload_n 0, 1), (137, .getfield 72, 3), (140, .putfield 15, 3), (143, .return_, 1)]
set_option maxRecDepth 20000 in
theorem dn_119_0_2_ok : dn_119_0_2.all (fun q => decide (decode (xm_b n_119) q.1 = .ok (q.2.1, q.2.2))) = true := xa_g_ok (by decide +kernel)
def te_119_0 : Nat → eE := (e_T 27 (e_T 12 (e_T 5 (e_T 1 (e_T 0 (e_L 0 (0, ei_load 0 2 1, 0, 0)) (e_L 1 (0, ei_push (0, 0) 2, 0, 0))) (e_T 2 (e_L 2 (0, ei_putf eft elay 8 1 0 5, 0, 0)) (e_L 5 (0, ei_load 0 2 6, 0, 0)))) (e_T 7 (e_T 6 (e_L 6 (0, ei_push (0, (-1)) 7, 0, 0)) (e_L 7 (0, ei_putf eft elay 8 2 0 10, 0, 0))) (e_T 10 (e_L 10 (0, ei_load 0 2 11, 0, 0)) (e_T 11 (e_L 11 (0, ei_push (0, 0) 12, 0, 0)) (e_L 12 (0, ei_putf eft elay 8 9 0 15, 0, 0)))))) (e_T 20 (e_T 16 (e_T 15 (e_L 15 (0, ei_load 0 2 16, 0, 0)) (e_L 16 (0, ei_push (0, 0) 17, 0, 0))) (e_T 17 (e_L 17 (0, ei_putf eft elay 8 11 0 20, 0, 0)) (e_L 20 (0, ei_load 0 2 21, 0, 0)))) (e_T 22 (e_T 21 (e_L 21 (0, ei_push (0, 0) 22, 0, 0)) (e_L 22 (0, ei_putf eft elay 8 14 0 25, 0, 0))) (e_T 25 (e_L 25 (0, ei_load 0 2 26, 0, 0)) (e_T 26 (e_L 26 (0, ei_push (0, 0) 27, 0, 0)) (e_L 27 (0, ei_putf eft elay 8 7 0 30, 0, 0))))))) (e_T 44 (e_T 37 (e_T 31 (e_T 30 (e_L 30 (0, ei_load 0 2 31, 0, 0)) (e_L 31 (0, ei_getf eft elay 8 3 34, 0, 0))) (e_T 34 (e_L 34 (2, e_nof, 20, 1)) (e_L 37 (0, ei_load 0 2 38, 0, 0)))) (e_T 41 (e_T 38 (e_L 38 (2, e_nof, 123, 1)) (e_L 41 (0, ei_push (0, 0) 42, 0, 0))) (e_T 42 (e_L 42 (0, ei_stor 1 0 43, 0, 0)) (e_T 43 (e_L 43 (0, ei_load 1 0 44, 0, 0)) (e_L 44 (0, ei_push (0, 4000) 47, 0, 0)))))) (e_T 54 (e_T 50 (e_T 47 (e_L 47 (0, ei_if2 3 69 50, 0, 0)) (e_L 50 (0, ei_load 0 2 51, 0, 0))) (e_T 51 (e_L 51 (0, ei_getf eft elay 8 5 54, 0, 0)) (e_L 54 (0, ei_push (0, 21) 56, 0, 0)))) (e_T 59 (e_T 56 (e_L 56 (0, ei_if2 1 69 59, 0, 0)) (e_L 59 (0, ei_load 0 2 60, 0, 0))) (e_T 60 (e_L 60 (2, e_nof, 140, 1)) (e_T 63 (e_L 63 (0, ei_inc 1 1 66, 0, 0)) (e_L 66 (0, ei_goto 43, 0, 0))))))))
set_option maxRecDepth 20000 in
set_option maxHeartbeats 4000000 in
theorem te_119_0_ok : ∀ pc, e_EOq eft cls elay eI n_119 pc (te_119_0 pc) :=
  (e_Tok2
  (e_Tok2
  (e_Tok2
  (e_Tok2
  (e_Tok2
  (e_Lok (ld_aload_n_0 (x_dk dn_119_0_0_ok 0 rfl)))
  (e_Lok (ps_iconst_0 (x_dk dn_119_0_0_ok 1 rfl))))
  (e_Tok2
  (e_Lok (lk_8_9p ho_119 (x_dk dn_119_0_0_ok 2 rfl)))
  (e_Lok (ld_aload_n_0 (x_dk dn_119_0_0_ok 3 rfl)))))
  (e_Tok2
  (e_Tok2
  (e_Lok (ps_iconst_m1 (x_dk dn_119_0_0_ok 4 rfl)))
  (e_Lok (lk_8_15p ho_119 (x_dk dn_119_0_0_ok 5 rfl))))
  (e_Tok2
  (e_Lok (ld_aload_n_0 (x_dk dn_119_0_0_ok 6 rfl)))
  (e_Tok2
  (e_Lok (ps_iconst_0 (x_dk dn_119_0_0_ok 7 rfl)))
  (e_Lok (lk_8_39p ho_119 (x_dk dn_119_0_0_ok 8 rfl)))))))
  (e_Tok2
  (e_Tok2
  (e_Tok2
  (e_Lok (ld_aload_n_0 (x_dk dn_119_0_0_ok 9 rfl)))
  (e_Lok (ps_iconst_0 (x_dk dn_119_0_0_ok 10 rfl))))
  (e_Tok2
  (e_Lok (lk_8_42p ho_119 (x_dk dn_119_0_0_ok 11 rfl)))
  (e_Lok (ld_aload_n_0 (x_dk dn_119_0_0_ok 12 rfl)))))
  (e_Tok2
  (e_Tok2
  (e_Lok (ps_iconst_0 (x_dk dn_119_0_0_ok 13 rfl)))
  (e_Lok (lk_8_45p ho_119 (x_dk dn_119_0_0_ok 14 rfl))))
  (e_Tok2
  (e_Lok (ld_aload_n_0 (x_dk dn_119_0_0_ok 15 rfl)))
  (e_Tok2
  (e_Lok (ps_iconst_0 (x_dk dn_119_0_0_ok 16 rfl)))
  (e_Lok (lk_8_48p ho_119 (x_dk dn_119_0_0_ok 17 rfl))))))))
  (e_Tok2
  (e_Tok2
  (e_Tok2
  (e_Tok2
  (e_Lok (ld_aload_n_0 (x_dk dn_119_0_0_ok 18 rfl)))
  (e_Lok (lk_8_21g ho_119 (x_dk dn_119_0_0_ok 19 rfl))))
  (e_Tok2
  (e_Lok (lk_8_51 ho_119 (x_dk dn_119_0_0_ok 20 rfl)))
  (e_Lok (ld_aload_n_0 (x_dk dn_119_0_0_ok 21 rfl)))))
  (e_Tok2
  (e_Tok2
  (e_Lok (lk_8_54 ho_119 (x_dk dn_119_0_0_ok 22 rfl)))
  (e_Lok (ps_iconst_0 (x_dk dn_119_0_0_ok 23 rfl))))
  (e_Tok2
  (e_Lok (e_st (I := eI) (er_istore_n (i := 1) (x_dk dn_119_0_0_ok 24 rfl) (by decide +kernel)) nx_stor))
  (e_Tok2
  (e_Lok (ld_iload_n_1 (x_dk dn_119_0_1_ok 0 rfl)))
  (e_Lok (ps_sipush_4000 (x_dk dn_119_0_1_ok 1 rfl)))))))
  (e_Tok2
  (e_Tok2
  (e_Tok2
  (e_Lok (e_st (I := eI) (er_icmpge (off := 22) (tg := 69) (x_dk dn_119_0_1_ok 2 rfl) (by decide)) nx_if2))
  (e_Lok (ld_aload_n_0 (x_dk dn_119_0_1_ok 3 rfl))))
  (e_Tok2
  (e_Lok (lk_8_57g ho_119 (x_dk dn_119_0_1_ok 4 rfl)))
  (e_Lok (ps_bipush_21 (x_dk dn_119_0_1_ok 5 rfl)))))
  (e_Tok2
  (e_Tok2
  (e_Lok (e_st (I := eI) (er_icmpne (off := 13) (tg := 69) (x_dk dn_119_0_1_ok 6 rfl) (by decide)) nx_if2))
  (e_Lok (ld_aload_n_0 (x_dk dn_119_0_1_ok 7 rfl))))
  (e_Tok2
  (e_Lok (lk_8_60 ho_119 (x_dk dn_119_0_1_ok 8 rfl)))
  (e_Tok2
  (e_Lok (e_st (I := eI) (er_iinc (i := 1) (n := 1) (x_dk dn_119_0_1_ok 9 rfl) (by decide +kernel) (by decide)) nx_inc))
  (e_Lok (e_st (I := eI) (er_goto (off := (-23)) (tg := 43) (x_dk dn_119_0_1_ok 10 rfl) (by decide)) nx_goto))))))))
def te_119_36 : Nat → eE := (e_T 105 (e_T 84 (e_T 72 (e_T 70 (e_T 69 (e_L 69 (0, ei_push (0, 0) 70, 0, 0)) (e_L 70 (0, ei_stor 1 0 71, 0, 0))) (e_T 71 (e_L 71 (0, ei_load 1 0 72, 0, 0)) (e_L 72 (0, ei_push (0, 4000) 75, 0, 0)))) (e_T 78 (e_T 75 (e_L 75 (0, ei_if2 3 97 78, 0, 0)) (e_L 78 (0, ei_load 0 2 79, 0, 0))) (e_T 79 (e_L 79 (0, ei_getf eft elay 8 5 82, 0, 0)) (e_T 82 (e_L 82 (0, ei_push (0, 22) 84, 0, 0)) (e_L 84 (0, ei_if2 1 97 87, 0, 0)))))) (e_T 94 (e_T 88 (e_T 87 (e_L 87 (0, ei_load 0 2 88, 0, 0)) (e_L 88 (2, e_nof, 142, 1))) (e_T 91 (e_L 91 (0, ei_inc 1 1 94, 0, 0)) (e_L 94 (0, ei_goto 71, 0, 0)))) (e_T 98 (e_T 97 (e_L 97 (0, ei_load 0 2 98, 0, 0)) (e_L 98 (0, ei_getf eft elay 8 5 101, 0, 0))) (e_T 101 (e_L 101 (0, ei_if1 0 108 104, 0, 0)) (e_T 104 (e_L 104 (0, ei_load 0 2 105, 0, 0)) (e_L 105 (2, e_nof, 130, 1))))))) (e_T 122 (e_T 115 (e_T 109 (e_T 108 (e_L 108 (0, ei_load 0 2 109, 0, 0)) (e_L 109 (0, ei_getf eft elay 8 1 112, 0, 0))) (e_T 112 (e_L 112 (0, ei_if1 0 116 115, 0, 0)) (e_L 115 (1, e_nof, 0, 0)))) (e_T 117 (e_T 116 (e_L 116 (0, ei_load 0 2 117, 0, 0)) (e_L 117 (2, e_nof, 138, 1))) (e_T 120 (e_L 120 (0, ei_load 0 2 121, 0, 0)) (e_T 121 (e_L 121 (0, ei_load 0 2 122, 0, 0)) (e_L 122 (0, ei_getf eft elay 8 9 125, 0, 0)))))) (e_T 132 (e_T 128 (e_T 125 (e_L 125 (0, ei_putf eft elay 8 1 0 128, 0, 0)) (e_L 128 (0, ei_load 0 2 129, 0, 0))) (e_T 129 (e_L 129 (0, ei_getf eft elay 8 9 132, 0, 0)) (e_L 132 (0, ei_if1 0 143 135, 0, 0)))) (e_T 136 (e_T 135 (e_L 135 (0, ei_load 0 2 136, 0, 0)) (e_L 136 (0, ei_load 0 2 137, 0, 0))) (e_T 137 (e_L 137 (0, ei_getf eft elay 8 10 140, 0, 0)) (e_T 140 (e_L 140 (0, ei_putf eft elay 8 2 0 143, 0, 0)) (e_L 143 (1, e_nof, 0, 0))))))))
set_option maxRecDepth 20000 in
set_option maxHeartbeats 4000000 in
theorem te_119_36_ok : ∀ pc, e_EOq eft cls elay eI n_119 pc (te_119_36 pc) :=
  (e_Tok2
  (e_Tok2
  (e_Tok2
  (e_Tok2
  (e_Tok2
  (e_Lok (ps_iconst_0 (x_dk dn_119_0_1_ok 11 rfl)))
  (e_Lok (e_st (I := eI) (er_istore_n (i := 1) (x_dk dn_119_0_1_ok 12 rfl) (by decide +kernel)) nx_stor)))
  (e_Tok2
  (e_Lok (ld_iload_n_1 (x_dk dn_119_0_1_ok 13 rfl)))
  (e_Lok (ps_sipush_4000 (x_dk dn_119_0_1_ok 14 rfl)))))
  (e_Tok2
  (e_Tok2
  (e_Lok (e_st (I := eI) (er_icmpge (off := 22) (tg := 97) (x_dk dn_119_0_1_ok 15 rfl) (by decide)) nx_if2))
  (e_Lok (ld_aload_n_0 (x_dk dn_119_0_1_ok 16 rfl))))
  (e_Tok2
  (e_Lok (lk_8_57g ho_119 (x_dk dn_119_0_1_ok 17 rfl)))
  (e_Tok2
  (e_Lok (ps_bipush_22 (x_dk dn_119_0_1_ok 18 rfl)))
  (e_Lok (e_st (I := eI) (er_icmpne (off := 13) (tg := 97) (x_dk dn_119_0_1_ok 19 rfl) (by decide)) nx_if2))))))
  (e_Tok2
  (e_Tok2
  (e_Tok2
  (e_Lok (ld_aload_n_0 (x_dk dn_119_0_1_ok 20 rfl)))
  (e_Lok (lk_8_63 ho_119 (x_dk dn_119_0_1_ok 21 rfl))))
  (e_Tok2
  (e_Lok (e_st (I := eI) (er_iinc (i := 1) (n := 1) (x_dk dn_119_0_1_ok 22 rfl) (by decide +kernel) (by decide)) nx_inc))
  (e_Lok (e_st (I := eI) (er_goto (off := (-23)) (tg := 71) (x_dk dn_119_0_1_ok 23 rfl) (by decide)) nx_goto))))
  (e_Tok2
  (e_Tok2
  (e_Lok (ld_aload_n_0 (x_dk dn_119_0_1_ok 24 rfl)))
  (e_Lok (lk_8_57g ho_119 (x_dk dn_119_0_2_ok 0 rfl))))
  (e_Tok2
  (e_Lok (e_st (I := eI) (er_ifeq (off := 7) (tg := 108) (x_dk dn_119_0_2_ok 1 rfl) (by decide)) nx_if1))
  (e_Tok2
  (e_Lok (ld_aload_n_0 (x_dk dn_119_0_2_ok 2 rfl)))
  (e_Lok (lk_8_66 ho_119 (x_dk dn_119_0_2_ok 3 rfl))))))))
  (e_Tok2
  (e_Tok2
  (e_Tok2
  (e_Tok2
  (e_Lok (ld_aload_n_0 (x_dk dn_119_0_2_ok 4 rfl)))
  (e_Lok (lk_8_9g ho_119 (x_dk dn_119_0_2_ok 5 rfl))))
  (e_Tok2
  (e_Lok (e_st (I := eI) (er_ifeq (off := 4) (tg := 116) (x_dk dn_119_0_2_ok 6 rfl) (by decide)) nx_if1))
  (e_Lok (e_rt (I := eI) (k := 0) ⟨(x_dk dn_119_0_2_ok 7 rfl), rfl⟩))))
  (e_Tok2
  (e_Tok2
  (e_Lok (ld_aload_n_0 (x_dk dn_119_0_2_ok 8 rfl)))
  (e_Lok (lk_8_69 ho_119 (x_dk dn_119_0_2_ok 9 rfl))))
  (e_Tok2
  (e_Lok (ld_aload_n_0 (x_dk dn_119_0_2_ok 10 rfl)))
  (e_Tok2
  (e_Lok (ld_aload_n_0 (x_dk dn_119_0_2_ok 11 rfl)))
  (e_Lok (lk_8_39g ho_119 (x_dk dn_119_0_2_ok 12 rfl)))))))
  (e_Tok2
  (e_Tok2
  (e_Tok2
  (e_Lok (lk_8_9p ho_119 (x_dk dn_119_0_2_ok 13 rfl)))
  (e_Lok (ld_aload_n_0 (x_dk dn_119_0_2_ok 14 rfl))))
  (e_Tok2
  (e_Lok (lk_8_39g ho_119 (x_dk dn_119_0_2_ok 15 rfl)))
  (e_Lok (e_st (I := eI) (er_ifeq (off := 11) (tg := 143) (x_dk dn_119_0_2_ok 16 rfl) (by decide)) nx_if1))))
  (e_Tok2
  (e_Tok2
  (e_Lok (ld_aload_n_0 (x_dk dn_119_0_2_ok 17 rfl)))
  (e_Lok (ld_aload_n_0 (x_dk dn_119_0_2_ok 18 rfl))))
  (e_Tok2
  (e_Lok (lk_8_72g ho_119 (x_dk dn_119_0_2_ok 19 rfl)))
  (e_Tok2
  (e_Lok (lk_8_15p ho_119 (x_dk dn_119_0_2_ok 20 rfl)))
  (e_Lok (e_rt (I := eI) (k := 0) ⟨(x_dk dn_119_0_2_ok 21 rfl), rfl⟩))))))))
def te_119 : Nat → eE := (e_T 66 te_119_0 te_119_36)
theorem te_119_ok : ∀ pc, e_EOq eft cls elay eI n_119 pc (te_119 pc) := (e_Tok2 (te_119_0_ok) (te_119_36_ok))
theorem ho_120 : (xm_y n_120).cls = "RobotCellHouse$Reader" := rfl
def dn_120_0_0 : List (Nat × Instr × Nat) := [(0, .iload_n 1, 1), (1, .ifCond .lt 24, 3), (4, .iload_n 1, 1), (5, .aload_n 0, 1), (6, .getfield 36, 3), (9, .if_icmp .ge 16, 3), (12, .aload_n 0, 1), (13, .getfield 25, 3), (16, .iload_n 1, 1), (17, .baload, 1), (18, .sipush 255, 3), (21, .iand, 1), (22, .goto 4, 3), (25, .iconst 0, 1), (26, .ireturn, 1)]
set_option maxRecDepth 20000 in
theorem dn_120_0_0_ok : dn_120_0_0.all (fun q => decide (decode (xm_b n_120) q.1 = .ok (q.2.1, q.2.2))) = true := xa_g_ok (by decide +kernel)
def te_120_0 : Nat → eE := (e_T 12 (e_T 4 (e_T 0 (e_L 0 (0, ei_load 1 0 1, 0, 0)) (e_T 1 (e_L 1 (0, ei_if1 2 25 4, 0, 0)) (e_L 4 (0, ei_load 1 0 5, 0, 0)))) (e_T 6 (e_T 5 (e_L 5 (0, ei_load 0 2 6, 0, 0)) (e_L 6 (0, ei_getf eft elay 8 0 9, 0, 0))) (e_T 9 (e_L 9 (0, ei_if2 3 25 12, 0, 0)) (e_L 12 (0, ei_load 0 2 13, 0, 0))))) (e_T 18 (e_T 16 (e_T 13 (e_L 13 (0, ei_getf eft elay 8 4 16, 0, 0)) (e_L 16 (0, ei_load 1 0 17, 0, 0))) (e_T 17 (e_L 17 (0, ei_ald elay true 18, 0, 0)) (e_L 18 (0, ei_push (0, 255) 21, 0, 0)))) (e_T 22 (e_T 21 (e_L 21 (0, ei_bin (eB (fun x y => x &&& y)) 22, 0, 0)) (e_L 22 (0, ei_goto 26, 0, 0))) (e_T 25 (e_L 25 (0, ei_push (0, 0) 26, 0, 0)) (e_L 26 (1, e_nof, 1, 0))))))
set_option maxRecDepth 20000 in
set_option maxHeartbeats 4000000 in
theorem te_120_0_ok : ∀ pc, e_EOq eft cls elay eI n_120 pc (te_120_0 pc) :=
  (e_Tok2
  (e_Tok2
  (e_Tok2
  (e_Lok (ld_iload_n_1 (x_dk dn_120_0_0_ok 0 rfl)))
  (e_Tok2
  (e_Lok (e_st (I := eI) (er_iflt (off := 24) (tg := 25) (x_dk dn_120_0_0_ok 1 rfl) (by decide)) nx_if1))
  (e_Lok (ld_iload_n_1 (x_dk dn_120_0_0_ok 2 rfl)))))
  (e_Tok2
  (e_Tok2
  (e_Lok (ld_aload_n_0 (x_dk dn_120_0_0_ok 3 rfl)))
  (e_Lok (lk_8_36g ho_120 (x_dk dn_120_0_0_ok 4 rfl))))
  (e_Tok2
  (e_Lok (e_st (I := eI) (er_icmpge (off := 16) (tg := 25) (x_dk dn_120_0_0_ok 5 rfl) (by decide)) nx_if2))
  (e_Lok (ld_aload_n_0 (x_dk dn_120_0_0_ok 6 rfl))))))
  (e_Tok2
  (e_Tok2
  (e_Tok2
  (e_Lok (lk_8_25g ho_120 (x_dk dn_120_0_0_ok 7 rfl)))
  (e_Lok (ld_iload_n_1 (x_dk dn_120_0_0_ok 8 rfl))))
  (e_Tok2
  (e_Lok (e_st (I := eI) (er_baload (x_dk dn_120_0_0_ok 9 rfl)) nx_ald))
  (e_Lok (ps_sipush_255 (x_dk dn_120_0_0_ok 10 rfl)))))
  (e_Tok2
  (e_Tok2
  (e_Lok (e_st (I := eI) (er_iand (x_dk dn_120_0_0_ok 11 rfl)) nx_bin))
  (e_Lok (e_st (I := eI) (er_goto (off := 4) (tg := 26) (x_dk dn_120_0_0_ok 12 rfl) (by decide)) nx_goto)))
  (e_Tok2
  (e_Lok (ps_iconst_0 (x_dk dn_120_0_0_ok 13 rfl)))
  (e_Lok (e_rt (I := eI) (k := 1) ⟨(x_dk dn_120_0_0_ok 14 rfl), rfl⟩))))))
def te_120 : Nat → eE := te_120_0
theorem te_120_ok : ∀ pc, e_EOq eft cls elay eI n_120 pc (te_120 pc) := te_120_0_ok
theorem ho_121 : (xm_y n_121).cls = "RobotCellHouse$Reader" := rfl
def dn_121_0_0 : List (Nat × Instr × Nat) := [(0, .iload_n 0, 1), (1, .bipush 48, 2), (3, .if_icmp .lt 13, 3), (6, .iload_n 0, 1), (7, .bipush 57, 2), (9, .if_icmp .gt 7, 3), (12, .iconst 1, 1), (13, .goto 4, 3), (16, .iconst 0, 1), (17, .ireturn, 1)]
set_option maxRecDepth 20000 in
theorem dn_121_0_0_ok : dn_121_0_0.all (fun q => decide (decode (xm_b n_121) q.1 = .ok (q.2.1, q.2.2))) = true := xa_g_ok (by decide +kernel)
def te_121_0 : Nat → eE := (e_T 7 (e_T 1 (e_T 0 (e_L 0 (0, ei_load 0 0 1, 0, 0)) (e_L 1 (0, ei_push (0, 48) 3, 0, 0))) (e_T 3 (e_L 3 (0, ei_if2 2 16 6, 0, 0)) (e_T 6 (e_L 6 (0, ei_load 0 0 7, 0, 0)) (e_L 7 (0, ei_push (0, 57) 9, 0, 0))))) (e_T 12 (e_T 9 (e_L 9 (0, ei_if2 4 16 12, 0, 0)) (e_L 12 (0, ei_push (0, 1) 13, 0, 0))) (e_T 13 (e_L 13 (0, ei_goto 17, 0, 0)) (e_T 16 (e_L 16 (0, ei_push (0, 0) 17, 0, 0)) (e_L 17 (1, e_nof, 4, 0))))))
set_option maxRecDepth 20000 in
set_option maxHeartbeats 4000000 in
theorem te_121_0_ok : ∀ pc, e_EOq eft cls elay eI n_121 pc (te_121_0 pc) :=
  (e_Tok2
  (e_Tok2
  (e_Tok2
  (e_Lok (ld_iload_n_0 (x_dk dn_121_0_0_ok 0 rfl)))
  (e_Lok (ps_bipush_48 (x_dk dn_121_0_0_ok 1 rfl))))
  (e_Tok2
  (e_Lok (e_st (I := eI) (er_icmplt (off := 13) (tg := 16) (x_dk dn_121_0_0_ok 2 rfl) (by decide)) nx_if2))
  (e_Tok2
  (e_Lok (ld_iload_n_0 (x_dk dn_121_0_0_ok 3 rfl)))
  (e_Lok (ps_bipush_57 (x_dk dn_121_0_0_ok 4 rfl))))))
  (e_Tok2
  (e_Tok2
  (e_Lok (e_st (I := eI) (er_icmpgt (off := 7) (tg := 16) (x_dk dn_121_0_0_ok 5 rfl) (by decide)) nx_if2))
  (e_Lok (ps_iconst_1 (x_dk dn_121_0_0_ok 6 rfl))))
  (e_Tok2
  (e_Lok (e_st (I := eI) (er_goto (off := 4) (tg := 17) (x_dk dn_121_0_0_ok 7 rfl) (by decide)) nx_goto))
  (e_Tok2
  (e_Lok (ps_iconst_0 (x_dk dn_121_0_0_ok 8 rfl)))
  (e_Lok (e_rt (I := eI) (k := 4) ⟨(x_dk dn_121_0_0_ok 9 rfl), rfl⟩))))))
def te_121 : Nat → eE := te_121_0
theorem te_121_ok : ∀ pc, e_EOq eft cls elay eI n_121 pc (te_121 pc) := te_121_0_ok
theorem ho_122 : (xm_y n_122).cls = "RobotCellHouse$Reader" := rfl
def dn_122_0_0 : List (Nat × Instr × Nat) := [(0, .iload_n 0, 1), (1, .bipush 97, 2), (3, .if_icmp .lt 9, 3), (6, .iload_n 0, 1), (7, .bipush 122, 2), (9, .if_icmp .le 27, 3), (12, .iload_n 0, 1), (13, .bipush 65, 2), (15, .if_icmp .lt 9, 3), (18, .iload_n 0, 1), (19, .bipush 90, 2), (21, .if_icmp .le 15, 3), (24, .iload_n 0, 1), (25, .bipush 48, 2), (27, .if_icmp .lt 13, 3), (30, .iload_n 0, 1), (31, .bipush 57, 2), (33, .if_icmp .gt 7, 3), (36, .iconst 1, 1), (37, .goto 4, 3), (40, .iconst 0, 1), (41, .ireturn, 1)]
set_option maxRecDepth 20000 in
theorem dn_122_0_0_ok : dn_122_0_0.all (fun q => decide (decode (xm_b n_122) q.1 = .ok (q.2.1, q.2.2))) = true := xa_g_ok (by decide +kernel)
def te_122_0 : Nat → eE := (e_T 19 (e_T 7 (e_T 1 (e_T 0 (e_L 0 (0, ei_load 0 0 1, 0, 0)) (e_L 1 (0, ei_push (0, 97) 3, 0, 0))) (e_T 3 (e_L 3 (0, ei_if2 2 12 6, 0, 0)) (e_T 6 (e_L 6 (0, ei_load 0 0 7, 0, 0)) (e_L 7 (0, ei_push (0, 122) 9, 0, 0))))) (e_T 13 (e_T 9 (e_L 9 (0, ei_if2 5 36 12, 0, 0)) (e_T 12 (e_L 12 (0, ei_load 0 0 13, 0, 0)) (e_L 13 (0, ei_push (0, 65) 15, 0, 0)))) (e_T 15 (e_L 15 (0, ei_if2 2 24 18, 0, 0)) (e_T 18 (e_L 18 (0, ei_load 0 0 19, 0, 0)) (e_L 19 (0, ei_push (0, 90) 21, 0, 0)))))) (e_T 30 (e_T 24 (e_T 21 (e_L 21 (0, ei_if2 5 36 24, 0, 0)) (e_L 24 (0, ei_load 0 0 25, 0, 0))) (e_T 25 (e_L 25 (0, ei_push (0, 48) 27, 0, 0)) (e_T 27 (e_L 27 (0, ei_if2 2 40 30, 0, 0)) (e_L 30 (0, ei_load 0 0 31, 0, 0))))) (e_T 36 (e_T 31 (e_L 31 (0, ei_push (0, 57) 33, 0, 0)) (e_T 33 (e_L 33 (0, ei_if2 4 40 36, 0, 0)) (e_L 36 (0, ei_push (0, 1) 37, 0, 0)))) (e_T 37 (e_L 37 (0, ei_goto 41, 0, 0)) (e_T 40 (e_L 40 (0, ei_push (0, 0) 41, 0, 0)) (e_L 41 (1, e_nof, 4, 0)))))))
set_option maxRecDepth 20000 in
set_option maxHeartbeats 4000000 in
theorem te_122_0_ok : ∀ pc, e_EOq eft cls elay eI n_122 pc (te_122_0 pc) :=
  (e_Tok2
  (e_Tok2
  (e_Tok2
  (e_Tok2
  (e_Lok (ld_iload_n_0 (x_dk dn_122_0_0_ok 0 rfl)))
  (e_Lok (ps_bipush_97 (x_dk dn_122_0_0_ok 1 rfl))))
  (e_Tok2
  (e_Lok (e_st (I := eI) (er_icmplt (off := 9) (tg := 12) (x_dk dn_122_0_0_ok 2 rfl) (by decide)) nx_if2))
  (e_Tok2
  (e_Lok (ld_iload_n_0 (x_dk dn_122_0_0_ok 3 rfl)))
  (e_Lok (ps_bipush_122 (x_dk dn_122_0_0_ok 4 rfl))))))
  (e_Tok2
  (e_Tok2
  (e_Lok (e_st (I := eI) (er_icmple (off := 27) (tg := 36) (x_dk dn_122_0_0_ok 5 rfl) (by decide)) nx_if2))
  (e_Tok2
  (e_Lok (ld_iload_n_0 (x_dk dn_122_0_0_ok 6 rfl)))
  (e_Lok (ps_bipush_65 (x_dk dn_122_0_0_ok 7 rfl)))))
  (e_Tok2
  (e_Lok (e_st (I := eI) (er_icmplt (off := 9) (tg := 24) (x_dk dn_122_0_0_ok 8 rfl) (by decide)) nx_if2))
  (e_Tok2
  (e_Lok (ld_iload_n_0 (x_dk dn_122_0_0_ok 9 rfl)))
  (e_Lok (ps_bipush_90 (x_dk dn_122_0_0_ok 10 rfl)))))))
  (e_Tok2
  (e_Tok2
  (e_Tok2
  (e_Lok (e_st (I := eI) (er_icmple (off := 15) (tg := 36) (x_dk dn_122_0_0_ok 11 rfl) (by decide)) nx_if2))
  (e_Lok (ld_iload_n_0 (x_dk dn_122_0_0_ok 12 rfl))))
  (e_Tok2
  (e_Lok (ps_bipush_48 (x_dk dn_122_0_0_ok 13 rfl)))
  (e_Tok2
  (e_Lok (e_st (I := eI) (er_icmplt (off := 13) (tg := 40) (x_dk dn_122_0_0_ok 14 rfl) (by decide)) nx_if2))
  (e_Lok (ld_iload_n_0 (x_dk dn_122_0_0_ok 15 rfl))))))
  (e_Tok2
  (e_Tok2
  (e_Lok (ps_bipush_57 (x_dk dn_122_0_0_ok 16 rfl)))
  (e_Tok2
  (e_Lok (e_st (I := eI) (er_icmpgt (off := 7) (tg := 40) (x_dk dn_122_0_0_ok 17 rfl) (by decide)) nx_if2))
  (e_Lok (ps_iconst_1 (x_dk dn_122_0_0_ok 18 rfl)))))
  (e_Tok2
  (e_Lok (e_st (I := eI) (er_goto (off := 4) (tg := 41) (x_dk dn_122_0_0_ok 19 rfl) (by decide)) nx_goto))
  (e_Tok2
  (e_Lok (ps_iconst_0 (x_dk dn_122_0_0_ok 20 rfl)))
  (e_Lok (e_rt (I := eI) (k := 4) ⟨(x_dk dn_122_0_0_ok 21 rfl), rfl⟩)))))))
def te_122 : Nat → eE := te_122_0
theorem te_122_ok : ∀ pc, e_EOq eft cls elay eI n_122 pc (te_122 pc) := te_122_0_ok
theorem ho_123 : (xm_y n_123).cls = "RobotCellHouse$Reader" := rfl
def dn_123_0_0 : List (Nat × Instr × Nat) := [(0, .aload_n 0, 1), (1, .invokevirtual 75, 3), (4, .aload_n 0, 1), (5, .aload_n 0, 1), (6, .getfield 48, 3), (9, .putfield 78, 3), (12, .aload_n 0, 1), (13, .aload_n 0, 1), (14, .getfield 48, 3), (17, .invokevirtual 81, 3), (20, .istore_n 1, 1), (21, .aload_n 0, 1), (22, .getfield 48, 3), (25, .aload_n 0, 1), (26, .getfield 36, 3), (29, .if_icmp .lt 11, 3), (32, .aload_n 0, 1), (33, .iconst 0, 1), (34, .putfield 57, 3), (37, .goto 36, 3), (40, .iload_n 1, 1), (41, .invokestatic 85, 3), (44, .ifCond .eq 10, 3), (47, .aload_n 0, 1), (48, .invokevirtual 89, 3)]
set_option maxRecDepth 20000 in
theorem dn_123_0_0_ok : dn_123_0_0.all (fun q => decide (decode (xm_b n_123) q.1 = .ok (q.2.1, q.2.2))) = true := xa_g_ok (by decide +kernel)
def dn_123_0_1 : List (Nat × Instr × Nat) := [(51, .goto 22, 3), (54, .iload_n 1, 1), (55, .invokestatic 92, 3), (58, .ifCond .eq 10, 3), (61, .aload_n 0, 1), (62, .invokevirtual 95, 3), (65, .goto 8, 3), (68, .aload_n 0, 1), (69, .iload_n 1, 1), (70, .invokevirtual 98, 3), (73, .return_, 1)]
set_option maxRecDepth 20000 in
theorem dn_123_0_1_ok : dn_123_0_1.all (fun q => decide (decode (xm_b n_123) q.1 = .ok (q.2.1, q.2.2))) = true := xa_g_ok (by decide +kernel)
def te_123_0 : Nat → eE := (e_T 33 (e_T 14 (e_T 5 (e_T 1 (e_T 0 (e_L 0 (0, ei_load 0 2 1, 0, 0)) (e_L 1 (2, e_nof, 124, 1))) (e_T 4 (e_L 4 (0, ei_load 0 2 5, 0, 0)) (e_L 5 (0, ei_load 0 2 6, 0, 0)))) (e_T 9 (e_T 6 (e_L 6 (0, ei_getf eft elay 8 7 9, 0, 0)) (e_L 9 (0, ei_putf eft elay 8 6 0 12, 0, 0))) (e_T 12 (e_L 12 (0, ei_load 0 2 13, 0, 0)) (e_T 13 (e_L 13 (0, ei_load 0 2 14, 0, 0)) (e_L 14 (0, ei_getf eft elay 8 7 17, 0, 0)))))) (e_T 22 (e_T 20 (e_T 17 (e_L 17 (2, e_nof, 120, 2)) (e_L 20 (0, ei_stor 1 0 21, 0, 0))) (e_T 21 (e_L 21 (0, ei_load 0 2 22, 0, 0)) (e_L 22 (0, ei_getf eft elay 8 7 25, 0, 0)))) (e_T 26 (e_T 25 (e_L 25 (0, ei_load 0 2 26, 0, 0)) (e_L 26 (0, ei_getf eft elay 8 0 29, 0, 0))) (e_T 29 (e_L 29 (0, ei_if2 2 40 32, 0, 0)) (e_T 32 (e_L 32 (0, ei_load 0 2 33, 0, 0)) (e_L 33 (0, ei_push (0, 0) 34, 0, 0))))))) (e_T 54 (e_T 41 (e_T 37 (e_T 34 (e_L 34 (0, ei_putf eft elay 8 5 0 37, 0, 0)) (e_L 37 (0, ei_goto 73, 0, 0))) (e_T 40 (e_L 40 (0, ei_load 1 0 41, 0, 0)) (e_L 41 (2, e_nof, 121, 1)))) (e_T 47 (e_T 44 (e_L 44 (0, ei_if1 0 54 47, 0, 0)) (e_L 47 (0, ei_load 0 2 48, 0, 0))) (e_T 48 (e_L 48 (2, e_nof, 127, 1)) (e_T 51 (e_L 51 (0, ei_goto 73, 0, 0)) (e_L 54 (0, ei_load 1 0 55, 0, 0)))))) (e_T 62 (e_T 58 (e_T 55 (e_L 55 (2, e_nof, 122, 1)) (e_L 58 (0, ei_if1 0 68 61, 0, 0))) (e_T 61 (e_L 61 (0, ei_load 0 2 62, 0, 0)) (e_L 62 (2, e_nof, 125, 1)))) (e_T 68 (e_T 65 (e_L 65 (0, ei_goto 73, 0, 0)) (e_L 68 (0, ei_load 0 2 69, 0, 0))) (e_T 69 (e_L 69 (0, ei_load 1 0 70, 0, 0)) (e_T 70 (e_L 70 (2, e_nof, 128, 2)) (e_L 73 (1, e_nof, 0, 0))))))))
set_option maxRecDepth 20000 in
set_option maxHeartbeats 4000000 in
theorem te_123_0_ok : ∀ pc, e_EOq eft cls elay eI n_123 pc (te_123_0 pc) :=
  (e_Tok2
  (e_Tok2
  (e_Tok2
  (e_Tok2
  (e_Tok2
  (e_Lok (ld_aload_n_0 (x_dk dn_123_0_0_ok 0 rfl)))
  (e_Lok (lk_8_75 ho_123 (x_dk dn_123_0_0_ok 1 rfl))))
  (e_Tok2
  (e_Lok (ld_aload_n_0 (x_dk dn_123_0_0_ok 2 rfl)))
  (e_Lok (ld_aload_n_0 (x_dk dn_123_0_0_ok 3 rfl)))))
  (e_Tok2
  (e_Tok2
  (e_Lok (lk_8_48g ho_123 (x_dk dn_123_0_0_ok 4 rfl)))
  (e_Lok (lk_8_78p ho_123 (x_dk dn_123_0_0_ok 5 rfl))))
  (e_Tok2
  (e_Lok (ld_aload_n_0 (x_dk dn_123_0_0_ok 6 rfl)))
  (e_Tok2
  (e_Lok (ld_aload_n_0 (x_dk dn_123_0_0_ok 7 rfl)))
  (e_Lok (lk_8_48g ho_123 (x_dk dn_123_0_0_ok 8 rfl)))))))
  (e_Tok2
  (e_Tok2
  (e_Tok2
  (e_Lok (lk_8_81 ho_123 (x_dk dn_123_0_0_ok 9 rfl)))
  (e_Lok (e_st (I := eI) (er_istore_n (i := 1) (x_dk dn_123_0_0_ok 10 rfl) (by decide +kernel)) nx_stor)))
  (e_Tok2
  (e_Lok (ld_aload_n_0 (x_dk dn_123_0_0_ok 11 rfl)))
  (e_Lok (lk_8_48g ho_123 (x_dk dn_123_0_0_ok 12 rfl)))))
  (e_Tok2
  (e_Tok2
  (e_Lok (ld_aload_n_0 (x_dk dn_123_0_0_ok 13 rfl)))
  (e_Lok (lk_8_36g ho_123 (x_dk dn_123_0_0_ok 14 rfl))))
  (e_Tok2
  (e_Lok (e_st (I := eI) (er_icmplt (off := 11) (tg := 40) (x_dk dn_123_0_0_ok 15 rfl) (by decide)) nx_if2))
  (e_Tok2
  (e_Lok (ld_aload_n_0 (x_dk dn_123_0_0_ok 16 rfl)))
  (e_Lok (ps_iconst_0 (x_dk dn_123_0_0_ok 17 rfl))))))))
  (e_Tok2
  (e_Tok2
  (e_Tok2
  (e_Tok2
  (e_Lok (lk_8_57p ho_123 (x_dk dn_123_0_0_ok 18 rfl)))
  (e_Lok (e_st (I := eI) (er_goto (off := 36) (tg := 73) (x_dk dn_123_0_0_ok 19 rfl) (by decide)) nx_goto)))
  (e_Tok2
  (e_Lok (ld_iload_n_1 (x_dk dn_123_0_0_ok 20 rfl)))
  (e_Lok (lk_8_85 ho_123 (x_dk dn_123_0_0_ok 21 rfl)))))
  (e_Tok2
  (e_Tok2
  (e_Lok (e_st (I := eI) (er_ifeq (off := 10) (tg := 54) (x_dk dn_123_0_0_ok 22 rfl) (by decide)) nx_if1))
  (e_Lok (ld_aload_n_0 (x_dk dn_123_0_0_ok 23 rfl))))
  (e_Tok2
  (e_Lok (lk_8_89 ho_123 (x_dk dn_123_0_0_ok 24 rfl)))
  (e_Tok2
  (e_Lok (e_st (I := eI) (er_goto (off := 22) (tg := 73) (x_dk dn_123_0_1_ok 0 rfl) (by decide)) nx_goto))
  (e_Lok (ld_iload_n_1 (x_dk dn_123_0_1_ok 1 rfl)))))))
  (e_Tok2
  (e_Tok2
  (e_Tok2
  (e_Lok (lk_8_92 ho_123 (x_dk dn_123_0_1_ok 2 rfl)))
  (e_Lok (e_st (I := eI) (er_ifeq (off := 10) (tg := 68) (x_dk dn_123_0_1_ok 3 rfl) (by decide)) nx_if1)))
  (e_Tok2
  (e_Lok (ld_aload_n_0 (x_dk dn_123_0_1_ok 4 rfl)))
  (e_Lok (lk_8_95 ho_123 (x_dk dn_123_0_1_ok 5 rfl)))))
  (e_Tok2
  (e_Tok2
  (e_Lok (e_st (I := eI) (er_goto (off := 8) (tg := 73) (x_dk dn_123_0_1_ok 6 rfl) (by decide)) nx_goto))
  (e_Lok (ld_aload_n_0 (x_dk dn_123_0_1_ok 7 rfl))))
  (e_Tok2
  (e_Lok (ld_iload_n_1 (x_dk dn_123_0_1_ok 8 rfl)))
  (e_Tok2
  (e_Lok (lk_8_98 ho_123 (x_dk dn_123_0_1_ok 9 rfl)))
  (e_Lok (e_rt (I := eI) (k := 0) ⟨(x_dk dn_123_0_1_ok 10 rfl), rfl⟩))))))))
def te_123 : Nat → eE := te_123_0
theorem te_123_ok : ∀ pc, e_EOq eft cls elay eI n_123 pc (te_123 pc) := te_123_0_ok
theorem ho_124 : (xm_y n_124).cls = "RobotCellHouse$Reader" := rfl
def dn_124_0_0 : List (Nat × Instr × Nat) := [(0, .iconst 0, 1), (1, .istore_n 1, 1), (2, .aload_n 0, 1), (3, .getfield 48, 3), (6, .aload_n 0, 1), (7, .getfield 36, 3), (10, .if_icmp .ge 58, 3), (13, .aload_n 0, 1), (14, .aload_n 0, 1), (15, .getfield 48, 3), (18, .invokevirtual 81, 3), (21, .istore_n 2, 1), (22, .iload_n 2, 1), (23, .bipush 35, 2), (25, .if_icmp .ne 8, 3), (28, .iconst 1, 1), (29, .istore_n 1, 1), (30, .goto 25, 3), (33, .iload_n 2, 1), (34, .bipush 10, 2), (36, .if_icmp .ne 8, 3), (39, .iconst 0, 1), (40, .istore_n 1, 1), (41, .goto 14, 3), (44, .iload_n 2, 1)]
set_option maxRecDepth 20000 in
theorem dn_124_0_0_ok : dn_124_0_0.all (fun q => decide (decode (xm_b n_124) q.1 = .ok (q.2.1, q.2.2))) = true := xa_g_ok (by decide +kernel)
def dn_124_0_1 : List (Nat × Instr × Nat) := [(45, .bipush 32, 2), (47, .if_icmp .le 8, 3), (50, .iload_n 1, 1), (51, .ifCond .ne 4, 3), (54, .return_, 1), (55, .aload_n 0, 1), (56, .dup, 1), (57, .getfield 48, 3), (60, .iconst 1, 1), (61, .iadd, 1), (62, .putfield 48, 3), (65, .goto (-63), 3), (68, .return_, 1)]
set_option maxRecDepth 20000 in
theorem dn_124_0_1_ok : dn_124_0_1.all (fun q => decide (decode (xm_b n_124) q.1 = .ok (q.2.1, q.2.2))) = true := xa_g_ok (by decide +kernel)
def te_124_0 : Nat → eE := (e_T 33 (e_T 14 (e_T 3 (e_T 1 (e_T 0 (e_L 0 (0, ei_push (0, 0) 1, 0, 0)) (e_L 1 (0, ei_stor 1 0 2, 0, 0))) (e_T 2 (e_L 2 (0, ei_load 0 2 3, 0, 0)) (e_L 3 (0, ei_getf eft elay 8 7 6, 0, 0)))) (e_T 7 (e_T 6 (e_L 6 (0, ei_load 0 2 7, 0, 0)) (e_L 7 (0, ei_getf eft elay 8 0 10, 0, 0))) (e_T 10 (e_L 10 (0, ei_if2 3 68 13, 0, 0)) (e_T 13 (e_L 13 (0, ei_load 0 2 14, 0, 0)) (e_L 14 (0, ei_load 0 2 15, 0, 0)))))) (e_T 23 (e_T 18 (e_T 15 (e_L 15 (0, ei_getf eft elay 8 7 18, 0, 0)) (e_L 18 (2, e_nof, 120, 2))) (e_T 21 (e_L 21 (0, ei_stor 2 0 22, 0, 0)) (e_T 22 (e_L 22 (0, ei_load 2 0 23, 0, 0)) (e_L 23 (0, ei_push (0, 35) 25, 0, 0))))) (e_T 28 (e_T 25 (e_L 25 (0, ei_if2 1 33 28, 0, 0)) (e_L 28 (0, ei_push (0, 1) 29, 0, 0))) (e_T 29 (e_L 29 (0, ei_stor 1 0 30, 0, 0)) (e_T 30 (e_L 30 (0, ei_goto 55, 0, 0)) (e_L 33 (0, ei_load 2 0 34, 0, 0))))))) (e_T 50 (e_T 40 (e_T 36 (e_T 34 (e_L 34 (0, ei_push (0, 10) 36, 0, 0)) (e_L 36 (0, ei_if2 1 44 39, 0, 0))) (e_T 39 (e_L 39 (0, ei_push (0, 0) 40, 0, 0)) (e_L 40 (0, ei_stor 1 0 41, 0, 0)))) (e_T 44 (e_T 41 (e_L 41 (0, ei_goto 55, 0, 0)) (e_L 44 (0, ei_load 2 0 45, 0, 0))) (e_T 45 (e_L 45 (0, ei_push (0, 32) 47, 0, 0)) (e_T 47 (e_L 47 (0, ei_if2 5 55 50, 0, 0)) (e_L 50 (0, ei_load 1 0 51, 0, 0)))))) (e_T 57 (e_T 54 (e_T 51 (e_L 51 (0, ei_if1 1 55 54, 0, 0)) (e_L 54 (1, e_nof, 0, 0))) (e_T 55 (e_L 55 (0, ei_load 0 2 56, 0, 0)) (e_T 56 (e_L 56 (0, ei_stk ef_dup 57, 0, 0)) (e_L 57 (0, ei_getf eft elay 8 7 60, 0, 0))))) (e_T 61 (e_T 60 (e_L 60 (0, ei_push (0, 1) 61, 0, 0)) (e_L 61 (0, ei_bin eF_add 62, 0, 0))) (e_T 62 (e_L 62 (0, ei_putf eft elay 8 7 0 65, 0, 0)) (e_T 65 (e_L 65 (0, ei_goto 2, 0, 0)) (e_L 68 (1, e_nof, 0, 0))))))))
set_option maxRecDepth 20000 in
set_option maxHeartbeats 4000000 in
theorem te_124_0_ok : ∀ pc, e_EOq eft cls elay eI n_124 pc (te_124_0 pc) :=
  (e_Tok2
  (e_Tok2
  (e_Tok2
  (e_Tok2
  (e_Tok2
  (e_Lok (ps_iconst_0 (x_dk dn_124_0_0_ok 0 rfl)))
  (e_Lok (e_st (I := eI) (er_istore_n (i := 1) (x_dk dn_124_0_0_ok 1 rfl) (by decide +kernel)) nx_stor)))
  (e_Tok2
  (e_Lok (ld_aload_n_0 (x_dk dn_124_0_0_ok 2 rfl)))
  (e_Lok (lk_8_48g ho_124 (x_dk dn_124_0_0_ok 3 rfl)))))
  (e_Tok2
  (e_Tok2
  (e_Lok (ld_aload_n_0 (x_dk dn_124_0_0_ok 4 rfl)))
  (e_Lok (lk_8_36g ho_124 (x_dk dn_124_0_0_ok 5 rfl))))
  (e_Tok2
  (e_Lok (e_st (I := eI) (er_icmpge (off := 58) (tg := 68) (x_dk dn_124_0_0_ok 6 rfl) (by decide)) nx_if2))
  (e_Tok2
  (e_Lok (ld_aload_n_0 (x_dk dn_124_0_0_ok 7 rfl)))
  (e_Lok (ld_aload_n_0 (x_dk dn_124_0_0_ok 8 rfl)))))))
  (e_Tok2
  (e_Tok2
  (e_Tok2
  (e_Lok (lk_8_48g ho_124 (x_dk dn_124_0_0_ok 9 rfl)))
  (e_Lok (lk_8_81 ho_124 (x_dk dn_124_0_0_ok 10 rfl))))
  (e_Tok2
  (e_Lok (e_st (I := eI) (er_istore_n (i := 2) (x_dk dn_124_0_0_ok 11 rfl) (by decide +kernel)) nx_stor))
  (e_Tok2
  (e_Lok (ld_iload_n_2 (x_dk dn_124_0_0_ok 12 rfl)))
  (e_Lok (ps_bipush_35 (x_dk dn_124_0_0_ok 13 rfl))))))
  (e_Tok2
  (e_Tok2
  (e_Lok (e_st (I := eI) (er_icmpne (off := 8) (tg := 33) (x_dk dn_124_0_0_ok 14 rfl) (by decide)) nx_if2))
  (e_Lok (ps_iconst_1 (x_dk dn_124_0_0_ok 15 rfl))))
  (e_Tok2
  (e_Lok (e_st (I := eI) (er_istore_n (i := 1) (x_dk dn_124_0_0_ok 16 rfl) (by decide +kernel)) nx_stor))
  (e_Tok2
  (e_Lok (e_st (I := eI) (er_goto (off := 25) (tg := 55) (x_dk dn_124_0_0_ok 17 rfl) (by decide)) nx_goto))
  (e_Lok (ld_iload_n_2 (x_dk dn_124_0_0_ok 18 rfl))))))))
  (e_Tok2
  (e_Tok2
  (e_Tok2
  (e_Tok2
  (e_Lok (ps_bipush_10 (x_dk dn_124_0_0_ok 19 rfl)))
  (e_Lok (e_st (I := eI) (er_icmpne (off := 8) (tg := 44) (x_dk dn_124_0_0_ok 20 rfl) (by decide)) nx_if2)))
  (e_Tok2
  (e_Lok (ps_iconst_0 (x_dk dn_124_0_0_ok 21 rfl)))
  (e_Lok (e_st (I := eI) (er_istore_n (i := 1) (x_dk dn_124_0_0_ok 22 rfl) (by decide +kernel)) nx_stor))))
  (e_Tok2
  (e_Tok2
  (e_Lok (e_st (I := eI) (er_goto (off := 14) (tg := 55) (x_dk dn_124_0_0_ok 23 rfl) (by decide)) nx_goto))
  (e_Lok (ld_iload_n_2 (x_dk dn_124_0_0_ok 24 rfl))))
  (e_Tok2
  (e_Lok (ps_bipush_32 (x_dk dn_124_0_1_ok 0 rfl)))
  (e_Tok2
  (e_Lok (e_st (I := eI) (er_icmple (off := 8) (tg := 55) (x_dk dn_124_0_1_ok 1 rfl) (by decide)) nx_if2))
  (e_Lok (ld_iload_n_1 (x_dk dn_124_0_1_ok 2 rfl)))))))
  (e_Tok2
  (e_Tok2
  (e_Tok2
  (e_Lok (e_st (I := eI) (er_ifne (off := 4) (tg := 55) (x_dk dn_124_0_1_ok 3 rfl) (by decide)) nx_if1))
  (e_Lok (e_rt (I := eI) (k := 0) ⟨(x_dk dn_124_0_1_ok 4 rfl), rfl⟩)))
  (e_Tok2
  (e_Lok (ld_aload_n_0 (x_dk dn_124_0_1_ok 5 rfl)))
  (e_Tok2
  (e_Lok (e_st (I := eI) (er_dup (x_dk dn_124_0_1_ok 6 rfl)) (nx_stk bf_dup)))
  (e_Lok (lk_8_48g ho_124 (x_dk dn_124_0_1_ok 7 rfl))))))
  (e_Tok2
  (e_Tok2
  (e_Lok (ps_iconst_1 (x_dk dn_124_0_1_ok 8 rfl)))
  (e_Lok (sm_iadd (x_dk dn_124_0_1_ok 9 rfl))))
  (e_Tok2
  (e_Lok (lk_8_48p ho_124 (x_dk dn_124_0_1_ok 10 rfl)))
  (e_Tok2
  (e_Lok (e_st (I := eI) (er_goto (off := (-63)) (tg := 2) (x_dk dn_124_0_1_ok 11 rfl) (by decide)) nx_goto))
  (e_Lok (e_rt (I := eI) (k := 0) ⟨(x_dk dn_124_0_1_ok 12 rfl), rfl⟩))))))))
def te_124 : Nat → eE := te_124_0
theorem te_124_ok : ∀ pc, e_EOq eft cls elay eI n_124 pc (te_124 pc) := te_124_0_ok
theorem ho_125 : (xm_y n_125).cls = "RobotCellHouse$Reader" := rfl
def dn_125_0_0 : List (Nat × Instr × Nat) := [(0, .aload_n 0, 1), (1, .getfield 48, 3), (4, .aload_n 0, 1), (5, .getfield 36, 3), (8, .if_icmp .ge 30, 3), (11, .aload_n 0, 1), (12, .aload_n 0, 1), (13, .getfield 48, 3), (16, .invokevirtual 81, 3), (19, .invokestatic 92, 3), (22, .ifCond .eq 16, 3), (25, .aload_n 0, 1), (26, .dup, 1), (27, .getfield 48, 3), (30, .iconst 1, 1), (31, .iadd, 1), (32, .putfield 48, 3), (35, .goto (-35), 3), (38, .aload_n 0, 1), (39, .aload_n 0, 1), (40, .getfield 48, 3), (43, .aload_n 0, 1), (44, .getfield 78, 3), (47, .isub, 1), (48, .bipush 24, 2)]
set_option maxRecDepth 20000 in
theorem dn_125_0_0_ok : dn_125_0_0.all (fun q => decide (decode (xm_b n_125) q.1 = .ok (q.2.1, q.2.2))) = true := xa_g_ok (by decide +kernel)
def dn_125_0_1 : List (Nat × Instr × Nat) := [(50, .if_icmp .le 7, 3), (53, .iconst 3, 1), (54, .goto 7, 3), (57, .aload_n 0, 1), (58, .invokevirtual 102, 3), (61, .putfield 57, 3), (64, .return_, 1)]
set_option maxRecDepth 20000 in
theorem dn_125_0_1_ok : dn_125_0_1.all (fun q => decide (decode (xm_b n_125) q.1 = .ok (q.2.1, q.2.2))) = true := xa_g_ok (by decide +kernel)
def te_125_0 : Nat → eE := (e_T 31 (e_T 13 (e_T 5 (e_T 1 (e_T 0 (e_L 0 (0, ei_load 0 2 1, 0, 0)) (e_L 1 (0, ei_getf eft elay 8 7 4, 0, 0))) (e_T 4 (e_L 4 (0, ei_load 0 2 5, 0, 0)) (e_L 5 (0, ei_getf eft elay 8 0 8, 0, 0)))) (e_T 11 (e_T 8 (e_L 8 (0, ei_if2 3 38 11, 0, 0)) (e_L 11 (0, ei_load 0 2 12, 0, 0))) (e_T 12 (e_L 12 (0, ei_load 0 2 13, 0, 0)) (e_L 13 (0, ei_getf eft elay 8 7 16, 0, 0))))) (e_T 25 (e_T 19 (e_T 16 (e_L 16 (2, e_nof, 120, 2)) (e_L 19 (2, e_nof, 122, 1))) (e_T 22 (e_L 22 (0, ei_if1 0 38 25, 0, 0)) (e_L 25 (0, ei_load 0 2 26, 0, 0)))) (e_T 27 (e_T 26 (e_L 26 (0, ei_stk ef_dup 27, 0, 0)) (e_L 27 (0, ei_getf eft elay 8 7 30, 0, 0))) (e_T 30 (e_L 30 (0, ei_push (0, 1) 31, 0, 0)) (e_L 31 (0, ei_bin eF_add 32, 0, 0)))))) (e_T 47 (e_T 39 (e_T 35 (e_T 32 (e_L 32 (0, ei_putf eft elay 8 7 0 35, 0, 0)) (e_L 35 (0, ei_goto 0, 0, 0))) (e_T 38 (e_L 38 (0, ei_load 0 2 39, 0, 0)) (e_L 39 (0, ei_load 0 2 40, 0, 0)))) (e_T 43 (e_T 40 (e_L 40 (0, ei_getf eft elay 8 7 43, 0, 0)) (e_L 43 (0, ei_load 0 2 44, 0, 0))) (e_T 44 (e_L 44 (0, ei_getf eft elay 8 6 47, 0, 0)) (e_L 47 (0, ei_bin eF_sub 48, 0, 0))))) (e_T 54 (e_T 50 (e_T 48 (e_L 48 (0, ei_push (0, 24) 50, 0, 0)) (e_L 50 (0, ei_if2 5 57 53, 0, 0))) (e_T 53 (e_L 53 (0, ei_push (0, 3) 54, 0, 0)) (e_L 54 (0, ei_goto 61, 0, 0)))) (e_T 58 (e_T 57 (e_L 57 (0, ei_load 0 2 58, 0, 0)) (e_L 58 (2, e_nof, 126, 1))) (e_T 61 (e_L 61 (0, ei_putf eft elay 8 5 0 64, 0, 0)) (e_L 64 (1, e_nof, 0, 0)))))))
set_option maxRecDepth 20000 in
set_option maxHeartbeats 4000000 in
theorem te_125_0_ok : ∀ pc, e_EOq eft cls elay eI n_125 pc (te_125_0 pc) :=
  (e_Tok2
  (e_Tok2
  (e_Tok2
  (e_Tok2
  (e_Tok2
  (e_Lok (ld_aload_n_0 (x_dk dn_125_0_0_ok 0 rfl)))
  (e_Lok (lk_8_48g ho_125 (x_dk dn_125_0_0_ok 1 rfl))))
  (e_Tok2
  (e_Lok (ld_aload_n_0 (x_dk dn_125_0_0_ok 2 rfl)))
  (e_Lok (lk_8_36g ho_125 (x_dk dn_125_0_0_ok 3 rfl)))))
  (e_Tok2
  (e_Tok2
  (e_Lok (e_st (I := eI) (er_icmpge (off := 30) (tg := 38) (x_dk dn_125_0_0_ok 4 rfl) (by decide)) nx_if2))
  (e_Lok (ld_aload_n_0 (x_dk dn_125_0_0_ok 5 rfl))))
  (e_Tok2
  (e_Lok (ld_aload_n_0 (x_dk dn_125_0_0_ok 6 rfl)))
  (e_Lok (lk_8_48g ho_125 (x_dk dn_125_0_0_ok 7 rfl))))))
  (e_Tok2
  (e_Tok2
  (e_Tok2
  (e_Lok (lk_8_81 ho_125 (x_dk dn_125_0_0_ok 8 rfl)))
  (e_Lok (lk_8_92 ho_125 (x_dk dn_125_0_0_ok 9 rfl))))
  (e_Tok2
  (e_Lok (e_st (I := eI) (er_ifeq (off := 16) (tg := 38) (x_dk dn_125_0_0_ok 10 rfl) (by decide)) nx_if1))
  (e_Lok (ld_aload_n_0 (x_dk dn_125_0_0_ok 11 rfl)))))
  (e_Tok2
  (e_Tok2
  (e_Lok (e_st (I := eI) (er_dup (x_dk dn_125_0_0_ok 12 rfl)) (nx_stk bf_dup)))
  (e_Lok (lk_8_48g ho_125 (x_dk dn_125_0_0_ok 13 rfl))))
  (e_Tok2
  (e_Lok (ps_iconst_1 (x_dk dn_125_0_0_ok 14 rfl)))
  (e_Lok (sm_iadd (x_dk dn_125_0_0_ok 15 rfl)))))))
  (e_Tok2
  (e_Tok2
  (e_Tok2
  (e_Tok2
  (e_Lok (lk_8_48p ho_125 (x_dk dn_125_0_0_ok 16 rfl)))
  (e_Lok (e_st (I := eI) (er_goto (off := (-35)) (tg := 0) (x_dk dn_125_0_0_ok 17 rfl) (by decide)) nx_goto)))
  (e_Tok2
  (e_Lok (ld_aload_n_0 (x_dk dn_125_0_0_ok 18 rfl)))
  (e_Lok (ld_aload_n_0 (x_dk dn_125_0_0_ok 19 rfl)))))
  (e_Tok2
  (e_Tok2
  (e_Lok (lk_8_48g ho_125 (x_dk dn_125_0_0_ok 20 rfl)))
  (e_Lok (ld_aload_n_0 (x_dk dn_125_0_0_ok 21 rfl))))
  (e_Tok2
  (e_Lok (lk_8_78g ho_125 (x_dk dn_125_0_0_ok 22 rfl)))
  (e_Lok (sm_isub (x_dk dn_125_0_0_ok 23 rfl))))))
  (e_Tok2
  (e_Tok2
  (e_Tok2
  (e_Lok (ps_bipush_24 (x_dk dn_125_0_0_ok 24 rfl)))
  (e_Lok (e_st (I := eI) (er_icmple (off := 7) (tg := 57) (x_dk dn_125_0_1_ok 0 rfl) (by decide)) nx_if2)))
  (e_Tok2
  (e_Lok (ps_iconst_3 (x_dk dn_125_0_1_ok 1 rfl)))
  (e_Lok (e_st (I := eI) (er_goto (off := 7) (tg := 61) (x_dk dn_125_0_1_ok 2 rfl) (by decide)) nx_goto))))
  (e_Tok2
  (e_Tok2
  (e_Lok (ld_aload_n_0 (x_dk dn_125_0_1_ok 3 rfl)))
  (e_Lok (lk_8_102 ho_125 (x_dk dn_125_0_1_ok 4 rfl))))
  (e_Tok2
  (e_Lok (lk_8_57p ho_125 (x_dk dn_125_0_1_ok 5 rfl)))
  (e_Lok (e_rt (I := eI) (k := 0) ⟨(x_dk dn_125_0_1_ok 6 rfl), rfl⟩)))))))
def te_125 : Nat → eE := te_125_0
theorem te_125_ok : ∀ pc, e_EOq eft cls elay eI n_125 pc (te_125 pc) := te_125_0_ok
theorem ho_129 : (xm_y n_129).cls = "RobotCellHouse$Reader" := rfl
def dn_129_0_0 : List (Nat × Instr × Nat) := [(0, .aload_n 0, 1), (1, .getfield 57, 3), (4, .iload_n 1, 1), (5, .if_icmp .ne 10, 3), (8, .aload_n 0, 1), (9, .invokevirtual 54, 3), (12, .goto 7, 3), (15, .aload_n 0, 1), (16, .invokevirtual 66, 3), (19, .return_, 1)]
set_option maxRecDepth 20000 in
theorem dn_129_0_0_ok : dn_129_0_0.all (fun q => decide (decode (xm_b n_129) q.1 = .ok (q.2.1, q.2.2))) = true := xa_g_ok (by decide +kernel)
def te_129_0 : Nat → eE := (e_T 8 (e_T 1 (e_T 0 (e_L 0 (0, ei_load 0 2 1, 0, 0)) (e_L 1 (0, ei_getf eft elay 8 5 4, 0, 0))) (e_T 4 (e_L 4 (0, ei_load 1 0 5, 0, 0)) (e_T 5 (e_L 5 (0, ei_if2 1 15 8, 0, 0)) (e_L 8 (0, ei_load 0 2 9, 0, 0))))) (e_T 12 (e_T 9 (e_L 9 (2, e_nof, 123, 1)) (e_L 12 (0, ei_goto 19, 0, 0))) (e_T 15 (e_L 15 (0, ei_load 0 2 16, 0, 0)) (e_T 16 (e_L 16 (2, e_nof, 130, 1)) (e_L 19 (1, e_nof, 0, 0))))))
set_option maxRecDepth 20000 in
set_option maxHeartbeats 4000000 in
theorem te_129_0_ok : ∀ pc, e_EOq eft cls elay eI n_129 pc (te_129_0 pc) :=
  (e_Tok2
  (e_Tok2
  (e_Tok2
  (e_Lok (ld_aload_n_0 (x_dk dn_129_0_0_ok 0 rfl)))
  (e_Lok (lk_8_57g ho_129 (x_dk dn_129_0_0_ok 1 rfl))))
  (e_Tok2
  (e_Lok (ld_iload_n_1 (x_dk dn_129_0_0_ok 2 rfl)))
  (e_Tok2
  (e_Lok (e_st (I := eI) (er_icmpne (off := 10) (tg := 15) (x_dk dn_129_0_0_ok 3 rfl) (by decide)) nx_if2))
  (e_Lok (ld_aload_n_0 (x_dk dn_129_0_0_ok 4 rfl))))))
  (e_Tok2
  (e_Tok2
  (e_Lok (lk_8_54 ho_129 (x_dk dn_129_0_0_ok 5 rfl)))
  (e_Lok (e_st (I := eI) (er_goto (off := 7) (tg := 19) (x_dk dn_129_0_0_ok 6 rfl) (by decide)) nx_goto)))
  (e_Tok2
  (e_Lok (ld_aload_n_0 (x_dk dn_129_0_0_ok 7 rfl)))
  (e_Tok2
  (e_Lok (lk_8_66 ho_129 (x_dk dn_129_0_0_ok 8 rfl)))
  (e_Lok (e_rt (I := eI) (k := 0) ⟨(x_dk dn_129_0_0_ok 9 rfl), rfl⟩))))))
def te_129 : Nat → eE := te_129_0
theorem te_129_ok : ∀ pc, e_EOq eft cls elay eI n_129 pc (te_129 pc) := te_129_0_ok
theorem ho_130 : (xm_y n_130).cls = "RobotCellHouse$Reader" := rfl
def dn_130_0_0 : List (Nat × Instr × Nat) := [(0, .aload_n 0, 1), (1, .aload_n 0, 1), (2, .getfield 57, 3), (5, .iconst 3, 1), (6, .if_icmp .ne 7, 3), (9, .iconst 1, 1), (10, .goto 4, 3), (13, .iconst 2, 1), (14, .invokevirtual 140, 3), (17, .return_, 1)]
set_option maxRecDepth 20000 in
theorem dn_130_0_0_ok : dn_130_0_0.all (fun q => decide (decode (xm_b n_130) q.1 = .ok (q.2.1, q.2.2))) = true := xa_g_ok (by decide +kernel)
def te_130_0 : Nat → eE := (e_T 6 (e_T 1 (e_T 0 (e_L 0 (0, ei_load 0 2 1, 0, 0)) (e_L 1 (0, ei_load 0 2 2, 0, 0))) (e_T 2 (e_L 2 (0, ei_getf eft elay 8 5 5, 0, 0)) (e_T 5 (e_L 5 (0, ei_push (0, 3) 6, 0, 0)) (e_L 6 (0, ei_if2 1 13 9, 0, 0))))) (e_T 10 (e_T 9 (e_L 9 (0, ei_push (0, 1) 10, 0, 0)) (e_L 10 (0, ei_goto 14, 0, 0))) (e_T 13 (e_L 13 (0, ei_push (0, 2) 14, 0, 0)) (e_T 14 (e_L 14 (2, e_nof, 131, 2)) (e_L 17 (1, e_nof, 0, 0))))))
set_option maxRecDepth 20000 in
set_option maxHeartbeats 4000000 in
theorem te_130_0_ok : ∀ pc, e_EOq eft cls elay eI n_130 pc (te_130_0 pc) :=
  (e_Tok2
  (e_Tok2
  (e_Tok2
  (e_Lok (ld_aload_n_0 (x_dk dn_130_0_0_ok 0 rfl)))
  (e_Lok (ld_aload_n_0 (x_dk dn_130_0_0_ok 1 rfl))))
  (e_Tok2
  (e_Lok (lk_8_57g ho_130 (x_dk dn_130_0_0_ok 2 rfl)))
  (e_Tok2
  (e_Lok (ps_iconst_3 (x_dk dn_130_0_0_ok 3 rfl)))
  (e_Lok (e_st (I := eI) (er_icmpne (off := 7) (tg := 13) (x_dk dn_130_0_0_ok 4 rfl) (by decide)) nx_if2)))))
  (e_Tok2
  (e_Tok2
  (e_Lok (ps_iconst_1 (x_dk dn_130_0_0_ok 5 rfl)))
  (e_Lok (e_st (I := eI) (er_goto (off := 4) (tg := 14) (x_dk dn_130_0_0_ok 6 rfl) (by decide)) nx_goto)))
  (e_Tok2
  (e_Lok (ps_iconst_2 (x_dk dn_130_0_0_ok 7 rfl)))
  (e_Tok2
  (e_Lok (lk_8_140 ho_130 (x_dk dn_130_0_0_ok 8 rfl)))
  (e_Lok (e_rt (I := eI) (k := 0) ⟨(x_dk dn_130_0_0_ok 9 rfl), rfl⟩))))))
def te_130 : Nat → eE := te_130_0
theorem te_130_ok : ∀ pc, e_EOq eft cls elay eI n_130 pc (te_130 pc) := te_130_0_ok
theorem ho_131 : (xm_y n_131).cls = "RobotCellHouse$Reader" := rfl
def dn_131_0_0 : List (Nat × Instr × Nat) := [(0, .aload_n 0, 1), (1, .getfield 9, 3), (4, .ifCond .ne 16, 3), (7, .aload_n 0, 1), (8, .iload_n 1, 1), (9, .putfield 9, 3), (12, .aload_n 0, 1), (13, .aload_n 0, 1), (14, .getfield 78, 3), (17, .putfield 15, 3), (20, .aload_n 0, 1), (21, .iconst 4, 1), (22, .putfield 57, 3), (25, .return_, 1)]
set_option maxRecDepth 20000 in
theorem dn_131_0_0_ok : dn_131_0_0.all (fun q => decide (decode (xm_b n_131) q.1 = .ok (q.2.1, q.2.2))) = true := xa_g_ok (by decide +kernel)
def te_131_0 : Nat → eE := (e_T 12 (e_T 4 (e_T 0 (e_L 0 (0, ei_load 0 2 1, 0, 0)) (e_T 1 (e_L 1 (0, ei_getf eft elay 8 1 4, 0, 0)) (e_L 4 (0, ei_if1 1 20 7, 0, 0)))) (e_T 8 (e_T 7 (e_L 7 (0, ei_load 0 2 8, 0, 0)) (e_L 8 (0, ei_load 1 0 9, 0, 0))) (e_T 9 (e_L 9 (0, ei_putf eft elay 8 1 0 12, 0, 0)) (e_L 12 (0, ei_load 0 2 13, 0, 0))))) (e_T 17 (e_T 13 (e_L 13 (0, ei_load 0 2 14, 0, 0)) (e_T 14 (e_L 14 (0, ei_getf eft elay 8 6 17, 0, 0)) (e_L 17 (0, ei_putf eft elay 8 2 0 20, 0, 0)))) (e_T 21 (e_T 20 (e_L 20 (0, ei_load 0 2 21, 0, 0)) (e_L 21 (0, ei_push (0, 4) 22, 0, 0))) (e_T 22 (e_L 22 (0, ei_putf eft elay 8 5 0 25, 0, 0)) (e_L 25 (1, e_nof, 0, 0))))))
set_option maxRecDepth 20000 in
set_option maxHeartbeats 4000000 in
theorem te_131_0_ok : ∀ pc, e_EOq eft cls elay eI n_131 pc (te_131_0 pc) :=
  (e_Tok2
  (e_Tok2
  (e_Tok2
  (e_Lok (ld_aload_n_0 (x_dk dn_131_0_0_ok 0 rfl)))
  (e_Tok2
  (e_Lok (lk_8_9g ho_131 (x_dk dn_131_0_0_ok 1 rfl)))
  (e_Lok (e_st (I := eI) (er_ifne (off := 16) (tg := 20) (x_dk dn_131_0_0_ok 2 rfl) (by decide)) nx_if1))))
  (e_Tok2
  (e_Tok2
  (e_Lok (ld_aload_n_0 (x_dk dn_131_0_0_ok 3 rfl)))
  (e_Lok (ld_iload_n_1 (x_dk dn_131_0_0_ok 4 rfl))))
  (e_Tok2
  (e_Lok (lk_8_9p ho_131 (x_dk dn_131_0_0_ok 5 rfl)))
  (e_Lok (ld_aload_n_0 (x_dk dn_131_0_0_ok 6 rfl))))))
  (e_Tok2
  (e_Tok2
  (e_Lok (ld_aload_n_0 (x_dk dn_131_0_0_ok 7 rfl)))
  (e_Tok2
  (e_Lok (lk_8_78g ho_131 (x_dk dn_131_0_0_ok 8 rfl)))
  (e_Lok (lk_8_15p ho_131 (x_dk dn_131_0_0_ok 9 rfl)))))
  (e_Tok2
  (e_Tok2
  (e_Lok (ld_aload_n_0 (x_dk dn_131_0_0_ok 10 rfl)))
  (e_Lok (ps_iconst_4 (x_dk dn_131_0_0_ok 11 rfl))))
  (e_Tok2
  (e_Lok (lk_8_57p ho_131 (x_dk dn_131_0_0_ok 12 rfl)))
  (e_Lok (e_rt (I := eI) (k := 0) ⟨(x_dk dn_131_0_0_ok 13 rfl), rfl⟩))))))
def te_131 : Nat → eE := te_131_0
theorem te_131_ok : ∀ pc, e_EOq eft cls elay eI n_131 pc (te_131 pc) := te_131_0_ok
theorem ho_132 : (xm_y n_132).cls = "RobotCellHouse$Reader" := rfl
def dn_132_0_0 : List (Nat × Instr × Nat) := [(0, .aload_n 0, 1), (1, .getfield 42, 3), (4, .bipush 30, 2), (6, .if_icmp .lt 10, 3), (9, .aload_n 0, 1), (10, .iconst 3, 1), (11, .invokevirtual 140, 3), (14, .iconst 0, 1), (15, .ireturn, 1), (16, .aload_n 0, 1), (17, .dup, 1), (18, .getfield 42, 3), (21, .iconst 1, 1), (22, .iadd, 1), (23, .putfield 42, 3), (26, .iconst 1, 1), (27, .ireturn, 1)]
set_option maxRecDepth 20000 in
theorem dn_132_0_0_ok : dn_132_0_0.all (fun q => decide (decode (xm_b n_132) q.1 = .ok (q.2.1, q.2.2))) = true := xa_g_ok (by decide +kernel)
def te_132_0 : Nat → eE := (e_T 14 (e_T 6 (e_T 1 (e_T 0 (e_L 0 (0, ei_load 0 2 1, 0, 0)) (e_L 1 (0, ei_getf eft elay 8 11 4, 0, 0))) (e_T 4 (e_L 4 (0, ei_push (0, 30) 6, 0, 0)) (e_L 6 (0, ei_if2 2 16 9, 0, 0)))) (e_T 10 (e_T 9 (e_L 9 (0, ei_load 0 2 10, 0, 0)) (e_L 10 (0, ei_push (0, 3) 11, 0, 0))) (e_T 11 (e_L 11 (2, e_nof, 131, 2)) (e_L 14 (0, ei_push (0, 0) 15, 0, 0))))) (e_T 18 (e_T 16 (e_T 15 (e_L 15 (1, e_nof, 4, 0)) (e_L 16 (0, ei_load 0 2 17, 0, 0))) (e_T 17 (e_L 17 (0, ei_stk ef_dup 18, 0, 0)) (e_L 18 (0, ei_getf eft elay 8 11 21, 0, 0)))) (e_T 22 (e_T 21 (e_L 21 (0, ei_push (0, 1) 22, 0, 0)) (e_L 22 (0, ei_bin eF_add 23, 0, 0))) (e_T 23 (e_L 23 (0, ei_putf eft elay 8 11 0 26, 0, 0)) (e_T 26 (e_L 26 (0, ei_push (0, 1) 27, 0, 0)) (e_L 27 (1, e_nof, 4, 0)))))))
set_option maxRecDepth 20000 in
set_option maxHeartbeats 4000000 in
theorem te_132_0_ok : ∀ pc, e_EOq eft cls elay eI n_132 pc (te_132_0 pc) :=
  (e_Tok2
  (e_Tok2
  (e_Tok2
  (e_Tok2
  (e_Lok (ld_aload_n_0 (x_dk dn_132_0_0_ok 0 rfl)))
  (e_Lok (lk_8_42g ho_132 (x_dk dn_132_0_0_ok 1 rfl))))
  (e_Tok2
  (e_Lok (ps_bipush_30 (x_dk dn_132_0_0_ok 2 rfl)))
  (e_Lok (e_st (I := eI) (er_icmplt (off := 10) (tg := 16) (x_dk dn_132_0_0_ok 3 rfl) (by decide)) nx_if2))))
  (e_Tok2
  (e_Tok2
  (e_Lok (ld_aload_n_0 (x_dk dn_132_0_0_ok 4 rfl)))
  (e_Lok (ps_iconst_3 (x_dk dn_132_0_0_ok 5 rfl))))
  (e_Tok2
  (e_Lok (lk_8_140 ho_132 (x_dk dn_132_0_0_ok 6 rfl)))
  (e_Lok (ps_iconst_0 (x_dk dn_132_0_0_ok 7 rfl))))))
  (e_Tok2
  (e_Tok2
  (e_Tok2
  (e_Lok (e_rt (I := eI) (k := 4) ⟨(x_dk dn_132_0_0_ok 8 rfl), rfl⟩))
  (e_Lok (ld_aload_n_0 (x_dk dn_132_0_0_ok 9 rfl))))
  (e_Tok2
  (e_Lok (e_st (I := eI) (er_dup (x_dk dn_132_0_0_ok 10 rfl)) (nx_stk bf_dup)))
  (e_Lok (lk_8_42g ho_132 (x_dk dn_132_0_0_ok 11 rfl)))))
  (e_Tok2
  (e_Tok2
  (e_Lok (ps_iconst_1 (x_dk dn_132_0_0_ok 12 rfl)))
  (e_Lok (sm_iadd (x_dk dn_132_0_0_ok 13 rfl))))
  (e_Tok2
  (e_Lok (lk_8_42p ho_132 (x_dk dn_132_0_0_ok 14 rfl)))
  (e_Tok2
  (e_Lok (ps_iconst_1 (x_dk dn_132_0_0_ok 15 rfl)))
  (e_Lok (e_rt (I := eI) (k := 4) ⟨(x_dk dn_132_0_0_ok 16 rfl), rfl⟩)))))))
def te_132 : Nat → eE := te_132_0
theorem te_132_ok : ∀ pc, e_EOq eft cls elay eI n_132 pc (te_132 pc) := te_132_0_ok
theorem ho_133 : (xm_y n_133).cls = "RobotCellHouse$Reader" := rfl
def dn_133_0_0 : List (Nat × Instr × Nat) := [(0, .aload_n 0, 1), (1, .getfield 39, 3), (4, .ifCond .eq 11, 3), (7, .iload_n 2, 1), (8, .aload_n 0, 1), (9, .getfield 72, 3), (12, .if_icmp .ge 7, 3), (15, .iconst 1, 1), (16, .goto 4, 3), (19, .iconst 0, 1), (20, .istore_n 3, 1), (21, .iload_n 3, 1), (22, .ifCond .ne 20, 3), (25, .iload_n 2, 1), (26, .aload_n 0, 1), (27, .getfield 72, 3), (30, .if_icmp .gt 11, 3), (33, .iload_n 1, 1), (34, .aload_n 0, 1), (35, .getfield 39, 3), (38, .if_icmp .le 4, 3), (41, .return_, 1), (42, .aload_n 0, 1), (43, .iload_n 1, 1), (44, .putfield 39, 3)]
set_option maxRecDepth 20000 in
theorem dn_133_0_0_ok : dn_133_0_0.all (fun q => decide (decode (xm_b n_133) q.1 = .ok (q.2.1, q.2.2))) = true := xa_g_ok (by decide +kernel)
def dn_133_0_1 : List (Nat × Instr × Nat) := [(47, .aload_n 0, 1), (48, .iload_n 2, 1), (49, .putfield 72, 3), (52, .return_, 1)]
set_option maxRecDepth 20000 in
theorem dn_133_0_1_ok : dn_133_0_1.all (fun q => decide (decode (xm_b n_133) q.1 = .ok (q.2.1, q.2.2))) = true := xa_g_ok (by decide +kernel)
def te_133_0 : Nat → eE := (e_T 25 (e_T 12 (e_T 4 (e_T 0 (e_L 0 (0, ei_load 0 2 1, 0, 0)) (e_T 1 (e_L 1 (0, ei_getf eft elay 8 9 4, 0, 0)) (e_L 4 (0, ei_if1 0 15 7, 0, 0)))) (e_T 8 (e_T 7 (e_L 7 (0, ei_load 2 0 8, 0, 0)) (e_L 8 (0, ei_load 0 2 9, 0, 0))) (e_T 9 (e_L 9 (0, ei_getf eft elay 8 10 12, 0, 0)) (e_L 12 (0, ei_if2 3 19 15, 0, 0))))) (e_T 19 (e_T 15 (e_L 15 (0, ei_push (0, 1) 16, 0, 0)) (e_T 16 (e_L 16 (0, ei_goto 20, 0, 0)) (e_L 19 (0, ei_push (0, 0) 20, 0, 0)))) (e_T 21 (e_T 20 (e_L 20 (0, ei_stor 3 0 21, 0, 0)) (e_L 21 (0, ei_load 3 0 22, 0, 0))) (e_T 22 (e_L 22 (0, ei_if1 1 42 25, 0, 0)) (e_L 25 (0, ei_load 2 0 26, 0, 0)))))) (e_T 38 (e_T 30 (e_T 26 (e_L 26 (0, ei_load 0 2 27, 0, 0)) (e_T 27 (e_L 27 (0, ei_getf eft elay 8 10 30, 0, 0)) (e_L 30 (0, ei_if2 4 41 33, 0, 0)))) (e_T 34 (e_T 33 (e_L 33 (0, ei_load 1 0 34, 0, 0)) (e_L 34 (0, ei_load 0 2 35, 0, 0))) (e_T 35 (e_L 35 (0, ei_getf eft elay 8 9 38, 0, 0)) (e_L 38 (0, ei_if2 5 42 41, 0, 0))))) (e_T 44 (e_T 42 (e_T 41 (e_L 41 (1, e_nof, 0, 0)) (e_L 42 (0, ei_load 0 2 43, 0, 0))) (e_T 43 (e_L 43 (0, ei_load 1 0 44, 0, 0)) (e_L 44 (0, ei_putf eft elay 8 9 0 47, 0, 0)))) (e_T 48 (e_T 47 (e_L 47 (0, ei_load 0 2 48, 0, 0)) (e_L 48 (0, ei_load 2 0 49, 0, 0))) (e_T 49 (e_L 49 (0, ei_putf eft elay 8 10 0 52, 0, 0)) (e_L 52 (1, e_nof, 0, 0)))))))
set_option maxRecDepth 20000 in
set_option maxHeartbeats 4000000 in
theorem te_133_0_ok : ∀ pc, e_EOq eft cls elay eI n_133 pc (te_133_0 pc) :=
  (e_Tok2
  (e_Tok2
  (e_Tok2
  (e_Tok2
  (e_Lok (ld_aload_n_0 (x_dk dn_133_0_0_ok 0 rfl)))
  (e_Tok2
  (e_Lok (lk_8_39g ho_133 (x_dk dn_133_0_0_ok 1 rfl)))
  (e_Lok (e_st (I := eI) (er_ifeq (off := 11) (tg := 15) (x_dk dn_133_0_0_ok 2 rfl) (by decide)) nx_if1))))
  (e_Tok2
  (e_Tok2
  (e_Lok (ld_iload_n_2 (x_dk dn_133_0_0_ok 3 rfl)))
  (e_Lok (ld_aload_n_0 (x_dk dn_133_0_0_ok 4 rfl))))
  (e_Tok2
  (e_Lok (lk_8_72g ho_133 (x_dk dn_133_0_0_ok 5 rfl)))
  (e_Lok (e_st (I := eI) (er_icmpge (off := 7) (tg := 19) (x_dk dn_133_0_0_ok 6 rfl) (by decide)) nx_if2)))))
  (e_Tok2
  (e_Tok2
  (e_Lok (ps_iconst_1 (x_dk dn_133_0_0_ok 7 rfl)))
  (e_Tok2
  (e_Lok (e_st (I := eI) (er_goto (off := 4) (tg := 20) (x_dk dn_133_0_0_ok 8 rfl) (by decide)) nx_goto))
  (e_Lok (ps_iconst_0 (x_dk dn_133_0_0_ok 9 rfl)))))
  (e_Tok2
  (e_Tok2
  (e_Lok (e_st (I := eI) (er_istore_n (i := 3) (x_dk dn_133_0_0_ok 10 rfl) (by decide +kernel)) nx_stor))
  (e_Lok (ld_iload_n_3 (x_dk dn_133_0_0_ok 11 rfl))))
  (e_Tok2
  (e_Lok (e_st (I := eI) (er_ifne (off := 20) (tg := 42) (x_dk dn_133_0_0_ok 12 rfl) (by decide)) nx_if1))
  (e_Lok (ld_iload_n_2 (x_dk dn_133_0_0_ok 13 rfl)))))))
  (e_Tok2
  (e_Tok2
  (e_Tok2
  (e_Lok (ld_aload_n_0 (x_dk dn_133_0_0_ok 14 rfl)))
  (e_Tok2
  (e_Lok (lk_8_72g ho_133 (x_dk dn_133_0_0_ok 15 rfl)))
  (e_Lok (e_st (I := eI) (er_icmpgt (off := 11) (tg := 41) (x_dk dn_133_0_0_ok 16 rfl) (by decide)) nx_if2))))
  (e_Tok2
  (e_Tok2
  (e_Lok (ld_iload_n_1 (x_dk dn_133_0_0_ok 17 rfl)))
  (e_Lok (ld_aload_n_0 (x_dk dn_133_0_0_ok 18 rfl))))
  (e_Tok2
  (e_Lok (lk_8_39g ho_133 (x_dk dn_133_0_0_ok 19 rfl)))
  (e_Lok (e_st (I := eI) (er_icmple (off := 4) (tg := 42) (x_dk dn_133_0_0_ok 20 rfl) (by decide)) nx_if2)))))
  (e_Tok2
  (e_Tok2
  (e_Tok2
  (e_Lok (e_rt (I := eI) (k := 0) ⟨(x_dk dn_133_0_0_ok 21 rfl), rfl⟩))
  (e_Lok (ld_aload_n_0 (x_dk dn_133_0_0_ok 22 rfl))))
  (e_Tok2
  (e_Lok (ld_iload_n_1 (x_dk dn_133_0_0_ok 23 rfl)))
  (e_Lok (lk_8_39p ho_133 (x_dk dn_133_0_0_ok 24 rfl)))))
  (e_Tok2
  (e_Tok2
  (e_Lok (ld_aload_n_0 (x_dk dn_133_0_1_ok 0 rfl)))
  (e_Lok (ld_iload_n_2 (x_dk dn_133_0_1_ok 1 rfl))))
  (e_Tok2
  (e_Lok (lk_8_72p ho_133 (x_dk dn_133_0_1_ok 2 rfl)))
  (e_Lok (e_rt (I := eI) (k := 0) ⟨(x_dk dn_133_0_1_ok 3 rfl), rfl⟩)))))))
def te_133 : Nat → eE := te_133_0
theorem te_133_ok : ∀ pc, e_EOq eft cls elay eI n_133 pc (te_133 pc) := te_133_0_ok
theorem ho_134 : (xm_y n_134).cls = "RobotCellHouse$Reader" := rfl
def dn_134_0_0 : List (Nat × Instr × Nat) := [(0, .iconst 0, 1), (1, .istore_n 3, 1), (2, .iload_n 3, 1), (3, .bipush 24, 2), (5, .if_icmp .ge 39, 3), (8, .aload_n 0, 1), (9, .iload_n 1, 1), (10, .iload_n 3, 1), (11, .iadd, 1), (12, .invokevirtual 81, 3), (15, .invokestatic 92, 3), (18, .ifCond .eq 26, 3), (21, .aload_n 0, 1), (22, .iload_n 1, 1), (23, .iload_n 3, 1), (24, .iadd, 1), (25, .invokevirtual 81, 3), (28, .aload_n 0, 1), (29, .iload_n 2, 1), (30, .iload_n 3, 1), (31, .iadd, 1), (32, .invokevirtual 81, 3), (35, .if_icmp .ne 9, 3), (38, .iinc 3 1, 3), (41, .goto (-39), 3)]
set_option maxRecDepth 20000 in
theorem dn_134_0_0_ok : dn_134_0_0.all (fun q => decide (decode (xm_b n_134) q.1 = .ok (q.2.1, q.2.2))) = true := xa_g_ok (by decide +kernel)
def dn_134_0_1 : List (Nat × Instr × Nat) := [(44, .aload_n 0, 1), (45, .iload_n 1, 1), (46, .iload_n 3, 1), (47, .iadd, 1), (48, .invokevirtual 81, 3), (51, .invokestatic 92, 3), (54, .ifCond .ne 20, 3), (57, .aload_n 0, 1), (58, .iload_n 2, 1), (59, .iload_n 3, 1), (60, .iadd, 1), (61, .invokevirtual 81, 3), (64, .invokestatic 92, 3), (67, .ifCond .ne 7, 3), (70, .iconst 1, 1), (71, .goto 4, 3), (74, .iconst 0, 1), (75, .ireturn, 1)]
set_option maxRecDepth 20000 in
theorem dn_134_0_1_ok : dn_134_0_1.all (fun q => decide (decode (xm_b n_134) q.1 = .ok (q.2.1, q.2.2))) = true := xa_g_ok (by decide +kernel)
def te_134_0 : Nat → eE := (e_T 12 (e_T 5 (e_T 1 (e_T 0 (e_L 0 (0, ei_push (0, 0) 1, 0, 0)) (e_L 1 (0, ei_stor 3 0 2, 0, 0))) (e_T 2 (e_L 2 (0, ei_load 3 0 3, 0, 0)) (e_T 3 (e_L 3 (0, ei_push (0, 24) 5, 0, 0)) (e_L 5 (0, ei_if2 3 44 8, 0, 0))))) (e_T 9 (e_T 8 (e_L 8 (0, ei_load 0 2 9, 0, 0)) (e_L 9 (0, ei_load 1 0 10, 0, 0))) (e_T 10 (e_L 10 (0, ei_load 3 0 11, 0, 0)) (e_T 11 (e_L 11 (0, ei_bin eF_add 12, 0, 0)) (e_L 12 (2, e_nof, 120, 2)))))) (e_T 23 (e_T 18 (e_T 15 (e_L 15 (2, e_nof, 122, 1)) (e_L 18 (0, ei_if1 0 44 21, 0, 0))) (e_T 21 (e_L 21 (0, ei_load 0 2 22, 0, 0)) (e_T 22 (e_L 22 (0, ei_load 1 0 23, 0, 0)) (e_L 23 (0, ei_load 3 0 24, 0, 0))))) (e_T 28 (e_T 24 (e_L 24 (0, ei_bin eF_add 25, 0, 0)) (e_T 25 (e_L 25 (2, e_nof, 120, 2)) (e_L 28 (0, ei_load 0 2 29, 0, 0)))) (e_T 29 (e_L 29 (0, ei_load 2 0 30, 0, 0)) (e_T 30 (e_L 30 (0, ei_load 3 0 31, 0, 0)) (e_L 31 (0, ei_bin eF_add 32, 0, 0)))))))
set_option maxRecDepth 20000 in
set_option maxHeartbeats 4000000 in
theorem te_134_0_ok : ∀ pc, e_EOq eft cls elay eI n_134 pc (te_134_0 pc) :=
  (e_Tok2
  (e_Tok2
  (e_Tok2
  (e_Tok2
  (e_Lok (ps_iconst_0 (x_dk dn_134_0_0_ok 0 rfl)))
  (e_Lok (e_st (I := eI) (er_istore_n (i := 3) (x_dk dn_134_0_0_ok 1 rfl) (by decide +kernel)) nx_stor)))
  (e_Tok2
  (e_Lok (ld_iload_n_3 (x_dk dn_134_0_0_ok 2 rfl)))
  (e_Tok2
  (e_Lok (ps_bipush_24 (x_dk dn_134_0_0_ok 3 rfl)))
  (e_Lok (e_st (I := eI) (er_icmpge (off := 39) (tg := 44) (x_dk dn_134_0_0_ok 4 rfl) (by decide)) nx_if2)))))
  (e_Tok2
  (e_Tok2
  (e_Lok (ld_aload_n_0 (x_dk dn_134_0_0_ok 5 rfl)))
  (e_Lok (ld_iload_n_1 (x_dk dn_134_0_0_ok 6 rfl))))
  (e_Tok2
  (e_Lok (ld_iload_n_3 (x_dk dn_134_0_0_ok 7 rfl)))
  (e_Tok2
  (e_Lok (sm_iadd (x_dk dn_134_0_0_ok 8 rfl)))
  (e_Lok (lk_8_81 ho_134 (x_dk dn_134_0_0_ok 9 rfl)))))))
  (e_Tok2
  (e_Tok2
  (e_Tok2
  (e_Lok (lk_8_92 ho_134 (x_dk dn_134_0_0_ok 10 rfl)))
  (e_Lok (e_st (I := eI) (er_ifeq (off := 26) (tg := 44) (x_dk dn_134_0_0_ok 11 rfl) (by decide)) nx_if1)))
  (e_Tok2
  (e_Lok (ld_aload_n_0 (x_dk dn_134_0_0_ok 12 rfl)))
  (e_Tok2
  (e_Lok (ld_iload_n_1 (x_dk dn_134_0_0_ok 13 rfl)))
  (e_Lok (ld_iload_n_3 (x_dk dn_134_0_0_ok 14 rfl))))))
  (e_Tok2
  (e_Tok2
  (e_Lok (sm_iadd (x_dk dn_134_0_0_ok 15 rfl)))
  (e_Tok2
  (e_Lok (lk_8_81 ho_134 (x_dk dn_134_0_0_ok 16 rfl)))
  (e_Lok (ld_aload_n_0 (x_dk dn_134_0_0_ok 17 rfl)))))
  (e_Tok2
  (e_Lok (ld_iload_n_2 (x_dk dn_134_0_0_ok 18 rfl)))
  (e_Tok2
  (e_Lok (ld_iload_n_3 (x_dk dn_134_0_0_ok 19 rfl)))
  (e_Lok (sm_iadd (x_dk dn_134_0_0_ok 20 rfl))))))))
def te_134_21 : Nat → eE := (e_T 54 (e_T 44 (e_T 35 (e_T 32 (e_L 32 (2, e_nof, 120, 2)) (e_L 35 (0, ei_if2 1 44 38, 0, 0))) (e_T 38 (e_L 38 (0, ei_inc 3 1 41, 0, 0)) (e_T 41 (e_L 41 (0, ei_goto 2, 0, 0)) (e_L 44 (0, ei_load 0 2 45, 0, 0))))) (e_T 47 (e_T 45 (e_L 45 (0, ei_load 1 0 46, 0, 0)) (e_T 46 (e_L 46 (0, ei_load 3 0 47, 0, 0)) (e_L 47 (0, ei_bin eF_add 48, 0, 0)))) (e_T 48 (e_L 48 (2, e_nof, 120, 2)) (e_T 51 (e_L 51 (2, e_nof, 122, 1)) (e_L 54 (0, ei_if1 1 74 57, 0, 0)))))) (e_T 61 (e_T 58 (e_T 57 (e_L 57 (0, ei_load 0 2 58, 0, 0)) (e_L 58 (0, ei_load 2 0 59, 0, 0))) (e_T 59 (e_L 59 (0, ei_load 3 0 60, 0, 0)) (e_T 60 (e_L 60 (0, ei_bin eF_add 61, 0, 0)) (e_L 61 (2, e_nof, 120, 2))))) (e_T 70 (e_T 64 (e_L 64 (2, e_nof, 122, 1)) (e_T 67 (e_L 67 (0, ei_if1 1 74 70, 0, 0)) (e_L 70 (0, ei_push (0, 1) 71, 0, 0)))) (e_T 71 (e_L 71 (0, ei_goto 75, 0, 0)) (e_T 74 (e_L 74 (0, ei_push (0, 0) 75, 0, 0)) (e_L 75 (1, e_nof, 4, 0)))))))
set_option maxRecDepth 20000 in
set_option maxHeartbeats 4000000 in
theorem te_134_21_ok : ∀ pc, e_EOq eft cls elay eI n_134 pc (te_134_21 pc) :=
  (e_Tok2
  (e_Tok2
  (e_Tok2
  (e_Tok2
  (e_Lok (lk_8_81 ho_134 (x_dk dn_134_0_0_ok 21 rfl)))
  (e_Lok (e_st (I := eI) (er_icmpne (off := 9) (tg := 44) (x_dk dn_134_0_0_ok 22 rfl) (by decide)) nx_if2)))
  (e_Tok2
  (e_Lok (e_st (I := eI) (er_iinc (i := 3) (n := 1) (x_dk dn_134_0_0_ok 23 rfl) (by decide +kernel) (by decide)) nx_inc))
  (e_Tok2
  (e_Lok (e_st (I := eI) (er_goto (off := (-39)) (tg := 2) (x_dk dn_134_0_0_ok 24 rfl) (by decide)) nx_goto))
  (e_Lok (ld_aload_n_0 (x_dk dn_134_0_1_ok 0 rfl))))))
  (e_Tok2
  (e_Tok2
  (e_Lok (ld_iload_n_1 (x_dk dn_134_0_1_ok 1 rfl)))
  (e_Tok2
  (e_Lok (ld_iload_n_3 (x_dk dn_134_0_1_ok 2 rfl)))
  (e_Lok (sm_iadd (x_dk dn_134_0_1_ok 3 rfl)))))
  (e_Tok2
  (e_Lok (lk_8_81 ho_134 (x_dk dn_134_0_1_ok 4 rfl)))
  (e_Tok2
  (e_Lok (lk_8_92 ho_134 (x_dk dn_134_0_1_ok 5 rfl)))
  (e_Lok (e_st (I := eI) (er_ifne (off := 20) (tg := 74) (x_dk dn_134_0_1_ok 6 rfl) (by decide)) nx_if1))))))
  (e_Tok2
  (e_Tok2
  (e_Tok2
  (e_Lok (ld_aload_n_0 (x_dk dn_134_0_1_ok 7 rfl)))
  (e_Lok (ld_iload_n_2 (x_dk dn_134_0_1_ok 8 rfl))))
  (e_Tok2
  (e_Lok (ld_iload_n_3 (x_dk dn_134_0_1_ok 9 rfl)))
  (e_Tok2
  (e_Lok (sm_iadd (x_dk dn_134_0_1_ok 10 rfl)))
  (e_Lok (lk_8_81 ho_134 (x_dk dn_134_0_1_ok 11 rfl))))))
  (e_Tok2
  (e_Tok2
  (e_Lok (lk_8_92 ho_134 (x_dk dn_134_0_1_ok 12 rfl)))
  (e_Tok2
  (e_Lok (e_st (I := eI) (er_ifne (off := 7) (tg := 74) (x_dk dn_134_0_1_ok 13 rfl) (by decide)) nx_if1))
  (e_Lok (ps_iconst_1 (x_dk dn_134_0_1_ok 14 rfl)))))
  (e_Tok2
  (e_Lok (e_st (I := eI) (er_goto (off := 4) (tg := 75) (x_dk dn_134_0_1_ok 15 rfl) (by decide)) nx_goto))
  (e_Tok2
  (e_Lok (ps_iconst_0 (x_dk dn_134_0_1_ok 16 rfl)))
  (e_Lok (e_rt (I := eI) (k := 4) ⟨(x_dk dn_134_0_1_ok 17 rfl), rfl⟩)))))))
def te_134 : Nat → eE := (e_T 31 te_134_0 te_134_21)
theorem te_134_ok : ∀ pc, e_EOq eft cls elay eI n_134 pc (te_134 pc) := (e_Tok2 (te_134_0_ok) (te_134_21_ok))
theorem ho_135 : (xm_y n_135).cls = "RobotCellHouse$Reader" := rfl
def dn_135_0_0 : List (Nat × Instr × Nat) := [(0, .iconst 0, 1), (1, .istore_n 2, 1), (2, .iload_n 2, 1), (3, .aload_n 0, 1), (4, .getfield 21, 3), (7, .getfield 143, 3), (10, .if_icmp .ge 25, 3), (13, .aload_n 0, 1), (14, .aload_n 0, 1), (15, .getfield 29, 3), (18, .iload_n 2, 1), (19, .iaload, 1), (20, .iload_n 1, 1), (21, .invokevirtual 146, 3), (24, .ifCond .eq 5, 3), (27, .iload_n 2, 1), (28, .ireturn, 1), (29, .iinc 2 1, 3), (32, .goto (-30), 3), (35, .iconst (-1), 1), (36, .ireturn, 1)]
set_option maxRecDepth 20000 in
theorem dn_135_0_0_ok : dn_135_0_0.all (fun q => decide (decode (xm_b n_135) q.1 = .ok (q.2.1, q.2.2))) = true := xa_g_ok (by decide +kernel)
def te_135_0 : Nat → eE := (e_T 15 (e_T 4 (e_T 1 (e_T 0 (e_L 0 (0, ei_push (0, 0) 1, 0, 0)) (e_L 1 (0, ei_stor 2 0 2, 0, 0))) (e_T 2 (e_L 2 (0, ei_load 2 0 3, 0, 0)) (e_T 3 (e_L 3 (0, ei_load 0 2 4, 0, 0)) (e_L 4 (0, ei_getf eft elay 8 3 7, 0, 0))))) (e_T 10 (e_T 7 (e_L 7 (0, ei_getf eft elay 1 2 10, 0, 0)) (e_L 10 (0, ei_if2 3 35 13, 0, 0))) (e_T 13 (e_L 13 (0, ei_load 0 2 14, 0, 0)) (e_T 14 (e_L 14 (0, ei_load 0 2 15, 0, 0)) (e_L 15 (0, ei_getf eft elay 8 15 18, 0, 0)))))) (e_T 24 (e_T 19 (e_T 18 (e_L 18 (0, ei_load 2 0 19, 0, 0)) (e_L 19 (0, ei_ald elay false 20, 0, 0))) (e_T 20 (e_L 20 (0, ei_load 1 0 21, 0, 0)) (e_T 21 (e_L 21 (2, e_nof, 134, 3)) (e_L 24 (0, ei_if1 0 29 27, 0, 0))))) (e_T 29 (e_T 27 (e_L 27 (0, ei_load 2 0 28, 0, 0)) (e_T 28 (e_L 28 (1, e_nof, 1, 0)) (e_L 29 (0, ei_inc 2 1 32, 0, 0)))) (e_T 32 (e_L 32 (0, ei_goto 2, 0, 0)) (e_T 35 (e_L 35 (0, ei_push (0, (-1)) 36, 0, 0)) (e_L 36 (1, e_nof, 1, 0)))))))
set_option maxRecDepth 20000 in
set_option maxHeartbeats 4000000 in
theorem te_135_0_ok : ∀ pc, e_EOq eft cls elay eI n_135 pc (te_135_0 pc) :=
  (e_Tok2
  (e_Tok2
  (e_Tok2
  (e_Tok2
  (e_Lok (ps_iconst_0 (x_dk dn_135_0_0_ok 0 rfl)))
  (e_Lok (e_st (I := eI) (er_istore_n (i := 2) (x_dk dn_135_0_0_ok 1 rfl) (by decide +kernel)) nx_stor)))
  (e_Tok2
  (e_Lok (ld_iload_n_2 (x_dk dn_135_0_0_ok 2 rfl)))
  (e_Tok2
  (e_Lok (ld_aload_n_0 (x_dk dn_135_0_0_ok 3 rfl)))
  (e_Lok (lk_8_21g ho_135 (x_dk dn_135_0_0_ok 4 rfl))))))
  (e_Tok2
  (e_Tok2
  (e_Lok (lk_8_143g ho_135 (x_dk dn_135_0_0_ok 5 rfl)))
  (e_Lok (e_st (I := eI) (er_icmpge (off := 25) (tg := 35) (x_dk dn_135_0_0_ok 6 rfl) (by decide)) nx_if2)))
  (e_Tok2
  (e_Lok (ld_aload_n_0 (x_dk dn_135_0_0_ok 7 rfl)))
  (e_Tok2
  (e_Lok (ld_aload_n_0 (x_dk dn_135_0_0_ok 8 rfl)))
  (e_Lok (lk_8_29g ho_135 (x_dk dn_135_0_0_ok 9 rfl)))))))
  (e_Tok2
  (e_Tok2
  (e_Tok2
  (e_Lok (ld_iload_n_2 (x_dk dn_135_0_0_ok 10 rfl)))
  (e_Lok (sm_iaload (x_dk dn_135_0_0_ok 11 rfl))))
  (e_Tok2
  (e_Lok (ld_iload_n_1 (x_dk dn_135_0_0_ok 12 rfl)))
  (e_Tok2
  (e_Lok (lk_8_146 ho_135 (x_dk dn_135_0_0_ok 13 rfl)))
  (e_Lok (e_st (I := eI) (er_ifeq (off := 5) (tg := 29) (x_dk dn_135_0_0_ok 14 rfl) (by decide)) nx_if1)))))
  (e_Tok2
  (e_Tok2
  (e_Lok (ld_iload_n_2 (x_dk dn_135_0_0_ok 15 rfl)))
  (e_Tok2
  (e_Lok (e_rt (I := eI) (k := 1) ⟨(x_dk dn_135_0_0_ok 16 rfl), rfl⟩))
  (e_Lok (e_st (I := eI) (er_iinc (i := 2) (n := 1) (x_dk dn_135_0_0_ok 17 rfl) (by decide +kernel) (by decide)) nx_inc))))
  (e_Tok2
  (e_Lok (e_st (I := eI) (er_goto (off := (-30)) (tg := 2) (x_dk dn_135_0_0_ok 18 rfl) (by decide)) nx_goto))
  (e_Tok2
  (e_Lok (ps_iconst_m1 (x_dk dn_135_0_0_ok 19 rfl)))
  (e_Lok (e_rt (I := eI) (k := 1) ⟨(x_dk dn_135_0_0_ok 20 rfl), rfl⟩)))))))
def te_135 : Nat → eE := te_135_0
theorem te_135_ok : ∀ pc, e_EOq eft cls elay eI n_135 pc (te_135 pc) := te_135_0_ok
theorem ho_136 : (xm_y n_136).cls = "RobotCellHouse$Reader" := rfl
def dn_136_0_0 : List (Nat × Instr × Nat) := [(0, .iconst 0, 1), (1, .istore_n 2, 1), (2, .iload_n 2, 1), (3, .aload_n 0, 1), (4, .getfield 45, 3), (7, .if_icmp .ge 25, 3), (10, .aload_n 0, 1), (11, .aload_n 0, 1), (12, .getfield 33, 3), (15, .iload_n 2, 1), (16, .iaload, 1), (17, .iload_n 1, 1), (18, .invokevirtual 146, 3), (21, .ifCond .eq 5, 3), (24, .iload_n 2, 1), (25, .ireturn, 1), (26, .iinc 2 1, 3), (29, .goto (-27), 3), (32, .iconst (-1), 1), (33, .ireturn, 1)]
set_option maxRecDepth 20000 in
theorem dn_136_0_0_ok : dn_136_0_0.all (fun q => decide (decode (xm_b n_136) q.1 = .ok (q.2.1, q.2.2))) = true := xa_g_ok (by decide +kernel)
def te_136_0 : Nat → eE := (e_T 15 (e_T 4 (e_T 1 (e_T 0 (e_L 0 (0, ei_push (0, 0) 1, 0, 0)) (e_L 1 (0, ei_stor 2 0 2, 0, 0))) (e_T 2 (e_L 2 (0, ei_load 2 0 3, 0, 0)) (e_T 3 (e_L 3 (0, ei_load 0 2 4, 0, 0)) (e_L 4 (0, ei_getf eft elay 8 14 7, 0, 0))))) (e_T 10 (e_T 7 (e_L 7 (0, ei_if2 3 32 10, 0, 0)) (e_L 10 (0, ei_load 0 2 11, 0, 0))) (e_T 11 (e_L 11 (0, ei_load 0 2 12, 0, 0)) (e_T 12 (e_L 12 (0, ei_getf eft elay 8 16 15, 0, 0)) (e_L 15 (0, ei_load 2 0 16, 0, 0)))))) (e_T 24 (e_T 17 (e_T 16 (e_L 16 (0, ei_ald elay false 17, 0, 0)) (e_L 17 (0, ei_load 1 0 18, 0, 0))) (e_T 18 (e_L 18 (2, e_nof, 134, 3)) (e_T 21 (e_L 21 (0, ei_if1 0 26 24, 0, 0)) (e_L 24 (0, ei_load 2 0 25, 0, 0))))) (e_T 26 (e_T 25 (e_L 25 (1, e_nof, 1, 0)) (e_L 26 (0, ei_inc 2 1 29, 0, 0))) (e_T 29 (e_L 29 (0, ei_goto 2, 0, 0)) (e_T 32 (e_L 32 (0, ei_push (0, (-1)) 33, 0, 0)) (e_L 33 (1, e_nof, 1, 0)))))))
set_option maxRecDepth 20000 in
set_option maxHeartbeats 4000000 in
theorem te_136_0_ok : ∀ pc, e_EOq eft cls elay eI n_136 pc (te_136_0 pc) :=
  (e_Tok2
  (e_Tok2
  (e_Tok2
  (e_Tok2
  (e_Lok (ps_iconst_0 (x_dk dn_136_0_0_ok 0 rfl)))
  (e_Lok (e_st (I := eI) (er_istore_n (i := 2) (x_dk dn_136_0_0_ok 1 rfl) (by decide +kernel)) nx_stor)))
  (e_Tok2
  (e_Lok (ld_iload_n_2 (x_dk dn_136_0_0_ok 2 rfl)))
  (e_Tok2
  (e_Lok (ld_aload_n_0 (x_dk dn_136_0_0_ok 3 rfl)))
  (e_Lok (lk_8_45g ho_136 (x_dk dn_136_0_0_ok 4 rfl))))))
  (e_Tok2
  (e_Tok2
  (e_Lok (e_st (I := eI) (er_icmpge (off := 25) (tg := 32) (x_dk dn_136_0_0_ok 5 rfl) (by decide)) nx_if2))
  (e_Lok (ld_aload_n_0 (x_dk dn_136_0_0_ok 6 rfl))))
  (e_Tok2
  (e_Lok (ld_aload_n_0 (x_dk dn_136_0_0_ok 7 rfl)))
  (e_Tok2
  (e_Lok (lk_8_33g ho_136 (x_dk dn_136_0_0_ok 8 rfl)))
  (e_Lok (ld_iload_n_2 (x_dk dn_136_0_0_ok 9 rfl)))))))
  (e_Tok2
  (e_Tok2
  (e_Tok2
  (e_Lok (sm_iaload (x_dk dn_136_0_0_ok 10 rfl)))
  (e_Lok (ld_iload_n_1 (x_dk dn_136_0_0_ok 11 rfl))))
  (e_Tok2
  (e_Lok (lk_8_146 ho_136 (x_dk dn_136_0_0_ok 12 rfl)))
  (e_Tok2
  (e_Lok (e_st (I := eI) (er_ifeq (off := 5) (tg := 26) (x_dk dn_136_0_0_ok 13 rfl) (by decide)) nx_if1))
  (e_Lok (ld_iload_n_2 (x_dk dn_136_0_0_ok 14 rfl))))))
  (e_Tok2
  (e_Tok2
  (e_Lok (e_rt (I := eI) (k := 1) ⟨(x_dk dn_136_0_0_ok 15 rfl), rfl⟩))
  (e_Lok (e_st (I := eI) (er_iinc (i := 2) (n := 1) (x_dk dn_136_0_0_ok 16 rfl) (by decide +kernel) (by decide)) nx_inc)))
  (e_Tok2
  (e_Lok (e_st (I := eI) (er_goto (off := (-27)) (tg := 2) (x_dk dn_136_0_0_ok 17 rfl) (by decide)) nx_goto))
  (e_Tok2
  (e_Lok (ps_iconst_m1 (x_dk dn_136_0_0_ok 18 rfl)))
  (e_Lok (e_rt (I := eI) (k := 1) ⟨(x_dk dn_136_0_0_ok 19 rfl), rfl⟩)))))))
def te_136 : Nat → eE := te_136_0
theorem te_136_ok : ∀ pc, e_EOq eft cls elay eI n_136 pc (te_136 pc) := te_136_0_ok
theorem ho_137 : (xm_y n_137).cls = "RobotCellHouse$Reader" := rfl
def dn_137_0_0 : List (Nat × Instr × Nat) := [(0, .aload_n 0, 1), (1, .aload_n 0, 1), (2, .getfield 78, 3), (5, .invokevirtual 150, 3), (8, .istore_n 1, 1), (9, .iload_n 1, 1), (10, .ifCond .ge 12, 3), (13, .aload_n 0, 1), (14, .iconst 5, 1), (15, .aload_n 0, 1), (16, .getfield 78, 3), (19, .invokevirtual 153, 3), (22, .iload_n 1, 1), (23, .iconst 0, 1), (24, .invokestatic 157, 3), (27, .ireturn, 1)]
set_option maxRecDepth 20000 in
theorem dn_137_0_0_ok : dn_137_0_0.all (fun q => decide (decode (xm_b n_137) q.1 = .ok (q.2.1, q.2.2))) = true := xa_g_ok (by decide +kernel)
def te_137_0 : Nat → eE := (e_T 13 (e_T 5 (e_T 1 (e_T 0 (e_L 0 (0, ei_load 0 2 1, 0, 0)) (e_L 1 (0, ei_load 0 2 2, 0, 0))) (e_T 2 (e_L 2 (0, ei_getf eft elay 8 6 5, 0, 0)) (e_L 5 (2, e_nof, 135, 2)))) (e_T 9 (e_T 8 (e_L 8 (0, ei_stor 1 0 9, 0, 0)) (e_L 9 (0, ei_load 1 0 10, 0, 0))) (e_T 10 (e_L 10 (0, ei_if1 3 22 13, 0, 0)) (e_L 13 (0, ei_load 0 2 14, 0, 0))))) (e_T 19 (e_T 15 (e_T 14 (e_L 14 (0, ei_push (0, 5) 15, 0, 0)) (e_L 15 (0, ei_load 0 2 16, 0, 0))) (e_T 16 (e_L 16 (0, ei_getf eft elay 8 6 19, 0, 0)) (e_L 19 (2, e_nof, 133, 3)))) (e_T 23 (e_T 22 (e_L 22 (0, ei_load 1 0 23, 0, 0)) (e_L 23 (0, ei_push (0, 0) 24, 0, 0))) (e_T 24 (e_L 24 (0, ei_m2 eM_max 27, 0, 0)) (e_L 27 (1, e_nof, 1, 0))))))
set_option maxRecDepth 20000 in
set_option maxHeartbeats 4000000 in
theorem te_137_0_ok : ∀ pc, e_EOq eft cls elay eI n_137 pc (te_137_0 pc) :=
  (e_Tok2
  (e_Tok2
  (e_Tok2
  (e_Tok2
  (e_Lok (ld_aload_n_0 (x_dk dn_137_0_0_ok 0 rfl)))
  (e_Lok (ld_aload_n_0 (x_dk dn_137_0_0_ok 1 rfl))))
  (e_Tok2
  (e_Lok (lk_8_78g ho_137 (x_dk dn_137_0_0_ok 2 rfl)))
  (e_Lok (lk_8_150 ho_137 (x_dk dn_137_0_0_ok 3 rfl)))))
  (e_Tok2
  (e_Tok2
  (e_Lok (e_st (I := eI) (er_istore_n (i := 1) (x_dk dn_137_0_0_ok 4 rfl) (by decide +kernel)) nx_stor))
  (e_Lok (ld_iload_n_1 (x_dk dn_137_0_0_ok 5 rfl))))
  (e_Tok2
  (e_Lok (e_st (I := eI) (er_ifge (off := 12) (tg := 22) (x_dk dn_137_0_0_ok 6 rfl) (by decide)) nx_if1))
  (e_Lok (ld_aload_n_0 (x_dk dn_137_0_0_ok 7 rfl))))))
  (e_Tok2
  (e_Tok2
  (e_Tok2
  (e_Lok (ps_iconst_5 (x_dk dn_137_0_0_ok 8 rfl)))
  (e_Lok (ld_aload_n_0 (x_dk dn_137_0_0_ok 9 rfl))))
  (e_Tok2
  (e_Lok (lk_8_78g ho_137 (x_dk dn_137_0_0_ok 10 rfl)))
  (e_Lok (lk_8_153 ho_137 (x_dk dn_137_0_0_ok 11 rfl)))))
  (e_Tok2
  (e_Tok2
  (e_Lok (ld_iload_n_1 (x_dk dn_137_0_0_ok 12 rfl)))
  (e_Lok (ps_iconst_0 (x_dk dn_137_0_0_ok 13 rfl))))
  (e_Tok2
  (e_Lok (e_st (I := eI) (er_max (ix := 157) (in_t6 (List.mem_of_getElem? (i := 56) rfl) rfl) (in_t5 (List.mem_of_getElem? (i := 184) rfl) rfl) (in_t1 (List.mem_of_getElem? (i := 15) rfl) rfl) (in_t5 (List.mem_of_getElem? (i := 185) rfl) rfl) (x_dk dn_137_0_0_ok 14 rfl)) nx_m2))
  (e_Lok (e_rt (I := eI) (k := 1) ⟨(x_dk dn_137_0_0_ok 15 rfl), rfl⟩))))))
def te_137 : Nat → eE := te_137_0
theorem te_137_ok : ∀ pc, e_EOq eft cls elay eI n_137 pc (te_137 pc) := te_137_0_ok
theorem ho_138 : (xm_y n_138).cls = "RobotCellHouse$Reader" := rfl
def dn_138_0_0 : List (Nat × Instr × Nat) := [(0, .aload_n 0, 1), (1, .getfield 21, 3), (4, .aload_n 0, 1), (5, .getfield 45, 3), (8, .bipush 32, 2), (10, .invokestatic 161, 3), (13, .putfield 163, 3), (16, .iconst 0, 1), (17, .istore_n 1, 1), (18, .iload_n 1, 1), (19, .aload_n 0, 1), (20, .getfield 21, 3), (23, .getfield 164, 3), (26, .if_icmp .ge 86, 3), (29, .aload_n 0, 1), (30, .getfield 21, 3), (33, .iload_n 1, 1), (34, .invokevirtual 165, 3), (37, .istore_n 2, 1), (38, .iload_n 2, 1), (39, .bipush 33, 2), (41, .if_icmp .eq 18, 3), (44, .iload_n 2, 1), (45, .bipush 34, 2), (47, .if_icmp .eq 12, 3)]
set_option maxRecDepth 20000 in
theorem dn_138_0_0_ok : dn_138_0_0.all (fun q => decide (decode (xm_b n_138) q.1 = .ok (q.2.1, q.2.2))) = true := xa_g_ok (by decide +kernel)
def dn_138_0_1 : List (Nat × Instr × Nat) := [(50, .iload_n 2, 1), (51, .bipush 39, 2), (53, .if_icmp .eq 6, 3), (56, .goto 50, 3), (59, .aload_n 0, 1), (60, .aload_n 0, 1), (61, .getfield 21, 3), (64, .iload_n 1, 1), (65, .invokevirtual 168, 3), (68, .invokevirtual 171, 3), (71, .istore_n 3, 1), (72, .iload_n 3, 1), (73, .ifCond .ge 19, 3), (76, .aload_n 0, 1), (77, .iconst 5, 1), (78, .aload_n 0, 1), (79, .getfield 21, 3), (82, .iload_n 1, 1), (83, .invokevirtual 168, 3), (86, .invokevirtual 153, 3), (89, .goto 17, 3), (92, .aload_n 0, 1), (93, .getfield 21, 3), (96, .iload_n 1, 1), (97, .iload_n 3, 1)]
set_option maxRecDepth 20000 in
theorem dn_138_0_1_ok : dn_138_0_1.all (fun q => decide (decode (xm_b n_138) q.1 = .ok (q.2.1, q.2.2))) = true := xa_g_ok (by decide +kernel)
def dn_138_0_2 : List (Nat × Instr × Nat) := [(98, .bipush 31, 2), (100, .invokestatic 161, 3), (103, .invokevirtual 174, 3), (106, .iinc 1 1, 3), (109, .goto (-91), 3), (112, .return_, 1)]
set_option maxRecDepth 20000 in
theorem dn_138_0_2_ok : dn_138_0_2.all (fun q => decide (decode (xm_b n_138) q.1 = .ok (q.2.1, q.2.2))) = true := xa_g_ok (by decide +kernel)
def te_138_0 : Nat → eE := (e_T 26 (e_T 13 (e_T 4 (e_T 0 (e_L 0 (0, ei_load 0 2 1, 0, 0)) (e_T 1 (e_L 1 (0, ei_getf eft elay 8 3 4, 0, 0)) (e_L 4 (0, ei_load 0 2 5, 0, 0)))) (e_T 8 (e_T 5 (e_L 5 (0, ei_getf eft elay 8 14 8, 0, 0)) (e_L 8 (0, ei_push (0, 32) 10, 0, 0))) (e_T 10 (e_L 10 (0, ei_m2 eM_min 13, 0, 0)) (e_L 13 (0, ei_putf eft elay 1 1 0 16, 0, 0))))) (e_T 18 (e_T 16 (e_L 16 (0, ei_push (0, 0) 17, 0, 0)) (e_T 17 (e_L 17 (0, ei_stor 1 0 18, 0, 0)) (e_L 18 (0, ei_load 1 0 19, 0, 0)))) (e_T 20 (e_T 19 (e_L 19 (0, ei_load 0 2 20, 0, 0)) (e_L 20 (0, ei_getf eft elay 8 3 23, 0, 0))) (e_T 23 (e_L 23 (0, ei_getf eft elay 1 0 26, 0, 0)) (e_L 26 (0, ei_if2 3 112 29, 0, 0)))))) (e_T 39 (e_T 33 (e_T 29 (e_L 29 (0, ei_load 0 2 30, 0, 0)) (e_T 30 (e_L 30 (0, ei_getf eft elay 8 3 33, 0, 0)) (e_L 33 (0, ei_load 1 0 34, 0, 0)))) (e_T 37 (e_T 34 (e_L 34 (2, e_nof, 23, 2)) (e_L 37 (0, ei_stor 2 0 38, 0, 0))) (e_T 38 (e_L 38 (0, ei_load 2 0 39, 0, 0)) (e_L 39 (0, ei_push (0, 33) 41, 0, 0))))) (e_T 45 (e_T 41 (e_L 41 (0, ei_if2 0 59 44, 0, 0)) (e_T 44 (e_L 44 (0, ei_load 2 0 45, 0, 0)) (e_L 45 (0, ei_push (0, 34) 47, 0, 0)))) (e_T 50 (e_T 47 (e_L 47 (0, ei_if2 0 59 50, 0, 0)) (e_L 50 (0, ei_load 2 0 51, 0, 0))) (e_T 51 (e_L 51 (0, ei_push (0, 39) 53, 0, 0)) (e_L 53 (0, ei_if2 0 59 56, 0, 0)))))))
set_option maxRecDepth 20000 in
set_option maxHeartbeats 4000000 in
theorem te_138_0_ok : ∀ pc, e_EOq eft cls elay eI n_138 pc (te_138_0 pc) :=
  (e_Tok2
  (e_Tok2
  (e_Tok2
  (e_Tok2
  (e_Lok (ld_aload_n_0 (x_dk dn_138_0_0_ok 0 rfl)))
  (e_Tok2
  (e_Lok (lk_8_21g ho_138 (x_dk dn_138_0_0_ok 1 rfl)))
  (e_Lok (ld_aload_n_0 (x_dk dn_138_0_0_ok 2 rfl)))))
  (e_Tok2
  (e_Tok2
  (e_Lok (lk_8_45g ho_138 (x_dk dn_138_0_0_ok 3 rfl)))
  (e_Lok (ps_bipush_32 (x_dk dn_138_0_0_ok 4 rfl))))
  (e_Tok2
  (e_Lok (e_st (I := eI) (er_min (ix := 161) (in_t6 (List.mem_of_getElem? (i := 150) rfl) rfl) (in_t5 (List.mem_of_getElem? (i := 187) rfl) rfl) (in_t1 (List.mem_of_getElem? (i := 15) rfl) rfl) (in_t5 (List.mem_of_getElem? (i := 188) rfl) rfl) (x_dk dn_138_0_0_ok 5 rfl)) nx_m2))
  (e_Lok (lk_8_163p ho_138 (x_dk dn_138_0_0_ok 6 rfl))))))
  (e_Tok2
  (e_Tok2
  (e_Lok (ps_iconst_0 (x_dk dn_138_0_0_ok 7 rfl)))
  (e_Tok2
  (e_Lok (e_st (I := eI) (er_istore_n (i := 1) (x_dk dn_138_0_0_ok 8 rfl) (by decide +kernel)) nx_stor))
  (e_Lok (ld_iload_n_1 (x_dk dn_138_0_0_ok 9 rfl)))))
  (e_Tok2
  (e_Tok2
  (e_Lok (ld_aload_n_0 (x_dk dn_138_0_0_ok 10 rfl)))
  (e_Lok (lk_8_21g ho_138 (x_dk dn_138_0_0_ok 11 rfl))))
  (e_Tok2
  (e_Lok (lk_8_164g ho_138 (x_dk dn_138_0_0_ok 12 rfl)))
  (e_Lok (e_st (I := eI) (er_icmpge (off := 86) (tg := 112) (x_dk dn_138_0_0_ok 13 rfl) (by decide)) nx_if2))))))
  (e_Tok2
  (e_Tok2
  (e_Tok2
  (e_Lok (ld_aload_n_0 (x_dk dn_138_0_0_ok 14 rfl)))
  (e_Tok2
  (e_Lok (lk_8_21g ho_138 (x_dk dn_138_0_0_ok 15 rfl)))
  (e_Lok (ld_iload_n_1 (x_dk dn_138_0_0_ok 16 rfl)))))
  (e_Tok2
  (e_Tok2
  (e_Lok (lk_8_165 ho_138 (x_dk dn_138_0_0_ok 17 rfl)))
  (e_Lok (e_st (I := eI) (er_istore_n (i := 2) (x_dk dn_138_0_0_ok 18 rfl) (by decide +kernel)) nx_stor)))
  (e_Tok2
  (e_Lok (ld_iload_n_2 (x_dk dn_138_0_0_ok 19 rfl)))
  (e_Lok (ps_bipush_33 (x_dk dn_138_0_0_ok 20 rfl))))))
  (e_Tok2
  (e_Tok2
  (e_Lok (e_st (I := eI) (er_icmpeq (off := 18) (tg := 59) (x_dk dn_138_0_0_ok 21 rfl) (by decide)) nx_if2))
  (e_Tok2
  (e_Lok (ld_iload_n_2 (x_dk dn_138_0_0_ok 22 rfl)))
  (e_Lok (ps_bipush_34 (x_dk dn_138_0_0_ok 23 rfl)))))
  (e_Tok2
  (e_Tok2
  (e_Lok (e_st (I := eI) (er_icmpeq (off := 12) (tg := 59) (x_dk dn_138_0_0_ok 24 rfl) (by decide)) nx_if2))
  (e_Lok (ld_iload_n_2 (x_dk dn_138_0_1_ok 0 rfl))))
  (e_Tok2
  (e_Lok (ps_bipush_39 (x_dk dn_138_0_1_ok 1 rfl)))
  (e_Lok (e_st (I := eI) (er_icmpeq (off := 6) (tg := 59) (x_dk dn_138_0_1_ok 2 rfl) (by decide)) nx_if2)))))))
def te_138_28 : Nat → eE := (e_T 79 (e_T 68 (e_T 60 (e_T 56 (e_L 56 (0, ei_goto 106, 0, 0)) (e_T 59 (e_L 59 (0, ei_load 0 2 60, 0, 0)) (e_L 60 (0, ei_load 0 2 61, 0, 0)))) (e_T 64 (e_T 61 (e_L 61 (0, ei_getf eft elay 8 3 64, 0, 0)) (e_L 64 (0, ei_load 1 0 65, 0, 0))) (e_T 65 (e_L 65 (2, e_nof, 24, 2)) (e_L 68 (2, e_nof, 136, 2))))) (e_T 73 (e_T 71 (e_L 71 (0, ei_stor 3 0 72, 0, 0)) (e_T 72 (e_L 72 (0, ei_load 3 0 73, 0, 0)) (e_L 73 (0, ei_if1 3 92 76, 0, 0)))) (e_T 77 (e_T 76 (e_L 76 (0, ei_load 0 2 77, 0, 0)) (e_L 77 (0, ei_push (0, 5) 78, 0, 0))) (e_T 78 (e_L 78 (0, ei_load 0 2 79, 0, 0)) (e_L 79 (0, ei_getf eft elay 8 3 82, 0, 0)))))) (e_T 96 (e_T 86 (e_T 82 (e_L 82 (0, ei_load 1 0 83, 0, 0)) (e_T 83 (e_L 83 (2, e_nof, 24, 2)) (e_L 86 (2, e_nof, 133, 3)))) (e_T 92 (e_T 89 (e_L 89 (0, ei_goto 106, 0, 0)) (e_L 92 (0, ei_load 0 2 93, 0, 0))) (e_T 93 (e_L 93 (0, ei_getf eft elay 8 3 96, 0, 0)) (e_L 96 (0, ei_load 1 0 97, 0, 0))))) (e_T 100 (e_T 97 (e_L 97 (0, ei_load 3 0 98, 0, 0)) (e_T 98 (e_L 98 (0, ei_push (0, 31) 100, 0, 0)) (e_L 100 (0, ei_m2 eM_min 103, 0, 0)))) (e_T 106 (e_T 103 (e_L 103 (2, e_nof, 22, 3)) (e_L 106 (0, ei_inc 1 1 109, 0, 0))) (e_T 109 (e_L 109 (0, ei_goto 18, 0, 0)) (e_L 112 (1, e_nof, 0, 0)))))))
set_option maxRecDepth 20000 in
set_option maxHeartbeats 4000000 in
theorem te_138_28_ok : ∀ pc, e_EOq eft cls elay eI n_138 pc (te_138_28 pc) :=
  (e_Tok2
  (e_Tok2
  (e_Tok2
  (e_Tok2
  (e_Lok (e_st (I := eI) (er_goto (off := 50) (tg := 106) (x_dk dn_138_0_1_ok 3 rfl) (by decide)) nx_goto))
  (e_Tok2
  (e_Lok (ld_aload_n_0 (x_dk dn_138_0_1_ok 4 rfl)))
  (e_Lok (ld_aload_n_0 (x_dk dn_138_0_1_ok 5 rfl)))))
  (e_Tok2
  (e_Tok2
  (e_Lok (lk_8_21g ho_138 (x_dk dn_138_0_1_ok 6 rfl)))
  (e_Lok (ld_iload_n_1 (x_dk dn_138_0_1_ok 7 rfl))))
  (e_Tok2
  (e_Lok (lk_8_168 ho_138 (x_dk dn_138_0_1_ok 8 rfl)))
  (e_Lok (lk_8_171 ho_138 (x_dk dn_138_0_1_ok 9 rfl))))))
  (e_Tok2
  (e_Tok2
  (e_Lok (e_st (I := eI) (er_istore_n (i := 3) (x_dk dn_138_0_1_ok 10 rfl) (by decide +kernel)) nx_stor))
  (e_Tok2
  (e_Lok (ld_iload_n_3 (x_dk dn_138_0_1_ok 11 rfl)))
  (e_Lok (e_st (I := eI) (er_ifge (off := 19) (tg := 92) (x_dk dn_138_0_1_ok 12 rfl) (by decide)) nx_if1))))
  (e_Tok2
  (e_Tok2
  (e_Lok (ld_aload_n_0 (x_dk dn_138_0_1_ok 13 rfl)))
  (e_Lok (ps_iconst_5 (x_dk dn_138_0_1_ok 14 rfl))))
  (e_Tok2
  (e_Lok (ld_aload_n_0 (x_dk dn_138_0_1_ok 15 rfl)))
  (e_Lok (lk_8_21g ho_138 (x_dk dn_138_0_1_ok 16 rfl)))))))
  (e_Tok2
  (e_Tok2
  (e_Tok2
  (e_Lok (ld_iload_n_1 (x_dk dn_138_0_1_ok 17 rfl)))
  (e_Tok2
  (e_Lok (lk_8_168 ho_138 (x_dk dn_138_0_1_ok 18 rfl)))
  (e_Lok (lk_8_153 ho_138 (x_dk dn_138_0_1_ok 19 rfl)))))
  (e_Tok2
  (e_Tok2
  (e_Lok (e_st (I := eI) (er_goto (off := 17) (tg := 106) (x_dk dn_138_0_1_ok 20 rfl) (by decide)) nx_goto))
  (e_Lok (ld_aload_n_0 (x_dk dn_138_0_1_ok 21 rfl))))
  (e_Tok2
  (e_Lok (lk_8_21g ho_138 (x_dk dn_138_0_1_ok 22 rfl)))
  (e_Lok (ld_iload_n_1 (x_dk dn_138_0_1_ok 23 rfl))))))
  (e_Tok2
  (e_Tok2
  (e_Lok (ld_iload_n_3 (x_dk dn_138_0_1_ok 24 rfl)))
  (e_Tok2
  (e_Lok (ps_bipush_31 (x_dk dn_138_0_2_ok 0 rfl)))
  (e_Lok (e_st (I := eI) (er_min (ix := 161) (in_t6 (List.mem_of_getElem? (i := 150) rfl) rfl) (in_t5 (List.mem_of_getElem? (i := 187) rfl) rfl) (in_t1 (List.mem_of_getElem? (i := 15) rfl) rfl) (in_t5 (List.mem_of_getElem? (i := 188) rfl) rfl) (x_dk dn_138_0_2_ok 1 rfl)) nx_m2))))
  (e_Tok2
  (e_Tok2
  (e_Lok (lk_8_174 ho_138 (x_dk dn_138_0_2_ok 2 rfl)))
  (e_Lok (e_st (I := eI) (er_iinc (i := 1) (n := 1) (x_dk dn_138_0_2_ok 3 rfl) (by decide +kernel) (by decide)) nx_inc)))
  (e_Tok2
  (e_Lok (e_st (I := eI) (er_goto (off := (-91)) (tg := 18) (x_dk dn_138_0_2_ok 4 rfl) (by decide)) nx_goto))
  (e_Lok (e_rt (I := eI) (k := 0) ⟨(x_dk dn_138_0_2_ok 5 rfl), rfl⟩)))))))
def te_138 : Nat → eE := (e_T 53 te_138_0 te_138_28)
theorem te_138_ok : ∀ pc, e_EOq eft cls elay eI n_138 pc (te_138 pc) := (e_Tok2 (te_138_0_ok) (te_138_28_ok))
theorem ho_139 : (xm_y n_139).cls = "RobotCellHouse$Reader" := rfl
def dn_139_0_0 : List (Nat × Instr × Nat) := [(0, .aload_n 0, 1), (1, .aload_n 0, 1), (2, .getfield 78, 3), (5, .invokevirtual 150, 3), (8, .ifCond .ge 14, 3), (11, .aload_n 0, 1), (12, .aload_n 0, 1), (13, .getfield 78, 3), (16, .invokevirtual 171, 3), (19, .ifCond .lt 12, 3), (22, .aload_n 0, 1), (23, .iconst 4, 1), (24, .aload_n 0, 1), (25, .getfield 78, 3), (28, .invokevirtual 153, 3), (31, .return_, 1)]
set_option maxRecDepth 20000 in
theorem dn_139_0_0_ok : dn_139_0_0.all (fun q => decide (decode (xm_b n_139) q.1 = .ok (q.2.1, q.2.2))) = true := xa_g_ok (by decide +kernel)
def te_139_0 : Nat → eE := (e_T 13 (e_T 5 (e_T 1 (e_T 0 (e_L 0 (0, ei_load 0 2 1, 0, 0)) (e_L 1 (0, ei_load 0 2 2, 0, 0))) (e_T 2 (e_L 2 (0, ei_getf eft elay 8 6 5, 0, 0)) (e_L 5 (2, e_nof, 135, 2)))) (e_T 11 (e_T 8 (e_L 8 (0, ei_if1 3 22 11, 0, 0)) (e_L 11 (0, ei_load 0 2 12, 0, 0))) (e_T 12 (e_L 12 (0, ei_load 0 2 13, 0, 0)) (e_L 13 (0, ei_getf eft elay 8 6 16, 0, 0))))) (e_T 23 (e_T 19 (e_T 16 (e_L 16 (2, e_nof, 136, 2)) (e_L 19 (0, ei_if1 2 31 22, 0, 0))) (e_T 22 (e_L 22 (0, ei_load 0 2 23, 0, 0)) (e_L 23 (0, ei_push (0, 4) 24, 0, 0)))) (e_T 25 (e_T 24 (e_L 24 (0, ei_load 0 2 25, 0, 0)) (e_L 25 (0, ei_getf eft elay 8 6 28, 0, 0))) (e_T 28 (e_L 28 (2, e_nof, 133, 3)) (e_L 31 (1, e_nof, 0, 0))))))
set_option maxRecDepth 20000 in
set_option maxHeartbeats 4000000 in
theorem te_139_0_ok : ∀ pc, e_EOq eft cls elay eI n_139 pc (te_139_0 pc) :=
  (e_Tok2
  (e_Tok2
  (e_Tok2
  (e_Tok2
  (e_Lok (ld_aload_n_0 (x_dk dn_139_0_0_ok 0 rfl)))
  (e_Lok (ld_aload_n_0 (x_dk dn_139_0_0_ok 1 rfl))))
  (e_Tok2
  (e_Lok (lk_8_78g ho_139 (x_dk dn_139_0_0_ok 2 rfl)))
  (e_Lok (lk_8_150 ho_139 (x_dk dn_139_0_0_ok 3 rfl)))))
  (e_Tok2
  (e_Tok2
  (e_Lok (e_st (I := eI) (er_ifge (off := 14) (tg := 22) (x_dk dn_139_0_0_ok 4 rfl) (by decide)) nx_if1))
  (e_Lok (ld_aload_n_0 (x_dk dn_139_0_0_ok 5 rfl))))
  (e_Tok2
  (e_Lok (ld_aload_n_0 (x_dk dn_139_0_0_ok 6 rfl)))
  (e_Lok (lk_8_78g ho_139 (x_dk dn_139_0_0_ok 7 rfl))))))
  (e_Tok2
  (e_Tok2
  (e_Tok2
  (e_Lok (lk_8_171 ho_139 (x_dk dn_139_0_0_ok 8 rfl)))
  (e_Lok (e_st (I := eI) (er_iflt (off := 12) (tg := 31) (x_dk dn_139_0_0_ok 9 rfl) (by decide)) nx_if1)))
  (e_Tok2
  (e_Lok (ld_aload_n_0 (x_dk dn_139_0_0_ok 10 rfl)))
  (e_Lok (ps_iconst_4 (x_dk dn_139_0_0_ok 11 rfl)))))
  (e_Tok2
  (e_Tok2
  (e_Lok (ld_aload_n_0 (x_dk dn_139_0_0_ok 12 rfl)))
  (e_Lok (lk_8_78g ho_139 (x_dk dn_139_0_0_ok 13 rfl))))
  (e_Tok2
  (e_Lok (lk_8_153 ho_139 (x_dk dn_139_0_0_ok 14 rfl)))
  (e_Lok (e_rt (I := eI) (k := 0) ⟨(x_dk dn_139_0_0_ok 15 rfl), rfl⟩))))))
def te_139 : Nat → eE := te_139_0
theorem te_139_ok : ∀ pc, e_EOq eft cls elay eI n_139 pc (te_139 pc) := te_139_0_ok
theorem ho_140 : (xm_y n_140).cls = "RobotCellHouse$Reader" := rfl
def dn_140_0_0 : List (Nat × Instr × Nat) := [(0, .aload_n 0, 1), (1, .invokevirtual 54, 3), (4, .aload_n 0, 1), (5, .invokevirtual 177, 3), (8, .iconst 0, 1), (9, .istore_n 1, 1), (10, .iload_n 1, 1), (11, .sipush 4000, 3), (14, .if_icmp .ge 26, 3), (17, .aload_n 0, 1), (18, .getfield 57, 3), (21, .bipush 18, 2), (23, .if_icmp .ne 17, 3), (26, .aload_n 0, 1), (27, .invokevirtual 54, 3), (30, .aload_n 0, 1), (31, .invokevirtual 177, 3), (34, .iinc 1 1, 3), (37, .goto (-27), 3), (40, .aload_n 0, 1), (41, .bipush 19, 2), (43, .invokevirtual 180, 3), (46, .return_, 1)]
set_option maxRecDepth 20000 in
theorem dn_140_0_0_ok : dn_140_0_0.all (fun q => decide (decode (xm_b n_140) q.1 = .ok (q.2.1, q.2.2))) = true := xa_g_ok (by decide +kernel)
def te_140_0 : Nat → eE := (e_T 18 (e_T 8 (e_T 1 (e_T 0 (e_L 0 (0, ei_load 0 2 1, 0, 0)) (e_L 1 (2, e_nof, 123, 1))) (e_T 4 (e_L 4 (0, ei_load 0 2 5, 0, 0)) (e_T 5 (e_L 5 (2, e_nof, 141, 1)) (e_L 8 (0, ei_push (0, 0) 9, 0, 0))))) (e_T 11 (e_T 9 (e_L 9 (0, ei_stor 1 0 10, 0, 0)) (e_T 10 (e_L 10 (0, ei_load 1 0 11, 0, 0)) (e_L 11 (0, ei_push (0, 4000) 14, 0, 0)))) (e_T 14 (e_L 14 (0, ei_if2 3 40 17, 0, 0)) (e_T 17 (e_L 17 (0, ei_load 0 2 18, 0, 0)) (e_L 18 (0, ei_getf eft elay 8 5 21, 0, 0)))))) (e_T 31 (e_T 26 (e_T 21 (e_L 21 (0, ei_push (0, 18) 23, 0, 0)) (e_T 23 (e_L 23 (0, ei_if2 1 40 26, 0, 0)) (e_L 26 (0, ei_load 0 2 27, 0, 0)))) (e_T 27 (e_L 27 (2, e_nof, 123, 1)) (e_T 30 (e_L 30 (0, ei_load 0 2 31, 0, 0)) (e_L 31 (2, e_nof, 141, 1))))) (e_T 40 (e_T 34 (e_L 34 (0, ei_inc 1 1 37, 0, 0)) (e_T 37 (e_L 37 (0, ei_goto 10, 0, 0)) (e_L 40 (0, ei_load 0 2 41, 0, 0)))) (e_T 41 (e_L 41 (0, ei_push (0, 19) 43, 0, 0)) (e_T 43 (e_L 43 (2, e_nof, 129, 2)) (e_L 46 (1, e_nof, 0, 0)))))))
set_option maxRecDepth 20000 in
set_option maxHeartbeats 4000000 in
theorem te_140_0_ok : ∀ pc, e_EOq eft cls elay eI n_140 pc (te_140_0 pc) :=
  (e_Tok2
  (e_Tok2
  (e_Tok2
  (e_Tok2
  (e_Lok (ld_aload_n_0 (x_dk dn_140_0_0_ok 0 rfl)))
  (e_Lok (lk_8_54 ho_140 (x_dk dn_140_0_0_ok 1 rfl))))
  (e_Tok2
  (e_Lok (ld_aload_n_0 (x_dk dn_140_0_0_ok 2 rfl)))
  (e_Tok2
  (e_Lok (lk_8_177 ho_140 (x_dk dn_140_0_0_ok 3 rfl)))
  (e_Lok (ps_iconst_0 (x_dk dn_140_0_0_ok 4 rfl))))))
  (e_Tok2
  (e_Tok2
  (e_Lok (e_st (I := eI) (er_istore_n (i := 1) (x_dk dn_140_0_0_ok 5 rfl) (by decide +kernel)) nx_stor))
  (e_Tok2
  (e_Lok (ld_iload_n_1 (x_dk dn_140_0_0_ok 6 rfl)))
  (e_Lok (ps_sipush_4000 (x_dk dn_140_0_0_ok 7 rfl)))))
  (e_Tok2
  (e_Lok (e_st (I := eI) (er_icmpge (off := 26) (tg := 40) (x_dk dn_140_0_0_ok 8 rfl) (by decide)) nx_if2))
  (e_Tok2
  (e_Lok (ld_aload_n_0 (x_dk dn_140_0_0_ok 9 rfl)))
  (e_Lok (lk_8_57g ho_140 (x_dk dn_140_0_0_ok 10 rfl)))))))
  (e_Tok2
  (e_Tok2
  (e_Tok2
  (e_Lok (ps_bipush_18 (x_dk dn_140_0_0_ok 11 rfl)))
  (e_Tok2
  (e_Lok (e_st (I := eI) (er_icmpne (off := 17) (tg := 40) (x_dk dn_140_0_0_ok 12 rfl) (by decide)) nx_if2))
  (e_Lok (ld_aload_n_0 (x_dk dn_140_0_0_ok 13 rfl)))))
  (e_Tok2
  (e_Lok (lk_8_54 ho_140 (x_dk dn_140_0_0_ok 14 rfl)))
  (e_Tok2
  (e_Lok (ld_aload_n_0 (x_dk dn_140_0_0_ok 15 rfl)))
  (e_Lok (lk_8_177 ho_140 (x_dk dn_140_0_0_ok 16 rfl))))))
  (e_Tok2
  (e_Tok2
  (e_Lok (e_st (I := eI) (er_iinc (i := 1) (n := 1) (x_dk dn_140_0_0_ok 17 rfl) (by decide +kernel) (by decide)) nx_inc))
  (e_Tok2
  (e_Lok (e_st (I := eI) (er_goto (off := (-27)) (tg := 10) (x_dk dn_140_0_0_ok 18 rfl) (by decide)) nx_goto))
  (e_Lok (ld_aload_n_0 (x_dk dn_140_0_0_ok 19 rfl)))))
  (e_Tok2
  (e_Lok (ps_bipush_19 (x_dk dn_140_0_0_ok 20 rfl)))
  (e_Tok2
  (e_Lok (lk_8_180 ho_140 (x_dk dn_140_0_0_ok 21 rfl)))
  (e_Lok (e_rt (I := eI) (k := 0) ⟨(x_dk dn_140_0_0_ok 22 rfl), rfl⟩)))))))
def te_140 : Nat → eE := te_140_0
theorem te_140_ok : ∀ pc, e_EOq eft cls elay eI n_140 pc (te_140 pc) := te_140_0_ok
theorem ho_141 : (xm_y n_141).cls = "RobotCellHouse$Reader" := rfl
def dn_141_0_0 : List (Nat × Instr × Nat) := [(0, .aload_n 0, 1), (1, .getfield 57, 3), (4, .iconst 1, 1), (5, .if_icmp .ne 61, 3), (8, .aload_n 0, 1), (9, .invokevirtual 183, 3), (12, .aload_n 0, 1), (13, .getfield 21, 3), (16, .getfield 143, 3), (19, .bipush 32, 2), (21, .if_icmp .ge 35, 3), (24, .aload_n 0, 1), (25, .getfield 29, 3), (28, .aload_n 0, 1), (29, .getfield 21, 3), (32, .getfield 143, 3), (35, .aload_n 0, 1), (36, .getfield 78, 3), (39, .iastore, 1), (40, .aload_n 0, 1), (41, .getfield 21, 3), (44, .dup, 1), (45, .getfield 143, 3), (48, .iconst 1, 1), (49, .iadd, 1)]
set_option maxRecDepth 20000 in
theorem dn_141_0_0_ok : dn_141_0_0.all (fun q => decide (decode (xm_b n_141) q.1 = .ok (q.2.1, q.2.2))) = true := xa_g_ok (by decide +kernel)
def dn_141_0_1 : List (Nat × Instr × Nat) := [(50, .putfield 143, 3), (53, .goto 13, 3), (56, .aload_n 0, 1), (57, .bipush 7, 2), (59, .aload_n 0, 1), (60, .getfield 78, 3), (63, .invokevirtual 153, 3), (66, .aload_n 0, 1), (67, .iconst 1, 1), (68, .invokevirtual 180, 3), (71, .return_, 1)]
set_option maxRecDepth 20000 in
theorem dn_141_0_1_ok : dn_141_0_1.all (fun q => decide (decode (xm_b n_141) q.1 = .ok (q.2.1, q.2.2))) = true := xa_g_ok (by decide +kernel)
def te_141_0 : Nat → eE := (e_T 36 (e_T 16 (e_T 5 (e_T 1 (e_T 0 (e_L 0 (0, ei_load 0 2 1, 0, 0)) (e_L 1 (0, ei_getf eft elay 8 5 4, 0, 0))) (e_T 4 (e_L 4 (0, ei_push (0, 1) 5, 0, 0)) (e_L 5 (0, ei_if2 1 66 8, 0, 0)))) (e_T 9 (e_T 8 (e_L 8 (0, ei_load 0 2 9, 0, 0)) (e_L 9 (2, e_nof, 139, 1))) (e_T 12 (e_L 12 (0, ei_load 0 2 13, 0, 0)) (e_T 13 (e_L 13 (0, ei_getf eft elay 8 3 16, 0, 0)) (e_L 16 (0, ei_getf eft elay 1 2 19, 0, 0)))))) (e_T 25 (e_T 21 (e_T 19 (e_L 19 (0, ei_push (0, 32) 21, 0, 0)) (e_L 21 (0, ei_if2 3 56 24, 0, 0))) (e_T 24 (e_L 24 (0, ei_load 0 2 25, 0, 0)) (e_L 25 (0, ei_getf eft elay 8 15 28, 0, 0)))) (e_T 29 (e_T 28 (e_L 28 (0, ei_load 0 2 29, 0, 0)) (e_L 29 (0, ei_getf eft elay 8 3 32, 0, 0))) (e_T 32 (e_L 32 (0, ei_getf eft elay 1 2 35, 0, 0)) (e_T 35 (e_L 35 (0, ei_load 0 2 36, 0, 0)) (e_L 36 (0, ei_getf eft elay 8 6 39, 0, 0))))))) (e_T 53 (e_T 44 (e_T 40 (e_T 39 (e_L 39 (0, ei_ast elay false 40, 0, 0)) (e_L 40 (0, ei_load 0 2 41, 0, 0))) (e_T 41 (e_L 41 (0, ei_getf eft elay 8 3 44, 0, 0)) (e_L 44 (0, ei_stk ef_dup 45, 0, 0)))) (e_T 48 (e_T 45 (e_L 45 (0, ei_getf eft elay 1 2 48, 0, 0)) (e_L 48 (0, ei_push (0, 1) 49, 0, 0))) (e_T 49 (e_L 49 (0, ei_bin eF_add 50, 0, 0)) (e_T 50 (e_L 50 (0, ei_putf eft elay 1 2 0 53, 0, 0)) (e_L 53 (0, ei_goto 66, 0, 0)))))) (e_T 60 (e_T 57 (e_T 56 (e_L 56 (0, ei_load 0 2 57, 0, 0)) (e_L 57 (0, ei_push (0, 7) 59, 0, 0))) (e_T 59 (e_L 59 (0, ei_load 0 2 60, 0, 0)) (e_L 60 (0, ei_getf eft elay 8 6 63, 0, 0)))) (e_T 66 (e_T 63 (e_L 63 (2, e_nof, 133, 3)) (e_L 66 (0, ei_load 0 2 67, 0, 0))) (e_T 67 (e_L 67 (0, ei_push (0, 1) 68, 0, 0)) (e_T 68 (e_L 68 (2, e_nof, 129, 2)) (e_L 71 (1, e_nof, 0, 0))))))))
set_option maxRecDepth 20000 in
set_option maxHeartbeats 4000000 in
theorem te_141_0_ok : ∀ pc, e_EOq eft cls elay eI n_141 pc (te_141_0 pc) :=
  (e_Tok2
  (e_Tok2
  (e_Tok2
  (e_Tok2
  (e_Tok2
  (e_Lok (ld_aload_n_0 (x_dk dn_141_0_0_ok 0 rfl)))
  (e_Lok (lk_8_57g ho_141 (x_dk dn_141_0_0_ok 1 rfl))))
  (e_Tok2
  (e_Lok (ps_iconst_1 (x_dk dn_141_0_0_ok 2 rfl)))
  (e_Lok (e_st (I := eI) (er_icmpne (off := 61) (tg := 66) (x_dk dn_141_0_0_ok 3 rfl) (by decide)) nx_if2))))
  (e_Tok2
  (e_Tok2
  (e_Lok (ld_aload_n_0 (x_dk dn_141_0_0_ok 4 rfl)))
  (e_Lok (lk_8_183 ho_141 (x_dk dn_141_0_0_ok 5 rfl))))
  (e_Tok2
  (e_Lok (ld_aload_n_0 (x_dk dn_141_0_0_ok 6 rfl)))
  (e_Tok2
  (e_Lok (lk_8_21g ho_141 (x_dk dn_141_0_0_ok 7 rfl)))
  (e_Lok (lk_8_143g ho_141 (x_dk dn_141_0_0_ok 8 rfl)))))))
  (e_Tok2
  (e_Tok2
  (e_Tok2
  (e_Lok (ps_bipush_32 (x_dk dn_141_0_0_ok 9 rfl)))
  (e_Lok (e_st (I := eI) (er_icmpge (off := 35) (tg := 56) (x_dk dn_141_0_0_ok 10 rfl) (by decide)) nx_if2)))
  (e_Tok2
  (e_Lok (ld_aload_n_0 (x_dk dn_141_0_0_ok 11 rfl)))
  (e_Lok (lk_8_29g ho_141 (x_dk dn_141_0_0_ok 12 rfl)))))
  (e_Tok2
  (e_Tok2
  (e_Lok (ld_aload_n_0 (x_dk dn_141_0_0_ok 13 rfl)))
  (e_Lok (lk_8_21g ho_141 (x_dk dn_141_0_0_ok 14 rfl))))
  (e_Tok2
  (e_Lok (lk_8_143g ho_141 (x_dk dn_141_0_0_ok 15 rfl)))
  (e_Tok2
  (e_Lok (ld_aload_n_0 (x_dk dn_141_0_0_ok 16 rfl)))
  (e_Lok (lk_8_78g ho_141 (x_dk dn_141_0_0_ok 17 rfl))))))))
  (e_Tok2
  (e_Tok2
  (e_Tok2
  (e_Tok2
  (e_Lok (sm_iastore (x_dk dn_141_0_0_ok 18 rfl)))
  (e_Lok (ld_aload_n_0 (x_dk dn_141_0_0_ok 19 rfl))))
  (e_Tok2
  (e_Lok (lk_8_21g ho_141 (x_dk dn_141_0_0_ok 20 rfl)))
  (e_Lok (e_st (I := eI) (er_dup (x_dk dn_141_0_0_ok 21 rfl)) (nx_stk bf_dup)))))
  (e_Tok2
  (e_Tok2
  (e_Lok (lk_8_143g ho_141 (x_dk dn_141_0_0_ok 22 rfl)))
  (e_Lok (ps_iconst_1 (x_dk dn_141_0_0_ok 23 rfl))))
  (e_Tok2
  (e_Lok (sm_iadd (x_dk dn_141_0_0_ok 24 rfl)))
  (e_Tok2
  (e_Lok (lk_8_143p ho_141 (x_dk dn_141_0_1_ok 0 rfl)))
  (e_Lok (e_st (I := eI) (er_goto (off := 13) (tg := 66) (x_dk dn_141_0_1_ok 1 rfl) (by decide)) nx_goto))))))
  (e_Tok2
  (e_Tok2
  (e_Tok2
  (e_Lok (ld_aload_n_0 (x_dk dn_141_0_1_ok 2 rfl)))
  (e_Lok (ps_bipush_7 (x_dk dn_141_0_1_ok 3 rfl))))
  (e_Tok2
  (e_Lok (ld_aload_n_0 (x_dk dn_141_0_1_ok 4 rfl)))
  (e_Lok (lk_8_78g ho_141 (x_dk dn_141_0_1_ok 5 rfl)))))
  (e_Tok2
  (e_Tok2
  (e_Lok (lk_8_153 ho_141 (x_dk dn_141_0_1_ok 6 rfl)))
  (e_Lok (ld_aload_n_0 (x_dk dn_141_0_1_ok 7 rfl))))
  (e_Tok2
  (e_Lok (ps_iconst_1 (x_dk dn_141_0_1_ok 8 rfl)))
  (e_Tok2
  (e_Lok (lk_8_180 ho_141 (x_dk dn_141_0_1_ok 9 rfl)))
  (e_Lok (e_rt (I := eI) (k := 0) ⟨(x_dk dn_141_0_1_ok 10 rfl), rfl⟩))))))))
def te_141 : Nat → eE := te_141_0
theorem te_141_ok : ∀ pc, e_EOq eft cls elay eI n_141 pc (te_141 pc) := te_141_0_ok
end
end
-- part 41aj
section
noncomputable section
theorem ho_142 : (xm_y n_142).cls = "RobotCellHouse$Reader" := rfl
def dn_142_0_0 : List (Nat × Instr × Nat) := [(0, .aload_n 0, 1), (1, .invokevirtual 54, 3), (4, .aload_n 0, 1), (5, .getfield 57, 3), (8, .iconst 1, 1), (9, .if_icmp .ne 81, 3), (12, .aload_n 0, 1), (13, .invokevirtual 183, 3), (16, .aload_n 0, 1), (17, .getfield 45, 3), (20, .bipush 32, 2), (22, .if_icmp .ge 25, 3), (25, .aload_n 0, 1), (26, .getfield 21, 3), (29, .getfield 186, 3), (32, .aload_n 0, 1), (33, .getfield 45, 3), (36, .aload_n 0, 1), (37, .getfield 21, 3), (40, .getfield 164, 3), (43, .iastore, 1), (44, .goto 13, 3), (47, .aload_n 0, 1), (48, .bipush 7, 2), (50, .aload_n 0, 1)]
set_option maxRecDepth 20000 in
theorem dn_142_0_0_ok : dn_142_0_0.all (fun q => decide (decode (xm_b n_142) q.1 = .ok (q.2.1, q.2.2))) = true := xa_g_ok (by decide +kernel)
def dn_142_0_1 : List (Nat × Instr × Nat) := [(51, .getfield 78, 3), (54, .invokevirtual 153, 3), (57, .aload_n 0, 1), (58, .getfield 45, 3), (61, .sipush 500, 3), (64, .if_icmp .ge 26, 3), (67, .aload_n 0, 1), (68, .getfield 33, 3), (71, .aload_n 0, 1), (72, .getfield 45, 3), (75, .aload_n 0, 1), (76, .getfield 78, 3), (79, .iastore, 1), (80, .aload_n 0, 1), (81, .dup, 1), (82, .getfield 45, 3), (85, .iconst 1, 1), (86, .iadd, 1), (87, .putfield 45, 3), (90, .aload_n 0, 1), (91, .iconst 1, 1), (92, .invokevirtual 180, 3), (95, .aload_n 0, 1), (96, .bipush 20, 2), (98, .invokevirtual 180, 3)]
set_option maxRecDepth 20000 in
theorem dn_142_0_1_ok : dn_142_0_1.all (fun q => decide (decode (xm_b n_142) q.1 = .ok (q.2.1, q.2.2))) = true := xa_g_ok (by decide +kernel)
def dn_142_0_2 : List (Nat × Instr × Nat) := [(101, .aload_n 0, 1), (102, .iconst 0, 1), (103, .putfield 189, 3), (106, .aload_n 0, 1), (107, .iconst (-1), 1), (108, .putfield 192, 3), (111, .aload_n 0, 1), (112, .invokevirtual 195, 3), (115, .aload_n 0, 1), (116, .bipush 23, 2), (118, .invokevirtual 180, 3), (121, .aload_n 0, 1), (122, .getfield 21, 3), (125, .bipush 43, 2), (127, .iconst 0, 1), (128, .invokevirtual 198, 3), (131, .pop, 1), (132, .return_, 1)]
set_option maxRecDepth 20000 in
theorem dn_142_0_2_ok : dn_142_0_2.all (fun q => decide (decode (xm_b n_142) q.1 = .ok (q.2.1, q.2.2))) = true := xa_g_ok (by decide +kernel)
def te_142_0 : Nat → eE := (e_T 33 (e_T 13 (e_T 5 (e_T 1 (e_T 0 (e_L 0 (0, ei_load 0 2 1, 0, 0)) (e_L 1 (2, e_nof, 123, 1))) (e_T 4 (e_L 4 (0, ei_load 0 2 5, 0, 0)) (e_L 5 (0, ei_getf eft elay 8 5 8, 0, 0)))) (e_T 9 (e_T 8 (e_L 8 (0, ei_push (0, 1) 9, 0, 0)) (e_L 9 (0, ei_if2 1 90 12, 0, 0))) (e_T 12 (e_L 12 (0, ei_load 0 2 13, 0, 0)) (e_L 13 (2, e_nof, 139, 1))))) (e_T 22 (e_T 17 (e_T 16 (e_L 16 (0, ei_load 0 2 17, 0, 0)) (e_L 17 (0, ei_getf eft elay 8 14 20, 0, 0))) (e_T 20 (e_L 20 (0, ei_push (0, 32) 22, 0, 0)) (e_L 22 (0, ei_if2 3 47 25, 0, 0)))) (e_T 26 (e_T 25 (e_L 25 (0, ei_load 0 2 26, 0, 0)) (e_L 26 (0, ei_getf eft elay 8 3 29, 0, 0))) (e_T 29 (e_L 29 (0, ei_getf eft elay 1 3 32, 0, 0)) (e_T 32 (e_L 32 (0, ei_load 0 2 33, 0, 0)) (e_L 33 (0, ei_getf eft elay 8 14 36, 0, 0))))))) (e_T 50 (e_T 43 (e_T 37 (e_T 36 (e_L 36 (0, ei_load 0 2 37, 0, 0)) (e_L 37 (0, ei_getf eft elay 8 3 40, 0, 0))) (e_T 40 (e_L 40 (0, ei_getf eft elay 1 0 43, 0, 0)) (e_L 43 (0, ei_ast elay false 44, 0, 0)))) (e_T 47 (e_T 44 (e_L 44 (0, ei_goto 57, 0, 0)) (e_L 47 (0, ei_load 0 2 48, 0, 0))) (e_T 48 (e_L 48 (0, ei_push (0, 7) 50, 0, 0)) (e_L 50 (0, ei_load 0 2 51, 0, 0))))) (e_T 58 (e_T 54 (e_T 51 (e_L 51 (0, ei_getf eft elay 8 6 54, 0, 0)) (e_L 54 (2, e_nof, 133, 3))) (e_T 57 (e_L 57 (0, ei_load 0 2 58, 0, 0)) (e_L 58 (0, ei_getf eft elay 8 14 61, 0, 0)))) (e_T 64 (e_T 61 (e_L 61 (0, ei_push (0, 500) 64, 0, 0)) (e_L 64 (0, ei_if2 3 90 67, 0, 0))) (e_T 67 (e_L 67 (0, ei_load 0 2 68, 0, 0)) (e_T 68 (e_L 68 (0, ei_getf eft elay 8 16 71, 0, 0)) (e_L 71 (0, ei_load 0 2 72, 0, 0))))))))
set_option maxRecDepth 20000 in
set_option maxHeartbeats 4000000 in
theorem te_142_0_ok : ∀ pc, e_EOq eft cls elay eI n_142 pc (te_142_0 pc) :=
  (e_Tok2
  (e_Tok2
  (e_Tok2
  (e_Tok2
  (e_Tok2
  (e_Lok (ld_aload_n_0 (x_dk dn_142_0_0_ok 0 rfl)))
  (e_Lok (lk_8_54 ho_142 (x_dk dn_142_0_0_ok 1 rfl))))
  (e_Tok2
  (e_Lok (ld_aload_n_0 (x_dk dn_142_0_0_ok 2 rfl)))
  (e_Lok (lk_8_57g ho_142 (x_dk dn_142_0_0_ok 3 rfl)))))
  (e_Tok2
  (e_Tok2
  (e_Lok (ps_iconst_1 (x_dk dn_142_0_0_ok 4 rfl)))
  (e_Lok (e_st (I := eI) (er_icmpne (off := 81) (tg := 90) (x_dk dn_142_0_0_ok 5 rfl) (by decide)) nx_if2)))
  (e_Tok2
  (e_Lok (ld_aload_n_0 (x_dk dn_142_0_0_ok 6 rfl)))
  (e_Lok (lk_8_183 ho_142 (x_dk dn_142_0_0_ok 7 rfl))))))
  (e_Tok2
  (e_Tok2
  (e_Tok2
  (e_Lok (ld_aload_n_0 (x_dk dn_142_0_0_ok 8 rfl)))
  (e_Lok (lk_8_45g ho_142 (x_dk dn_142_0_0_ok 9 rfl))))
  (e_Tok2
  (e_Lok (ps_bipush_32 (x_dk dn_142_0_0_ok 10 rfl)))
  (e_Lok (e_st (I := eI) (er_icmpge (off := 25) (tg := 47) (x_dk dn_142_0_0_ok 11 rfl) (by decide)) nx_if2))))
  (e_Tok2
  (e_Tok2
  (e_Lok (ld_aload_n_0 (x_dk dn_142_0_0_ok 12 rfl)))
  (e_Lok (lk_8_21g ho_142 (x_dk dn_142_0_0_ok 13 rfl))))
  (e_Tok2
  (e_Lok (lk_8_186g ho_142 (x_dk dn_142_0_0_ok 14 rfl)))
  (e_Tok2
  (e_Lok (ld_aload_n_0 (x_dk dn_142_0_0_ok 15 rfl)))
  (e_Lok (lk_8_45g ho_142 (x_dk dn_142_0_0_ok 16 rfl))))))))
  (e_Tok2
  (e_Tok2
  (e_Tok2
  (e_Tok2
  (e_Lok (ld_aload_n_0 (x_dk dn_142_0_0_ok 17 rfl)))
  (e_Lok (lk_8_21g ho_142 (x_dk dn_142_0_0_ok 18 rfl))))
  (e_Tok2
  (e_Lok (lk_8_164g ho_142 (x_dk dn_142_0_0_ok 19 rfl)))
  (e_Lok (sm_iastore (x_dk dn_142_0_0_ok 20 rfl)))))
  (e_Tok2
  (e_Tok2
  (e_Lok (e_st (I := eI) (er_goto (off := 13) (tg := 57) (x_dk dn_142_0_0_ok 21 rfl) (by decide)) nx_goto))
  (e_Lok (ld_aload_n_0 (x_dk dn_142_0_0_ok 22 rfl))))
  (e_Tok2
  (e_Lok (ps_bipush_7 (x_dk dn_142_0_0_ok 23 rfl)))
  (e_Lok (ld_aload_n_0 (x_dk dn_142_0_0_ok 24 rfl))))))
  (e_Tok2
  (e_Tok2
  (e_Tok2
  (e_Lok (lk_8_78g ho_142 (x_dk dn_142_0_1_ok 0 rfl)))
  (e_Lok (lk_8_153 ho_142 (x_dk dn_142_0_1_ok 1 rfl))))
  (e_Tok2
  (e_Lok (ld_aload_n_0 (x_dk dn_142_0_1_ok 2 rfl)))
  (e_Lok (lk_8_45g ho_142 (x_dk dn_142_0_1_ok 3 rfl)))))
  (e_Tok2
  (e_Tok2
  (e_Lok (ps_sipush_500 (x_dk dn_142_0_1_ok 4 rfl)))
  (e_Lok (e_st (I := eI) (er_icmpge (off := 26) (tg := 90) (x_dk dn_142_0_1_ok 5 rfl) (by decide)) nx_if2)))
  (e_Tok2
  (e_Lok (ld_aload_n_0 (x_dk dn_142_0_1_ok 6 rfl)))
  (e_Tok2
  (e_Lok (lk_8_33g ho_142 (x_dk dn_142_0_1_ok 7 rfl)))
  (e_Lok (ld_aload_n_0 (x_dk dn_142_0_1_ok 8 rfl)))))))))
def te_142_34 : Nat → eE := (e_T 101 (e_T 85 (e_T 79 (e_T 75 (e_T 72 (e_L 72 (0, ei_getf eft elay 8 14 75, 0, 0)) (e_L 75 (0, ei_load 0 2 76, 0, 0))) (e_T 76 (e_L 76 (0, ei_getf eft elay 8 6 79, 0, 0)) (e_L 79 (0, ei_ast elay false 80, 0, 0)))) (e_T 81 (e_T 80 (e_L 80 (0, ei_load 0 2 81, 0, 0)) (e_L 81 (0, ei_stk ef_dup 82, 0, 0))) (e_T 82 (e_L 82 (0, ei_getf eft elay 8 14 85, 0, 0)) (e_L 85 (0, ei_push (0, 1) 86, 0, 0))))) (e_T 91 (e_T 87 (e_T 86 (e_L 86 (0, ei_bin eF_add 87, 0, 0)) (e_L 87 (0, ei_putf eft elay 8 14 0 90, 0, 0))) (e_T 90 (e_L 90 (0, ei_load 0 2 91, 0, 0)) (e_L 91 (0, ei_push (0, 1) 92, 0, 0)))) (e_T 95 (e_T 92 (e_L 92 (2, e_nof, 129, 2)) (e_L 95 (0, ei_load 0 2 96, 0, 0))) (e_T 96 (e_L 96 (0, ei_push (0, 20) 98, 0, 0)) (e_T 98 (e_L 98 (2, e_nof, 129, 2)) (e_L 101 (0, ei_load 0 2 102, 0, 0))))))) (e_T 115 (e_T 107 (e_T 103 (e_T 102 (e_L 102 (0, ei_push (0, 0) 103, 0, 0)) (e_L 103 (0, ei_putf eft elay 8 12 0 106, 0, 0))) (e_T 106 (e_L 106 (0, ei_load 0 2 107, 0, 0)) (e_L 107 (0, ei_push (0, (-1)) 108, 0, 0)))) (e_T 111 (e_T 108 (e_L 108 (0, ei_putf eft elay 8 13 0 111, 0, 0)) (e_L 111 (0, ei_load 0 2 112, 0, 0))) (e_T 112 (e_L 112 (2, e_nof, 144, 1)) (e_L 115 (0, ei_load 0 2 116, 0, 0))))) (e_T 122 (e_T 118 (e_T 116 (e_L 116 (0, ei_push (0, 23) 118, 0, 0)) (e_L 118 (2, e_nof, 129, 2))) (e_T 121 (e_L 121 (0, ei_load 0 2 122, 0, 0)) (e_L 122 (0, ei_getf eft elay 8 3 125, 0, 0)))) (e_T 127 (e_T 125 (e_L 125 (0, ei_push (0, 43) 127, 0, 0)) (e_L 127 (0, ei_push (0, 0) 128, 0, 0))) (e_T 128 (e_L 128 (2, e_nof, 21, 3)) (e_T 131 (e_L 131 (0, ei_stk ef_pop 132, 0, 0)) (e_L 132 (1, e_nof, 0, 0))))))))
set_option maxRecDepth 20000 in
set_option maxHeartbeats 4000000 in
theorem te_142_34_ok : ∀ pc, e_EOq eft cls elay eI n_142 pc (te_142_34 pc) :=
  (e_Tok2
  (e_Tok2
  (e_Tok2
  (e_Tok2
  (e_Tok2
  (e_Lok (lk_8_45g ho_142 (x_dk dn_142_0_1_ok 9 rfl)))
  (e_Lok (ld_aload_n_0 (x_dk dn_142_0_1_ok 10 rfl))))
  (e_Tok2
  (e_Lok (lk_8_78g ho_142 (x_dk dn_142_0_1_ok 11 rfl)))
  (e_Lok (sm_iastore (x_dk dn_142_0_1_ok 12 rfl)))))
  (e_Tok2
  (e_Tok2
  (e_Lok (ld_aload_n_0 (x_dk dn_142_0_1_ok 13 rfl)))
  (e_Lok (e_st (I := eI) (er_dup (x_dk dn_142_0_1_ok 14 rfl)) (nx_stk bf_dup))))
  (e_Tok2
  (e_Lok (lk_8_45g ho_142 (x_dk dn_142_0_1_ok 15 rfl)))
  (e_Lok (ps_iconst_1 (x_dk dn_142_0_1_ok 16 rfl))))))
  (e_Tok2
  (e_Tok2
  (e_Tok2
  (e_Lok (sm_iadd (x_dk dn_142_0_1_ok 17 rfl)))
  (e_Lok (lk_8_45p ho_142 (x_dk dn_142_0_1_ok 18 rfl))))
  (e_Tok2
  (e_Lok (ld_aload_n_0 (x_dk dn_142_0_1_ok 19 rfl)))
  (e_Lok (ps_iconst_1 (x_dk dn_142_0_1_ok 20 rfl)))))
  (e_Tok2
  (e_Tok2
  (e_Lok (lk_8_180 ho_142 (x_dk dn_142_0_1_ok 21 rfl)))
  (e_Lok (ld_aload_n_0 (x_dk dn_142_0_1_ok 22 rfl))))
  (e_Tok2
  (e_Lok (ps_bipush_20 (x_dk dn_142_0_1_ok 23 rfl)))
  (e_Tok2
  (e_Lok (lk_8_180 ho_142 (x_dk dn_142_0_1_ok 24 rfl)))
  (e_Lok (ld_aload_n_0 (x_dk dn_142_0_2_ok 0 rfl))))))))
  (e_Tok2
  (e_Tok2
  (e_Tok2
  (e_Tok2
  (e_Lok (ps_iconst_0 (x_dk dn_142_0_2_ok 1 rfl)))
  (e_Lok (lk_8_189p ho_142 (x_dk dn_142_0_2_ok 2 rfl))))
  (e_Tok2
  (e_Lok (ld_aload_n_0 (x_dk dn_142_0_2_ok 3 rfl)))
  (e_Lok (ps_iconst_m1 (x_dk dn_142_0_2_ok 4 rfl)))))
  (e_Tok2
  (e_Tok2
  (e_Lok (lk_8_192p ho_142 (x_dk dn_142_0_2_ok 5 rfl)))
  (e_Lok (ld_aload_n_0 (x_dk dn_142_0_2_ok 6 rfl))))
  (e_Tok2
  (e_Lok (lk_8_195 ho_142 (x_dk dn_142_0_2_ok 7 rfl)))
  (e_Lok (ld_aload_n_0 (x_dk dn_142_0_2_ok 8 rfl))))))
  (e_Tok2
  (e_Tok2
  (e_Tok2
  (e_Lok (ps_bipush_23 (x_dk dn_142_0_2_ok 9 rfl)))
  (e_Lok (lk_8_180 ho_142 (x_dk dn_142_0_2_ok 10 rfl))))
  (e_Tok2
  (e_Lok (ld_aload_n_0 (x_dk dn_142_0_2_ok 11 rfl)))
  (e_Lok (lk_8_21g ho_142 (x_dk dn_142_0_2_ok 12 rfl)))))
  (e_Tok2
  (e_Tok2
  (e_Lok (ps_bipush_43 (x_dk dn_142_0_2_ok 13 rfl)))
  (e_Lok (ps_iconst_0 (x_dk dn_142_0_2_ok 14 rfl))))
  (e_Tok2
  (e_Lok (lk_8_198 ho_142 (x_dk dn_142_0_2_ok 15 rfl)))
  (e_Tok2
  (e_Lok (e_st (I := eI) (er_pop (x_dk dn_142_0_2_ok 16 rfl)) (nx_stk bf_pop)))
  (e_Lok (e_rt (I := eI) (k := 0) ⟨(x_dk dn_142_0_2_ok 17 rfl), rfl⟩))))))))
def te_142 : Nat → eE := (e_T 71 te_142_0 te_142_34)
theorem te_142_ok : ∀ pc, e_EOq eft cls elay eI n_142 pc (te_142 pc) := (e_Tok2 (te_142_0_ok) (te_142_34_ok))
theorem ho_143 : (xm_y n_143).cls = "RobotCellHouse$Reader" := rfl
def dn_143_0_0 : List (Nat × Instr × Nat) := [(0, .aload_n 0, 1), (1, .getfield 57, 3), (4, .iconst 1, 1), (5, .if_icmp .eq 35, 3), (8, .aload_n 0, 1), (9, .getfield 57, 3), (12, .bipush 24, 2), (14, .bipush 39, 2), (16, .invokestatic 201, 3), (19, .ifCond .ne 21, 3), (22, .aload_n 0, 1), (23, .getfield 57, 3), (26, .bipush 41, 2), (28, .if_icmp .eq 12, 3), (31, .aload_n 0, 1), (32, .getfield 57, 3), (35, .bipush 42, 2), (37, .if_icmp .ne 7, 3), (40, .iconst 1, 1), (41, .goto 4, 3), (44, .iconst 0, 1), (45, .ireturn, 1)]
set_option maxRecDepth 20000 in
theorem dn_143_0_0_ok : dn_143_0_0.all (fun q => decide (decode (xm_b n_143) q.1 = .ok (q.2.1, q.2.2))) = true := xa_g_ok (by decide +kernel)
def te_143_0 : Nat → eE := (e_T 22 (e_T 8 (e_T 1 (e_T 0 (e_L 0 (0, ei_load 0 2 1, 0, 0)) (e_L 1 (0, ei_getf eft elay 8 5 4, 0, 0))) (e_T 4 (e_L 4 (0, ei_push (0, 1) 5, 0, 0)) (e_T 5 (e_L 5 (0, ei_if2 0 40 8, 0, 0)) (e_L 8 (0, ei_load 0 2 9, 0, 0))))) (e_T 14 (e_T 9 (e_L 9 (0, ei_getf eft elay 8 5 12, 0, 0)) (e_T 12 (e_L 12 (0, ei_push (0, 24) 14, 0, 0)) (e_L 14 (0, ei_push (0, 39) 16, 0, 0)))) (e_T 16 (e_L 16 (2, e_nof, 242, 3)) (e_T 19 (e_L 19 (0, ei_if1 1 40 22, 0, 0)) (e_L 22 (0, ei_load 0 2 23, 0, 0)))))) (e_T 32 (e_T 26 (e_T 23 (e_L 23 (0, ei_getf eft elay 8 5 26, 0, 0)) (e_L 26 (0, ei_push (0, 41) 28, 0, 0))) (e_T 28 (e_L 28 (0, ei_if2 0 40 31, 0, 0)) (e_T 31 (e_L 31 (0, ei_load 0 2 32, 0, 0)) (e_L 32 (0, ei_getf eft elay 8 5 35, 0, 0))))) (e_T 40 (e_T 35 (e_L 35 (0, ei_push (0, 42) 37, 0, 0)) (e_T 37 (e_L 37 (0, ei_if2 1 44 40, 0, 0)) (e_L 40 (0, ei_push (0, 1) 41, 0, 0)))) (e_T 41 (e_L 41 (0, ei_goto 45, 0, 0)) (e_T 44 (e_L 44 (0, ei_push (0, 0) 45, 0, 0)) (e_L 45 (1, e_nof, 4, 0)))))))
set_option maxRecDepth 20000 in
set_option maxHeartbeats 4000000 in
theorem te_143_0_ok : ∀ pc, e_EOq eft cls elay eI n_143 pc (te_143_0 pc) :=
  (e_Tok2
  (e_Tok2
  (e_Tok2
  (e_Tok2
  (e_Lok (ld_aload_n_0 (x_dk dn_143_0_0_ok 0 rfl)))
  (e_Lok (lk_8_57g ho_143 (x_dk dn_143_0_0_ok 1 rfl))))
  (e_Tok2
  (e_Lok (ps_iconst_1 (x_dk dn_143_0_0_ok 2 rfl)))
  (e_Tok2
  (e_Lok (e_st (I := eI) (er_icmpeq (off := 35) (tg := 40) (x_dk dn_143_0_0_ok 3 rfl) (by decide)) nx_if2))
  (e_Lok (ld_aload_n_0 (x_dk dn_143_0_0_ok 4 rfl))))))
  (e_Tok2
  (e_Tok2
  (e_Lok (lk_8_57g ho_143 (x_dk dn_143_0_0_ok 5 rfl)))
  (e_Tok2
  (e_Lok (ps_bipush_24 (x_dk dn_143_0_0_ok 6 rfl)))
  (e_Lok (ps_bipush_39 (x_dk dn_143_0_0_ok 7 rfl)))))
  (e_Tok2
  (e_Lok (lk_8_201 ho_143 (x_dk dn_143_0_0_ok 8 rfl)))
  (e_Tok2
  (e_Lok (e_st (I := eI) (er_ifne (off := 21) (tg := 40) (x_dk dn_143_0_0_ok 9 rfl) (by decide)) nx_if1))
  (e_Lok (ld_aload_n_0 (x_dk dn_143_0_0_ok 10 rfl)))))))
  (e_Tok2
  (e_Tok2
  (e_Tok2
  (e_Lok (lk_8_57g ho_143 (x_dk dn_143_0_0_ok 11 rfl)))
  (e_Lok (ps_bipush_41 (x_dk dn_143_0_0_ok 12 rfl))))
  (e_Tok2
  (e_Lok (e_st (I := eI) (er_icmpeq (off := 12) (tg := 40) (x_dk dn_143_0_0_ok 13 rfl) (by decide)) nx_if2))
  (e_Tok2
  (e_Lok (ld_aload_n_0 (x_dk dn_143_0_0_ok 14 rfl)))
  (e_Lok (lk_8_57g ho_143 (x_dk dn_143_0_0_ok 15 rfl))))))
  (e_Tok2
  (e_Tok2
  (e_Lok (ps_bipush_42 (x_dk dn_143_0_0_ok 16 rfl)))
  (e_Tok2
  (e_Lok (e_st (I := eI) (er_icmpne (off := 7) (tg := 44) (x_dk dn_143_0_0_ok 17 rfl) (by decide)) nx_if2))
  (e_Lok (ps_iconst_1 (x_dk dn_143_0_0_ok 18 rfl)))))
  (e_Tok2
  (e_Lok (e_st (I := eI) (er_goto (off := 4) (tg := 45) (x_dk dn_143_0_0_ok 19 rfl) (by decide)) nx_goto))
  (e_Tok2
  (e_Lok (ps_iconst_0 (x_dk dn_143_0_0_ok 20 rfl)))
  (e_Lok (e_rt (I := eI) (k := 4) ⟨(x_dk dn_143_0_0_ok 21 rfl), rfl⟩)))))))
def te_143 : Nat → eE := te_143_0
theorem te_143_ok : ∀ pc, e_EOq eft cls elay eI n_143 pc (te_143 pc) := te_143_0_ok
theorem ho_144 : (xm_y n_144).cls = "RobotCellHouse$Reader" := rfl
def dn_144_0_0 : List (Nat × Instr × Nat) := [(0, .iconst 0, 1), (1, .istore_n 1, 1), (2, .iload_n 1, 1), (3, .sipush 4000, 3), (6, .if_icmp .ge 20, 3), (9, .aload_n 0, 1), (10, .invokevirtual 205, 3), (13, .ifCond .eq 13, 3), (16, .aload_n 0, 1), (17, .invokevirtual 209, 3), (20, .iinc 1 1, 3), (23, .goto (-21), 3), (26, .return_, 1)]
set_option maxRecDepth 20000 in
theorem dn_144_0_0_ok : dn_144_0_0.all (fun q => decide (decode (xm_b n_144) q.1 = .ok (q.2.1, q.2.2))) = true := xa_g_ok (by decide +kernel)
def te_144_0 : Nat → eE := (e_T 9 (e_T 2 (e_T 0 (e_L 0 (0, ei_push (0, 0) 1, 0, 0)) (e_T 1 (e_L 1 (0, ei_stor 1 0 2, 0, 0)) (e_L 2 (0, ei_load 1 0 3, 0, 0)))) (e_T 3 (e_L 3 (0, ei_push (0, 4000) 6, 0, 0)) (e_T 6 (e_L 6 (0, ei_if2 3 26 9, 0, 0)) (e_L 9 (0, ei_load 0 2 10, 0, 0))))) (e_T 16 (e_T 10 (e_L 10 (2, e_nof, 143, 1)) (e_T 13 (e_L 13 (0, ei_if1 0 26 16, 0, 0)) (e_L 16 (0, ei_load 0 2 17, 0, 0)))) (e_T 20 (e_T 17 (e_L 17 (2, e_nof, 145, 1)) (e_L 20 (0, ei_inc 1 1 23, 0, 0))) (e_T 23 (e_L 23 (0, ei_goto 2, 0, 0)) (e_L 26 (1, e_nof, 0, 0))))))
set_option maxRecDepth 20000 in
set_option maxHeartbeats 4000000 in
theorem te_144_0_ok : ∀ pc, e_EOq eft cls elay eI n_144 pc (te_144_0 pc) :=
  (e_Tok2
  (e_Tok2
  (e_Tok2
  (e_Lok (ps_iconst_0 (x_dk dn_144_0_0_ok 0 rfl)))
  (e_Tok2
  (e_Lok (e_st (I := eI) (er_istore_n (i := 1) (x_dk dn_144_0_0_ok 1 rfl) (by decide +kernel)) nx_stor))
  (e_Lok (ld_iload_n_1 (x_dk dn_144_0_0_ok 2 rfl)))))
  (e_Tok2
  (e_Lok (ps_sipush_4000 (x_dk dn_144_0_0_ok 3 rfl)))
  (e_Tok2
  (e_Lok (e_st (I := eI) (er_icmpge (off := 20) (tg := 26) (x_dk dn_144_0_0_ok 4 rfl) (by decide)) nx_if2))
  (e_Lok (ld_aload_n_0 (x_dk dn_144_0_0_ok 5 rfl))))))
  (e_Tok2
  (e_Tok2
  (e_Lok (lk_8_205 ho_144 (x_dk dn_144_0_0_ok 6 rfl)))
  (e_Tok2
  (e_Lok (e_st (I := eI) (er_ifeq (off := 13) (tg := 26) (x_dk dn_144_0_0_ok 7 rfl) (by decide)) nx_if1))
  (e_Lok (ld_aload_n_0 (x_dk dn_144_0_0_ok 8 rfl)))))
  (e_Tok2
  (e_Tok2
  (e_Lok (lk_8_209 ho_144 (x_dk dn_144_0_0_ok 9 rfl)))
  (e_Lok (e_st (I := eI) (er_iinc (i := 1) (n := 1) (x_dk dn_144_0_0_ok 10 rfl) (by decide +kernel) (by decide)) nx_inc)))
  (e_Tok2
  (e_Lok (e_st (I := eI) (er_goto (off := (-21)) (tg := 2) (x_dk dn_144_0_0_ok 11 rfl) (by decide)) nx_goto))
  (e_Lok (e_rt (I := eI) (k := 0) ⟨(x_dk dn_144_0_0_ok 12 rfl), rfl⟩))))))
def te_144 : Nat → eE := te_144_0
theorem te_144_ok : ∀ pc, e_EOq eft cls elay eI n_144 pc (te_144 pc) := te_144_0_ok
theorem ho_145 : (xm_y n_145).cls = "RobotCellHouse$Reader" := rfl
def dn_145_0_0 : List (Nat × Instr × Nat) := [(0, .aload_n 0, 1), (1, .getfield 57, 3), (4, .bipush 41, 2), (6, .if_icmp .eq 14, 3), (9, .aload_n 0, 1), (10, .getfield 21, 3), (13, .bipush 50, 2), (15, .iconst 0, 1), (16, .invokevirtual 198, 3), (19, .pop, 1), (20, .aload_n 0, 1), (21, .getfield 57, 3), (24, .tableswitch 328 1 41 #[180, 328, 328, 328, 328, 328, 328, 328, 328, 328, 328, 328, 328, 328, 328, 328, 328, 328, 328, 328, 328, 328, 328, 187, 194, 203, 212, 219, 228, 237, 246, 255, 264, 273, 282, 291, 298, 307, 314, 328, 321], 180), (204, .aload_n 0, 1), (205, .invokevirtual 212, 3), (208, .goto 148, 3), (211, .aload_n 0, 1), (212, .invokevirtual 215, 3), (215, .goto 141, 3), (218, .aload_n 0, 1), (219, .bipush 28, 2), (221, .invokevirtual 218, 3), (224, .goto 132, 3), (227, .aload_n 0, 1), (228, .bipush 29, 2)]
set_option maxRecDepth 20000 in
theorem dn_145_0_0_ok : dn_145_0_0.all (fun q => decide (decode (xm_b n_145) q.1 = .ok (q.2.1, q.2.2))) = true := xa_g_ok (by decide +kernel)
def dn_145_0_1 : List (Nat × Instr × Nat) := [(230, .invokevirtual 218, 3), (233, .goto 123, 3), (236, .aload_n 0, 1), (237, .invokevirtual 221, 3), (240, .goto 116, 3), (243, .aload_n 0, 1), (244, .bipush 31, 2), (246, .invokevirtual 218, 3), (249, .goto 107, 3), (252, .aload_n 0, 1), (253, .bipush 32, 2), (255, .invokevirtual 218, 3), (258, .goto 98, 3), (261, .aload_n 0, 1), (262, .bipush 33, 2), (264, .invokevirtual 224, 3), (267, .goto 89, 3), (270, .aload_n 0, 1), (271, .bipush 34, 2), (273, .invokevirtual 224, 3), (276, .goto 80, 3), (279, .aload_n 0, 1), (280, .bipush 35, 2), (282, .invokevirtual 218, 3), (285, .goto 71, 3)]
set_option maxRecDepth 20000 in
theorem dn_145_0_1_ok : dn_145_0_1.all (fun q => decide (decode (xm_b n_145) q.1 = .ok (q.2.1, q.2.2))) = true := xa_g_ok (by decide +kernel)
def dn_145_0_2 : List (Nat × Instr × Nat) := [(288, .aload_n 0, 1), (289, .bipush 36, 2), (291, .invokevirtual 218, 3), (294, .goto 62, 3), (297, .aload_n 0, 1), (298, .bipush 37, 2), (300, .invokevirtual 227, 3), (303, .goto 53, 3), (306, .aload_n 0, 1), (307, .bipush 38, 2), (309, .invokevirtual 227, 3), (312, .goto 44, 3), (315, .aload_n 0, 1), (316, .invokevirtual 230, 3), (319, .goto 37, 3), (322, .aload_n 0, 1), (323, .bipush 42, 2), (325, .invokevirtual 227, 3), (328, .goto 28, 3), (331, .aload_n 0, 1), (332, .invokevirtual 233, 3), (335, .goto 21, 3), (338, .aload_n 0, 1), (339, .invokevirtual 236, 3), (342, .goto 14, 3)]
set_option maxRecDepth 20000 in
theorem dn_145_0_2_ok : dn_145_0_2.all (fun q => decide (decode (xm_b n_145) q.1 = .ok (q.2.1, q.2.2))) = true := xa_g_ok (by decide +kernel)
def dn_145_0_3 : List (Nat × Instr × Nat) := [(345, .aload_n 0, 1), (346, .invokevirtual 239, 3), (349, .goto 7, 3), (352, .aload_n 0, 1), (353, .invokevirtual 242, 3), (356, .return_, 1)]
set_option maxRecDepth 20000 in
theorem dn_145_0_3_ok : dn_145_0_3.all (fun q => decide (decode (xm_b n_145) q.1 = .ok (q.2.1, q.2.2))) = true := xa_g_ok (by decide +kernel)
def te_145_0 : Nat → eE := (e_T 218 (e_T 19 (e_T 9 (e_T 1 (e_T 0 (e_L 0 (0, ei_load 0 2 1, 0, 0)) (e_L 1 (0, ei_getf eft elay 8 5 4, 0, 0))) (e_T 4 (e_L 4 (0, ei_push (0, 41) 6, 0, 0)) (e_T 6 (e_L 6 (0, ei_if2 0 20 9, 0, 0)) (e_L 9 (0, ei_load 0 2 10, 0, 0))))) (e_T 13 (e_T 10 (e_L 10 (0, ei_getf eft elay 8 3 13, 0, 0)) (e_L 13 (0, ei_push (0, 50) 15, 0, 0))) (e_T 15 (e_L 15 (0, ei_push (0, 0) 16, 0, 0)) (e_T 16 (e_L 16 (2, e_nof, 21, 3)) (e_L 19 (0, ei_stk ef_pop 20, 0, 0)))))) (e_T 205 (e_T 21 (e_T 20 (e_L 20 (0, ei_load 0 2 21, 0, 0)) (e_L 21 (0, ei_getf eft elay 8 5 24, 0, 0))) (e_T 24 (e_L 24 (0, ei_sw [((-2147483648), 0, 352), (1, 1, 204), (2, 2, 352), (3, 3, 352), (4, 4, 352), (5, 5, 352), (6, 6, 352), (7, 7, 352), (8, 8, 352), (9, 9, 352), (10, 10, 352), (11, 11, 352), (12, 12, 352), (13, 13, 352), (14, 14, 352), (15, 15, 352), (16, 16, 352), (17, 17, 352), (18, 18, 352), (19, 19, 352), (20, 20, 352), (21, 21, 352), (22, 22, 352), (23, 23, 352), (24, 24, 211), (25, 25, 218), (26, 26, 227), (27, 27, 236), (28, 28, 243), (29, 29, 252), (30, 30, 261), (31, 31, 270), (32, 32, 279), (33, 33, 288), (34, 34, 297), (35, 35, 306), (36, 36, 315), (37, 37, 322), (38, 38, 331), (39, 39, 338), (40, 40, 352), (41, 41, 345), (42, 2147483647, 352)], 0, 0)) (e_T 204 (e_L 204 (0, ei_load 0 2 205, 0, 0)) (e_L 205 (2, e_nof, 149, 1))))) (e_T 211 (e_T 208 (e_L 208 (0, ei_goto 356, 0, 0)) (e_L 211 (0, ei_load 0 2 212, 0, 0))) (e_T 212 (e_L 212 (2, e_nof, 150, 1)) (e_T 215 (e_L 215 (0, ei_goto 356, 0, 0)) (e_L 218 (0, ei_load 0 2 219, 0, 0))))))) (e_T 240 (e_T 228 (e_T 221 (e_T 219 (e_L 219 (0, ei_push (0, 28) 221, 0, 0)) (e_L 221 (2, e_nof, 147, 2))) (e_T 224 (e_L 224 (0, ei_goto 356, 0, 0)) (e_T 227 (e_L 227 (0, ei_load 0 2 228, 0, 0)) (e_L 228 (0, ei_push (0, 29) 230, 0, 0))))) (e_T 233 (e_T 230 (e_L 230 (2, e_nof, 147, 2)) (e_L 233 (0, ei_goto 356, 0, 0))) (e_T 236 (e_L 236 (0, ei_load 0 2 237, 0, 0)) (e_T 237 (e_L 237 (2, e_nof, 151, 1)) (e_L 240 (0, ei_goto 356, 0, 0)))))) (e_T 252 (e_T 244 (e_T 243 (e_L 243 (0, ei_load 0 2 244, 0, 0)) (e_L 244 (0, ei_push (0, 31) 246, 0, 0))) (e_T 246 (e_L 246 (2, e_nof, 147, 2)) (e_T 249 (e_L 249 (0, ei_goto 356, 0, 0)) (e_L 252 (0, ei_load 0 2 253, 0, 0))))) (e_T 255 (e_T 253 (e_L 253 (0, ei_push (0, 32) 255, 0, 0)) (e_L 255 (2, e_nof, 147, 2))) (e_T 258 (e_L 258 (0, ei_goto 356, 0, 0)) (e_T 261 (e_L 261 (0, ei_load 0 2 262, 0, 0)) (e_L 262 (0, ei_push (0, 33) 264, 0, 0))))))))
set_option maxRecDepth 20000 in
set_option maxHeartbeats 4000000 in
theorem te_145_0_ok : ∀ pc, e_EOq eft cls elay eI n_145 pc (te_145_0 pc) :=
  (e_Tok2
  (e_Tok2
  (e_Tok2
  (e_Tok2
  (e_Tok2
  (e_Lok (ld_aload_n_0 (x_dk dn_145_0_0_ok 0 rfl)))
  (e_Lok (lk_8_57g ho_145 (x_dk dn_145_0_0_ok 1 rfl))))
  (e_Tok2
  (e_Lok (ps_bipush_41 (x_dk dn_145_0_0_ok 2 rfl)))
  (e_Tok2
  (e_Lok (e_st (I := eI) (er_icmpeq (off := 14) (tg := 20) (x_dk dn_145_0_0_ok 3 rfl) (by decide)) nx_if2))
  (e_Lok (ld_aload_n_0 (x_dk dn_145_0_0_ok 4 rfl))))))
  (e_Tok2
  (e_Tok2
  (e_Lok (lk_8_21g ho_145 (x_dk dn_145_0_0_ok 5 rfl)))
  (e_Lok (ps_bipush_50 (x_dk dn_145_0_0_ok 6 rfl))))
  (e_Tok2
  (e_Lok (ps_iconst_0 (x_dk dn_145_0_0_ok 7 rfl)))
  (e_Tok2
  (e_Lok (lk_8_198 ho_145 (x_dk dn_145_0_0_ok 8 rfl)))
  (e_Lok (e_st (I := eI) (er_pop (x_dk dn_145_0_0_ok 9 rfl)) (nx_stk bf_pop)))))))
  (e_Tok2
  (e_Tok2
  (e_Tok2
  (e_Lok (ld_aload_n_0 (x_dk dn_145_0_0_ok 10 rfl)))
  (e_Lok (lk_8_57g ho_145 (x_dk dn_145_0_0_ok 11 rfl))))
  (e_Tok2
  (e_Lok (e_st (I := eI) (er_tsw (dflt := 328) (lo := 1) (hi := 41) (offs := #[180, 328, 328, 328, 328, 328, 328, 328, 328, 328, 328, 328, 328, 328, 328, 328, 328, 328, 328, 328, 328, 328, 328, 187, 194, 203, 212, 219, 228, 237, 246, 255, 264, 273, 282, 291, 298, 307, 314, 328, 321]) (len := 180) (n := 41) (x_dk dn_145_0_0_ok 12 rfl) (by decide) (by decide +kernel)) nx_sw))
  (e_Tok2
  (e_Lok (ld_aload_n_0 (x_dk dn_145_0_0_ok 13 rfl)))
  (e_Lok (lk_8_212 ho_145 (x_dk dn_145_0_0_ok 14 rfl))))))
  (e_Tok2
  (e_Tok2
  (e_Lok (e_st (I := eI) (er_goto (off := 148) (tg := 356) (x_dk dn_145_0_0_ok 15 rfl) (by decide)) nx_goto))
  (e_Lok (ld_aload_n_0 (x_dk dn_145_0_0_ok 16 rfl))))
  (e_Tok2
  (e_Lok (lk_8_215 ho_145 (x_dk dn_145_0_0_ok 17 rfl)))
  (e_Tok2
  (e_Lok (e_st (I := eI) (er_goto (off := 141) (tg := 356) (x_dk dn_145_0_0_ok 18 rfl) (by decide)) nx_goto))
  (e_Lok (ld_aload_n_0 (x_dk dn_145_0_0_ok 19 rfl))))))))
  (e_Tok2
  (e_Tok2
  (e_Tok2
  (e_Tok2
  (e_Lok (ps_bipush_28 (x_dk dn_145_0_0_ok 20 rfl)))
  (e_Lok (lk_8_218 ho_145 (x_dk dn_145_0_0_ok 21 rfl))))
  (e_Tok2
  (e_Lok (e_st (I := eI) (er_goto (off := 132) (tg := 356) (x_dk dn_145_0_0_ok 22 rfl) (by decide)) nx_goto))
  (e_Tok2
  (e_Lok (ld_aload_n_0 (x_dk dn_145_0_0_ok 23 rfl)))
  (e_Lok (ps_bipush_29 (x_dk dn_145_0_0_ok 24 rfl))))))
  (e_Tok2
  (e_Tok2
  (e_Lok (lk_8_218 ho_145 (x_dk dn_145_0_1_ok 0 rfl)))
  (e_Lok (e_st (I := eI) (er_goto (off := 123) (tg := 356) (x_dk dn_145_0_1_ok 1 rfl) (by decide)) nx_goto)))
  (e_Tok2
  (e_Lok (ld_aload_n_0 (x_dk dn_145_0_1_ok 2 rfl)))
  (e_Tok2
  (e_Lok (lk_8_221 ho_145 (x_dk dn_145_0_1_ok 3 rfl)))
  (e_Lok (e_st (I := eI) (er_goto (off := 116) (tg := 356) (x_dk dn_145_0_1_ok 4 rfl) (by decide)) nx_goto))))))
  (e_Tok2
  (e_Tok2
  (e_Tok2
  (e_Lok (ld_aload_n_0 (x_dk dn_145_0_1_ok 5 rfl)))
  (e_Lok (ps_bipush_31 (x_dk dn_145_0_1_ok 6 rfl))))
  (e_Tok2
  (e_Lok (lk_8_218 ho_145 (x_dk dn_145_0_1_ok 7 rfl)))
  (e_Tok2
  (e_Lok (e_st (I := eI) (er_goto (off := 107) (tg := 356) (x_dk dn_145_0_1_ok 8 rfl) (by decide)) nx_goto))
  (e_Lok (ld_aload_n_0 (x_dk dn_145_0_1_ok 9 rfl))))))
  (e_Tok2
  (e_Tok2
  (e_Lok (ps_bipush_32 (x_dk dn_145_0_1_ok 10 rfl)))
  (e_Lok (lk_8_218 ho_145 (x_dk dn_145_0_1_ok 11 rfl))))
  (e_Tok2
  (e_Lok (e_st (I := eI) (er_goto (off := 98) (tg := 356) (x_dk dn_145_0_1_ok 12 rfl) (by decide)) nx_goto))
  (e_Tok2
  (e_Lok (ld_aload_n_0 (x_dk dn_145_0_1_ok 13 rfl)))
  (e_Lok (ps_bipush_33 (x_dk dn_145_0_1_ok 14 rfl)))))))))
def te_145_40 : Nat → eE := (e_T 285 (e_T 273 (e_T 267 (e_T 264 (e_L 264 (2, e_nof, 148, 2)) (e_L 267 (0, ei_goto 356, 0, 0))) (e_T 270 (e_L 270 (0, ei_load 0 2 271, 0, 0)) (e_T 271 (e_L 271 (0, ei_push (0, 34) 273, 0, 0)) (e_L 273 (2, e_nof, 148, 2))))) (e_T 279 (e_T 276 (e_L 276 (0, ei_goto 356, 0, 0)) (e_L 279 (0, ei_load 0 2 280, 0, 0))) (e_T 280 (e_L 280 (0, ei_push (0, 35) 282, 0, 0)) (e_T 282 (e_L 282 (2, e_nof, 147, 2)) (e_L 285 (0, ei_goto 356, 0, 0)))))) (e_T 297 (e_T 289 (e_T 288 (e_L 288 (0, ei_load 0 2 289, 0, 0)) (e_L 289 (0, ei_push (0, 36) 291, 0, 0))) (e_T 291 (e_L 291 (2, e_nof, 147, 2)) (e_T 294 (e_L 294 (0, ei_goto 356, 0, 0)) (e_L 297 (0, ei_load 0 2 298, 0, 0))))) (e_T 300 (e_T 298 (e_L 298 (0, ei_push (0, 37) 300, 0, 0)) (e_L 300 (2, e_nof, 146, 2))) (e_T 303 (e_L 303 (0, ei_goto 356, 0, 0)) (e_T 306 (e_L 306 (0, ei_load 0 2 307, 0, 0)) (e_L 307 (0, ei_push (0, 38) 309, 0, 0)))))))
set_option maxRecDepth 20000 in
set_option maxHeartbeats 4000000 in
theorem te_145_40_ok : ∀ pc, e_EOq eft cls elay eI n_145 pc (te_145_40 pc) :=
  (e_Tok2
  (e_Tok2
  (e_Tok2
  (e_Tok2
  (e_Lok (lk_8_224 ho_145 (x_dk dn_145_0_1_ok 15 rfl)))
  (e_Lok (e_st (I := eI) (er_goto (off := 89) (tg := 356) (x_dk dn_145_0_1_ok 16 rfl) (by decide)) nx_goto)))
  (e_Tok2
  (e_Lok (ld_aload_n_0 (x_dk dn_145_0_1_ok 17 rfl)))
  (e_Tok2
  (e_Lok (ps_bipush_34 (x_dk dn_145_0_1_ok 18 rfl)))
  (e_Lok (lk_8_224 ho_145 (x_dk dn_145_0_1_ok 19 rfl))))))
  (e_Tok2
  (e_Tok2
  (e_Lok (e_st (I := eI) (er_goto (off := 80) (tg := 356) (x_dk dn_145_0_1_ok 20 rfl) (by decide)) nx_goto))
  (e_Lok (ld_aload_n_0 (x_dk dn_145_0_1_ok 21 rfl))))
  (e_Tok2
  (e_Lok (ps_bipush_35 (x_dk dn_145_0_1_ok 22 rfl)))
  (e_Tok2
  (e_Lok (lk_8_218 ho_145 (x_dk dn_145_0_1_ok 23 rfl)))
  (e_Lok (e_st (I := eI) (er_goto (off := 71) (tg := 356) (x_dk dn_145_0_1_ok 24 rfl) (by decide)) nx_goto))))))
  (e_Tok2
  (e_Tok2
  (e_Tok2
  (e_Lok (ld_aload_n_0 (x_dk dn_145_0_2_ok 0 rfl)))
  (e_Lok (ps_bipush_36 (x_dk dn_145_0_2_ok 1 rfl))))
  (e_Tok2
  (e_Lok (lk_8_218 ho_145 (x_dk dn_145_0_2_ok 2 rfl)))
  (e_Tok2
  (e_Lok (e_st (I := eI) (er_goto (off := 62) (tg := 356) (x_dk dn_145_0_2_ok 3 rfl) (by decide)) nx_goto))
  (e_Lok (ld_aload_n_0 (x_dk dn_145_0_2_ok 4 rfl))))))
  (e_Tok2
  (e_Tok2
  (e_Lok (ps_bipush_37 (x_dk dn_145_0_2_ok 5 rfl)))
  (e_Lok (lk_8_227 ho_145 (x_dk dn_145_0_2_ok 6 rfl))))
  (e_Tok2
  (e_Lok (e_st (I := eI) (er_goto (off := 53) (tg := 356) (x_dk dn_145_0_2_ok 7 rfl) (by decide)) nx_goto))
  (e_Tok2
  (e_Lok (ld_aload_n_0 (x_dk dn_145_0_2_ok 8 rfl)))
  (e_Lok (ps_bipush_38 (x_dk dn_145_0_2_ok 9 rfl))))))))
def te_145_60 : Nat → eE := (e_T 331 (e_T 319 (e_T 312 (e_T 309 (e_L 309 (2, e_nof, 146, 2)) (e_L 312 (0, ei_goto 356, 0, 0))) (e_T 315 (e_L 315 (0, ei_load 0 2 316, 0, 0)) (e_T 316 (e_L 316 (2, e_nof, 152, 1)) (e_L 319 (0, ei_goto 356, 0, 0))))) (e_T 323 (e_T 322 (e_L 322 (0, ei_load 0 2 323, 0, 0)) (e_L 323 (0, ei_push (0, 42) 325, 0, 0))) (e_T 325 (e_L 325 (2, e_nof, 146, 2)) (e_T 328 (e_L 328 (0, ei_goto 356, 0, 0)) (e_L 331 (0, ei_load 0 2 332, 0, 0)))))) (e_T 342 (e_T 335 (e_T 332 (e_L 332 (2, e_nof, 153, 1)) (e_L 335 (0, ei_goto 356, 0, 0))) (e_T 338 (e_L 338 (0, ei_load 0 2 339, 0, 0)) (e_T 339 (e_L 339 (2, e_nof, 154, 1)) (e_L 342 (0, ei_goto 356, 0, 0))))) (e_T 349 (e_T 345 (e_L 345 (0, ei_load 0 2 346, 0, 0)) (e_T 346 (e_L 346 (2, e_nof, 155, 1)) (e_L 349 (0, ei_goto 356, 0, 0)))) (e_T 352 (e_L 352 (0, ei_load 0 2 353, 0, 0)) (e_T 353 (e_L 353 (2, e_nof, 156, 1)) (e_L 356 (1, e_nof, 0, 0)))))))
set_option maxRecDepth 20000 in
set_option maxHeartbeats 4000000 in
theorem te_145_60_ok : ∀ pc, e_EOq eft cls elay eI n_145 pc (te_145_60 pc) :=
  (e_Tok2
  (e_Tok2
  (e_Tok2
  (e_Tok2
  (e_Lok (lk_8_227 ho_145 (x_dk dn_145_0_2_ok 10 rfl)))
  (e_Lok (e_st (I := eI) (er_goto (off := 44) (tg := 356) (x_dk dn_145_0_2_ok 11 rfl) (by decide)) nx_goto)))
  (e_Tok2
  (e_Lok (ld_aload_n_0 (x_dk dn_145_0_2_ok 12 rfl)))
  (e_Tok2
  (e_Lok (lk_8_230 ho_145 (x_dk dn_145_0_2_ok 13 rfl)))
  (e_Lok (e_st (I := eI) (er_goto (off := 37) (tg := 356) (x_dk dn_145_0_2_ok 14 rfl) (by decide)) nx_goto)))))
  (e_Tok2
  (e_Tok2
  (e_Lok (ld_aload_n_0 (x_dk dn_145_0_2_ok 15 rfl)))
  (e_Lok (ps_bipush_42 (x_dk dn_145_0_2_ok 16 rfl))))
  (e_Tok2
  (e_Lok (lk_8_227 ho_145 (x_dk dn_145_0_2_ok 17 rfl)))
  (e_Tok2
  (e_Lok (e_st (I := eI) (er_goto (off := 28) (tg := 356) (x_dk dn_145_0_2_ok 18 rfl) (by decide)) nx_goto))
  (e_Lok (ld_aload_n_0 (x_dk dn_145_0_2_ok 19 rfl)))))))
  (e_Tok2
  (e_Tok2
  (e_Tok2
  (e_Lok (lk_8_233 ho_145 (x_dk dn_145_0_2_ok 20 rfl)))
  (e_Lok (e_st (I := eI) (er_goto (off := 21) (tg := 356) (x_dk dn_145_0_2_ok 21 rfl) (by decide)) nx_goto)))
  (e_Tok2
  (e_Lok (ld_aload_n_0 (x_dk dn_145_0_2_ok 22 rfl)))
  (e_Tok2
  (e_Lok (lk_8_236 ho_145 (x_dk dn_145_0_2_ok 23 rfl)))
  (e_Lok (e_st (I := eI) (er_goto (off := 14) (tg := 356) (x_dk dn_145_0_2_ok 24 rfl) (by decide)) nx_goto)))))
  (e_Tok2
  (e_Tok2
  (e_Lok (ld_aload_n_0 (x_dk dn_145_0_3_ok 0 rfl)))
  (e_Tok2
  (e_Lok (lk_8_239 ho_145 (x_dk dn_145_0_3_ok 1 rfl)))
  (e_Lok (e_st (I := eI) (er_goto (off := 7) (tg := 356) (x_dk dn_145_0_3_ok 2 rfl) (by decide)) nx_goto))))
  (e_Tok2
  (e_Lok (ld_aload_n_0 (x_dk dn_145_0_3_ok 3 rfl)))
  (e_Tok2
  (e_Lok (lk_8_242 ho_145 (x_dk dn_145_0_3_ok 4 rfl)))
  (e_Lok (e_rt (I := eI) (k := 0) ⟨(x_dk dn_145_0_3_ok 5 rfl), rfl⟩)))))))
def te_145 : Nat → eE := (e_T 262 te_145_0 (e_T 307 te_145_40 te_145_60))
theorem te_145_ok : ∀ pc, e_EOq eft cls elay eI n_145 pc (te_145 pc) := (e_Tok2 (te_145_0_ok) ((e_Tok2 (te_145_40_ok) (te_145_60_ok))))
theorem ho_146 : (xm_y n_146).cls = "RobotCellHouse$Reader" := rfl
def dn_146_0_0 : List (Nat × Instr × Nat) := [(0, .aload_n 0, 1), (1, .invokevirtual 54, 3), (4, .aload_n 0, 1), (5, .bipush 19, 2), (7, .invokevirtual 180, 3), (10, .aload_n 0, 1), (11, .getfield 21, 3), (14, .iload_n 1, 1), (15, .iconst 0, 1), (16, .invokevirtual 198, 3), (19, .pop, 1), (20, .return_, 1)]
set_option maxRecDepth 20000 in
theorem dn_146_0_0_ok : dn_146_0_0.all (fun q => decide (decode (xm_b n_146) q.1 = .ok (q.2.1, q.2.2))) = true := xa_g_ok (by decide +kernel)
def te_146_0 : Nat → eE := (e_T 10 (e_T 4 (e_T 0 (e_L 0 (0, ei_load 0 2 1, 0, 0)) (e_T 1 (e_L 1 (2, e_nof, 123, 1)) (e_L 4 (0, ei_load 0 2 5, 0, 0)))) (e_T 5 (e_L 5 (0, ei_push (0, 19) 7, 0, 0)) (e_T 7 (e_L 7 (2, e_nof, 129, 2)) (e_L 10 (0, ei_load 0 2 11, 0, 0))))) (e_T 15 (e_T 11 (e_L 11 (0, ei_getf eft elay 8 3 14, 0, 0)) (e_T 14 (e_L 14 (0, ei_load 1 0 15, 0, 0)) (e_L 15 (0, ei_push (0, 0) 16, 0, 0)))) (e_T 16 (e_L 16 (2, e_nof, 21, 3)) (e_T 19 (e_L 19 (0, ei_stk ef_pop 20, 0, 0)) (e_L 20 (1, e_nof, 0, 0))))))
set_option maxRecDepth 20000 in
set_option maxHeartbeats 4000000 in
theorem te_146_0_ok : ∀ pc, e_EOq eft cls elay eI n_146 pc (te_146_0 pc) :=
  (e_Tok2
  (e_Tok2
  (e_Tok2
  (e_Lok (ld_aload_n_0 (x_dk dn_146_0_0_ok 0 rfl)))
  (e_Tok2
  (e_Lok (lk_8_54 ho_146 (x_dk dn_146_0_0_ok 1 rfl)))
  (e_Lok (ld_aload_n_0 (x_dk dn_146_0_0_ok 2 rfl)))))
  (e_Tok2
  (e_Lok (ps_bipush_19 (x_dk dn_146_0_0_ok 3 rfl)))
  (e_Tok2
  (e_Lok (lk_8_180 ho_146 (x_dk dn_146_0_0_ok 4 rfl)))
  (e_Lok (ld_aload_n_0 (x_dk dn_146_0_0_ok 5 rfl))))))
  (e_Tok2
  (e_Tok2
  (e_Lok (lk_8_21g ho_146 (x_dk dn_146_0_0_ok 6 rfl)))
  (e_Tok2
  (e_Lok (ld_iload_n_1 (x_dk dn_146_0_0_ok 7 rfl)))
  (e_Lok (ps_iconst_0 (x_dk dn_146_0_0_ok 8 rfl)))))
  (e_Tok2
  (e_Lok (lk_8_198 ho_146 (x_dk dn_146_0_0_ok 9 rfl)))
  (e_Tok2
  (e_Lok (e_st (I := eI) (er_pop (x_dk dn_146_0_0_ok 10 rfl)) (nx_stk bf_pop)))
  (e_Lok (e_rt (I := eI) (k := 0) ⟨(x_dk dn_146_0_0_ok 11 rfl), rfl⟩))))))
def te_146 : Nat → eE := te_146_0
theorem te_146_ok : ∀ pc, e_EOq eft cls elay eI n_146 pc (te_146 pc) := te_146_0_ok
theorem ho_147 : (xm_y n_147).cls = "RobotCellHouse$Reader" := rfl
def dn_147_0_0 : List (Nat × Instr × Nat) := [(0, .aload_n 0, 1), (1, .invokevirtual 54, 3), (4, .aload_n 0, 1), (5, .getfield 21, 3), (8, .getfield 164, 3), (11, .istore_n 2, 1), (12, .aload_n 0, 1), (13, .invokevirtual 245, 3), (16, .aload_n 0, 1), (17, .bipush 19, 2), (19, .invokevirtual 180, 3), (22, .aload_n 0, 1), (23, .getfield 21, 3), (26, .iload_n 1, 1), (27, .iload_n 2, 1), (28, .invokevirtual 198, 3), (31, .pop, 1), (32, .return_, 1)]
set_option maxRecDepth 20000 in
theorem dn_147_0_0_ok : dn_147_0_0.all (fun q => decide (decode (xm_b n_147) q.1 = .ok (q.2.1, q.2.2))) = true := xa_g_ok (by decide +kernel)
def te_147_0 : Nat → eE := (e_T 16 (e_T 5 (e_T 1 (e_T 0 (e_L 0 (0, ei_load 0 2 1, 0, 0)) (e_L 1 (2, e_nof, 123, 1))) (e_T 4 (e_L 4 (0, ei_load 0 2 5, 0, 0)) (e_L 5 (0, ei_getf eft elay 8 3 8, 0, 0)))) (e_T 11 (e_T 8 (e_L 8 (0, ei_getf eft elay 1 0 11, 0, 0)) (e_L 11 (0, ei_stor 2 0 12, 0, 0))) (e_T 12 (e_L 12 (0, ei_load 0 2 13, 0, 0)) (e_T 13 (e_L 13 (2, e_nof, 158, 1)) (e_L 16 (0, ei_load 0 2 17, 0, 0)))))) (e_T 23 (e_T 19 (e_T 17 (e_L 17 (0, ei_push (0, 19) 19, 0, 0)) (e_L 19 (2, e_nof, 129, 2))) (e_T 22 (e_L 22 (0, ei_load 0 2 23, 0, 0)) (e_L 23 (0, ei_getf eft elay 8 3 26, 0, 0)))) (e_T 27 (e_T 26 (e_L 26 (0, ei_load 1 0 27, 0, 0)) (e_L 27 (0, ei_load 2 0 28, 0, 0))) (e_T 28 (e_L 28 (2, e_nof, 21, 3)) (e_T 31 (e_L 31 (0, ei_stk ef_pop 32, 0, 0)) (e_L 32 (1, e_nof, 0, 0)))))))
set_option maxRecDepth 20000 in
set_option maxHeartbeats 4000000 in
theorem te_147_0_ok : ∀ pc, e_EOq eft cls elay eI n_147 pc (te_147_0 pc) :=
  (e_Tok2
  (e_Tok2
  (e_Tok2
  (e_Tok2
  (e_Lok (ld_aload_n_0 (x_dk dn_147_0_0_ok 0 rfl)))
  (e_Lok (lk_8_54 ho_147 (x_dk dn_147_0_0_ok 1 rfl))))
  (e_Tok2
  (e_Lok (ld_aload_n_0 (x_dk dn_147_0_0_ok 2 rfl)))
  (e_Lok (lk_8_21g ho_147 (x_dk dn_147_0_0_ok 3 rfl)))))
  (e_Tok2
  (e_Tok2
  (e_Lok (lk_8_164g ho_147 (x_dk dn_147_0_0_ok 4 rfl)))
  (e_Lok (e_st (I := eI) (er_istore_n (i := 2) (x_dk dn_147_0_0_ok 5 rfl) (by decide +kernel)) nx_stor)))
  (e_Tok2
  (e_Lok (ld_aload_n_0 (x_dk dn_147_0_0_ok 6 rfl)))
  (e_Tok2
  (e_Lok (lk_8_245 ho_147 (x_dk dn_147_0_0_ok 7 rfl)))
  (e_Lok (ld_aload_n_0 (x_dk dn_147_0_0_ok 8 rfl)))))))
  (e_Tok2
  (e_Tok2
  (e_Tok2
  (e_Lok (ps_bipush_19 (x_dk dn_147_0_0_ok 9 rfl)))
  (e_Lok (lk_8_180 ho_147 (x_dk dn_147_0_0_ok 10 rfl))))
  (e_Tok2
  (e_Lok (ld_aload_n_0 (x_dk dn_147_0_0_ok 11 rfl)))
  (e_Lok (lk_8_21g ho_147 (x_dk dn_147_0_0_ok 12 rfl)))))
  (e_Tok2
  (e_Tok2
  (e_Lok (ld_iload_n_1 (x_dk dn_147_0_0_ok 13 rfl)))
  (e_Lok (ld_iload_n_2 (x_dk dn_147_0_0_ok 14 rfl))))
  (e_Tok2
  (e_Lok (lk_8_198 ho_147 (x_dk dn_147_0_0_ok 15 rfl)))
  (e_Tok2
  (e_Lok (e_st (I := eI) (er_pop (x_dk dn_147_0_0_ok 16 rfl)) (nx_stk bf_pop)))
  (e_Lok (e_rt (I := eI) (k := 0) ⟨(x_dk dn_147_0_0_ok 17 rfl), rfl⟩)))))))
def te_147 : Nat → eE := te_147_0
theorem te_147_ok : ∀ pc, e_EOq eft cls elay eI n_147 pc (te_147 pc) := te_147_0_ok
theorem ho_148 : (xm_y n_148).cls = "RobotCellHouse$Reader" := rfl
def dn_148_0_0 : List (Nat × Instr × Nat) := [(0, .aload_n 0, 1), (1, .invokevirtual 54, 3), (4, .aload_n 0, 1), (5, .getfield 78, 3), (8, .istore_n 2, 1), (9, .aload_n 0, 1), (10, .iconst 1, 1), (11, .invokevirtual 180, 3), (14, .aload_n 0, 1), (15, .bipush 19, 2), (17, .invokevirtual 180, 3), (20, .aload_n 0, 1), (21, .getfield 21, 3), (24, .iload_n 1, 1), (25, .iload_n 2, 1), (26, .invokevirtual 198, 3), (29, .pop, 1), (30, .return_, 1)]
set_option maxRecDepth 20000 in
theorem dn_148_0_0_ok : dn_148_0_0.all (fun q => decide (decode (xm_b n_148) q.1 = .ok (q.2.1, q.2.2))) = true := xa_g_ok (by decide +kernel)
def te_148_0 : Nat → eE := (e_T 14 (e_T 5 (e_T 1 (e_T 0 (e_L 0 (0, ei_load 0 2 1, 0, 0)) (e_L 1 (2, e_nof, 123, 1))) (e_T 4 (e_L 4 (0, ei_load 0 2 5, 0, 0)) (e_L 5 (0, ei_getf eft elay 8 6 8, 0, 0)))) (e_T 9 (e_T 8 (e_L 8 (0, ei_stor 2 0 9, 0, 0)) (e_L 9 (0, ei_load 0 2 10, 0, 0))) (e_T 10 (e_L 10 (0, ei_push (0, 1) 11, 0, 0)) (e_T 11 (e_L 11 (2, e_nof, 129, 2)) (e_L 14 (0, ei_load 0 2 15, 0, 0)))))) (e_T 21 (e_T 17 (e_T 15 (e_L 15 (0, ei_push (0, 19) 17, 0, 0)) (e_L 17 (2, e_nof, 129, 2))) (e_T 20 (e_L 20 (0, ei_load 0 2 21, 0, 0)) (e_L 21 (0, ei_getf eft elay 8 3 24, 0, 0)))) (e_T 25 (e_T 24 (e_L 24 (0, ei_load 1 0 25, 0, 0)) (e_L 25 (0, ei_load 2 0 26, 0, 0))) (e_T 26 (e_L 26 (2, e_nof, 21, 3)) (e_T 29 (e_L 29 (0, ei_stk ef_pop 30, 0, 0)) (e_L 30 (1, e_nof, 0, 0)))))))
set_option maxRecDepth 20000 in
set_option maxHeartbeats 4000000 in
theorem te_148_0_ok : ∀ pc, e_EOq eft cls elay eI n_148 pc (te_148_0 pc) :=
  (e_Tok2
  (e_Tok2
  (e_Tok2
  (e_Tok2
  (e_Lok (ld_aload_n_0 (x_dk dn_148_0_0_ok 0 rfl)))
  (e_Lok (lk_8_54 ho_148 (x_dk dn_148_0_0_ok 1 rfl))))
  (e_Tok2
  (e_Lok (ld_aload_n_0 (x_dk dn_148_0_0_ok 2 rfl)))
  (e_Lok (lk_8_78g ho_148 (x_dk dn_148_0_0_ok 3 rfl)))))
  (e_Tok2
  (e_Tok2
  (e_Lok (e_st (I := eI) (er_istore_n (i := 2) (x_dk dn_148_0_0_ok 4 rfl) (by decide +kernel)) nx_stor))
  (e_Lok (ld_aload_n_0 (x_dk dn_148_0_0_ok 5 rfl))))
  (e_Tok2
  (e_Lok (ps_iconst_1 (x_dk dn_148_0_0_ok 6 rfl)))
  (e_Tok2
  (e_Lok (lk_8_180 ho_148 (x_dk dn_148_0_0_ok 7 rfl)))
  (e_Lok (ld_aload_n_0 (x_dk dn_148_0_0_ok 8 rfl)))))))
  (e_Tok2
  (e_Tok2
  (e_Tok2
  (e_Lok (ps_bipush_19 (x_dk dn_148_0_0_ok 9 rfl)))
  (e_Lok (lk_8_180 ho_148 (x_dk dn_148_0_0_ok 10 rfl))))
  (e_Tok2
  (e_Lok (ld_aload_n_0 (x_dk dn_148_0_0_ok 11 rfl)))
  (e_Lok (lk_8_21g ho_148 (x_dk dn_148_0_0_ok 12 rfl)))))
  (e_Tok2
  (e_Tok2
  (e_Lok (ld_iload_n_1 (x_dk dn_148_0_0_ok 13 rfl)))
  (e_Lok (ld_iload_n_2 (x_dk dn_148_0_0_ok 14 rfl))))
  (e_Tok2
  (e_Lok (lk_8_198 ho_148 (x_dk dn_148_0_0_ok 15 rfl)))
  (e_Tok2
  (e_Lok (e_st (I := eI) (er_pop (x_dk dn_148_0_0_ok 16 rfl)) (nx_stk bf_pop)))
  (e_Lok (e_rt (I := eI) (k := 0) ⟨(x_dk dn_148_0_0_ok 17 rfl), rfl⟩)))))))
def te_148 : Nat → eE := te_148_0
theorem te_148_ok : ∀ pc, e_EOq eft cls elay eI n_148 pc (te_148 pc) := te_148_0_ok
theorem ho_149 : (xm_y n_149).cls = "RobotCellHouse$Reader" := rfl
def dn_149_0_0 : List (Nat × Instr × Nat) := [(0, .aload_n 0, 1), (1, .invokevirtual 248, 3), (4, .istore_n 1, 1), (5, .aload_n 0, 1), (6, .invokevirtual 54, 3), (9, .aload_n 0, 1), (10, .bipush 13, 2), (12, .invokevirtual 180, 3), (15, .aload_n 0, 1), (16, .invokevirtual 245, 3), (19, .aload_n 0, 1), (20, .bipush 19, 2), (22, .invokevirtual 180, 3), (25, .aload_n 0, 1), (26, .getfield 21, 3), (29, .bipush 25, 2), (31, .iload_n 1, 1), (32, .invokevirtual 198, 3), (35, .pop, 1), (36, .return_, 1)]
set_option maxRecDepth 20000 in
theorem dn_149_0_0_ok : dn_149_0_0.all (fun q => decide (decode (xm_b n_149) q.1 = .ok (q.2.1, q.2.2))) = true := xa_g_ok (by decide +kernel)
def te_149_0 : Nat → eE := (e_T 16 (e_T 6 (e_T 1 (e_T 0 (e_L 0 (0, ei_load 0 2 1, 0, 0)) (e_L 1 (2, e_nof, 137, 1))) (e_T 4 (e_L 4 (0, ei_stor 1 0 5, 0, 0)) (e_T 5 (e_L 5 (0, ei_load 0 2 6, 0, 0)) (e_L 6 (2, e_nof, 123, 1))))) (e_T 10 (e_T 9 (e_L 9 (0, ei_load 0 2 10, 0, 0)) (e_L 10 (0, ei_push (0, 13) 12, 0, 0))) (e_T 12 (e_L 12 (2, e_nof, 129, 2)) (e_T 15 (e_L 15 (0, ei_load 0 2 16, 0, 0)) (e_L 16 (2, e_nof, 158, 1)))))) (e_T 26 (e_T 20 (e_T 19 (e_L 19 (0, ei_load 0 2 20, 0, 0)) (e_L 20 (0, ei_push (0, 19) 22, 0, 0))) (e_T 22 (e_L 22 (2, e_nof, 129, 2)) (e_T 25 (e_L 25 (0, ei_load 0 2 26, 0, 0)) (e_L 26 (0, ei_getf eft elay 8 3 29, 0, 0))))) (e_T 31 (e_T 29 (e_L 29 (0, ei_push (0, 25) 31, 0, 0)) (e_L 31 (0, ei_load 1 0 32, 0, 0))) (e_T 32 (e_L 32 (2, e_nof, 21, 3)) (e_T 35 (e_L 35 (0, ei_stk ef_pop 36, 0, 0)) (e_L 36 (1, e_nof, 0, 0)))))))
set_option maxRecDepth 20000 in
set_option maxHeartbeats 4000000 in
theorem te_149_0_ok : ∀ pc, e_EOq eft cls elay eI n_149 pc (te_149_0 pc) :=
  (e_Tok2
  (e_Tok2
  (e_Tok2
  (e_Tok2
  (e_Lok (ld_aload_n_0 (x_dk dn_149_0_0_ok 0 rfl)))
  (e_Lok (lk_8_248 ho_149 (x_dk dn_149_0_0_ok 1 rfl))))
  (e_Tok2
  (e_Lok (e_st (I := eI) (er_istore_n (i := 1) (x_dk dn_149_0_0_ok 2 rfl) (by decide +kernel)) nx_stor))
  (e_Tok2
  (e_Lok (ld_aload_n_0 (x_dk dn_149_0_0_ok 3 rfl)))
  (e_Lok (lk_8_54 ho_149 (x_dk dn_149_0_0_ok 4 rfl))))))
  (e_Tok2
  (e_Tok2
  (e_Lok (ld_aload_n_0 (x_dk dn_149_0_0_ok 5 rfl)))
  (e_Lok (ps_bipush_13 (x_dk dn_149_0_0_ok 6 rfl))))
  (e_Tok2
  (e_Lok (lk_8_180 ho_149 (x_dk dn_149_0_0_ok 7 rfl)))
  (e_Tok2
  (e_Lok (ld_aload_n_0 (x_dk dn_149_0_0_ok 8 rfl)))
  (e_Lok (lk_8_245 ho_149 (x_dk dn_149_0_0_ok 9 rfl)))))))
  (e_Tok2
  (e_Tok2
  (e_Tok2
  (e_Lok (ld_aload_n_0 (x_dk dn_149_0_0_ok 10 rfl)))
  (e_Lok (ps_bipush_19 (x_dk dn_149_0_0_ok 11 rfl))))
  (e_Tok2
  (e_Lok (lk_8_180 ho_149 (x_dk dn_149_0_0_ok 12 rfl)))
  (e_Tok2
  (e_Lok (ld_aload_n_0 (x_dk dn_149_0_0_ok 13 rfl)))
  (e_Lok (lk_8_21g ho_149 (x_dk dn_149_0_0_ok 14 rfl))))))
  (e_Tok2
  (e_Tok2
  (e_Lok (ps_bipush_25 (x_dk dn_149_0_0_ok 15 rfl)))
  (e_Lok (ld_iload_n_1 (x_dk dn_149_0_0_ok 16 rfl))))
  (e_Tok2
  (e_Lok (lk_8_198 ho_149 (x_dk dn_149_0_0_ok 17 rfl)))
  (e_Tok2
  (e_Lok (e_st (I := eI) (er_pop (x_dk dn_149_0_0_ok 18 rfl)) (nx_stk bf_pop)))
  (e_Lok (e_rt (I := eI) (k := 0) ⟨(x_dk dn_149_0_0_ok 19 rfl), rfl⟩)))))))
def te_149 : Nat → eE := te_149_0
theorem te_149_ok : ∀ pc, e_EOq eft cls elay eI n_149 pc (te_149 pc) := te_149_0_ok
theorem ho_150 : (xm_y n_150).cls = "RobotCellHouse$Reader" := rfl
def dn_150_0_0 : List (Nat × Instr × Nat) := [(0, .aload_n 0, 1), (1, .invokevirtual 54, 3), (4, .aload_n 0, 1), (5, .invokevirtual 245, 3), (8, .aload_n 0, 1), (9, .getfield 21, 3), (12, .bipush 26, 2), (14, .iconst 0, 1), (15, .invokevirtual 198, 3), (18, .pop, 1), (19, .iconst 1, 1), (20, .istore_n 1, 1), (21, .iload_n 1, 1), (22, .sipush 4000, 3), (25, .if_icmp .ge 37, 3), (28, .aload_n 0, 1), (29, .getfield 57, 3), (32, .bipush 18, 2), (34, .if_icmp .ne 28, 3), (37, .aload_n 0, 1), (38, .invokevirtual 54, 3), (41, .aload_n 0, 1), (42, .invokevirtual 245, 3), (45, .aload_n 0, 1), (46, .getfield 21, 3)]
set_option maxRecDepth 20000 in
theorem dn_150_0_0_ok : dn_150_0_0.all (fun q => decide (decode (xm_b n_150) q.1 = .ok (q.2.1, q.2.2))) = true := xa_g_ok (by decide +kernel)
def dn_150_0_1 : List (Nat × Instr × Nat) := [(49, .bipush 26, 2), (51, .iload_n 1, 1), (52, .invokevirtual 198, 3), (55, .pop, 1), (56, .iinc 1 1, 3), (59, .goto (-38), 3), (62, .aload_n 0, 1), (63, .bipush 19, 2), (65, .invokevirtual 180, 3), (68, .aload_n 0, 1), (69, .getfield 21, 3), (72, .bipush 27, 2), (74, .iload_n 1, 1), (75, .invokevirtual 198, 3), (78, .pop, 1), (79, .return_, 1)]
set_option maxRecDepth 20000 in
theorem dn_150_0_1_ok : dn_150_0_1.all (fun q => decide (decode (xm_b n_150) q.1 = .ok (q.2.1, q.2.2))) = true := xa_g_ok (by decide +kernel)
def te_150_0 : Nat → eE := (e_T 18 (e_T 8 (e_T 1 (e_T 0 (e_L 0 (0, ei_load 0 2 1, 0, 0)) (e_L 1 (2, e_nof, 123, 1))) (e_T 4 (e_L 4 (0, ei_load 0 2 5, 0, 0)) (e_T 5 (e_L 5 (2, e_nof, 158, 1)) (e_L 8 (0, ei_load 0 2 9, 0, 0))))) (e_T 12 (e_T 9 (e_L 9 (0, ei_getf eft elay 8 3 12, 0, 0)) (e_L 12 (0, ei_push (0, 26) 14, 0, 0))) (e_T 14 (e_L 14 (0, ei_push (0, 0) 15, 0, 0)) (e_T 15 (e_L 15 (2, e_nof, 21, 3)) (e_L 18 (0, ei_stk ef_pop 19, 0, 0)))))) (e_T 25 (e_T 20 (e_T 19 (e_L 19 (0, ei_push (0, 1) 20, 0, 0)) (e_L 20 (0, ei_stor 1 0 21, 0, 0))) (e_T 21 (e_L 21 (0, ei_load 1 0 22, 0, 0)) (e_T 22 (e_L 22 (0, ei_push (0, 4000) 25, 0, 0)) (e_L 25 (0, ei_if2 3 62 28, 0, 0))))) (e_T 29 (e_T 28 (e_L 28 (0, ei_load 0 2 29, 0, 0)) (e_L 29 (0, ei_getf eft elay 8 5 32, 0, 0))) (e_T 32 (e_L 32 (0, ei_push (0, 18) 34, 0, 0)) (e_T 34 (e_L 34 (0, ei_if2 1 62 37, 0, 0)) (e_L 37 (0, ei_load 0 2 38, 0, 0)))))))
set_option maxRecDepth 20000 in
set_option maxHeartbeats 4000000 in
theorem te_150_0_ok : ∀ pc, e_EOq eft cls elay eI n_150 pc (te_150_0 pc) :=
  (e_Tok2
  (e_Tok2
  (e_Tok2
  (e_Tok2
  (e_Lok (ld_aload_n_0 (x_dk dn_150_0_0_ok 0 rfl)))
  (e_Lok (lk_8_54 ho_150 (x_dk dn_150_0_0_ok 1 rfl))))
  (e_Tok2
  (e_Lok (ld_aload_n_0 (x_dk dn_150_0_0_ok 2 rfl)))
  (e_Tok2
  (e_Lok (lk_8_245 ho_150 (x_dk dn_150_0_0_ok 3 rfl)))
  (e_Lok (ld_aload_n_0 (x_dk dn_150_0_0_ok 4 rfl))))))
  (e_Tok2
  (e_Tok2
  (e_Lok (lk_8_21g ho_150 (x_dk dn_150_0_0_ok 5 rfl)))
  (e_Lok (ps_bipush_26 (x_dk dn_150_0_0_ok 6 rfl))))
  (e_Tok2
  (e_Lok (ps_iconst_0 (x_dk dn_150_0_0_ok 7 rfl)))
  (e_Tok2
  (e_Lok (lk_8_198 ho_150 (x_dk dn_150_0_0_ok 8 rfl)))
  (e_Lok (e_st (I := eI) (er_pop (x_dk dn_150_0_0_ok 9 rfl)) (nx_stk bf_pop)))))))
  (e_Tok2
  (e_Tok2
  (e_Tok2
  (e_Lok (ps_iconst_1 (x_dk dn_150_0_0_ok 10 rfl)))
  (e_Lok (e_st (I := eI) (er_istore_n (i := 1) (x_dk dn_150_0_0_ok 11 rfl) (by decide +kernel)) nx_stor)))
  (e_Tok2
  (e_Lok (ld_iload_n_1 (x_dk dn_150_0_0_ok 12 rfl)))
  (e_Tok2
  (e_Lok (ps_sipush_4000 (x_dk dn_150_0_0_ok 13 rfl)))
  (e_Lok (e_st (I := eI) (er_icmpge (off := 37) (tg := 62) (x_dk dn_150_0_0_ok 14 rfl) (by decide)) nx_if2)))))
  (e_Tok2
  (e_Tok2
  (e_Lok (ld_aload_n_0 (x_dk dn_150_0_0_ok 15 rfl)))
  (e_Lok (lk_8_57g ho_150 (x_dk dn_150_0_0_ok 16 rfl))))
  (e_Tok2
  (e_Lok (ps_bipush_18 (x_dk dn_150_0_0_ok 17 rfl)))
  (e_Tok2
  (e_Lok (e_st (I := eI) (er_icmpne (off := 28) (tg := 62) (x_dk dn_150_0_0_ok 18 rfl) (by decide)) nx_if2))
  (e_Lok (ld_aload_n_0 (x_dk dn_150_0_0_ok 19 rfl))))))))
def te_150_20 : Nat → eE := (e_T 56 (e_T 46 (e_T 41 (e_T 38 (e_L 38 (2, e_nof, 123, 1)) (e_L 41 (0, ei_load 0 2 42, 0, 0))) (e_T 42 (e_L 42 (2, e_nof, 158, 1)) (e_T 45 (e_L 45 (0, ei_load 0 2 46, 0, 0)) (e_L 46 (0, ei_getf eft elay 8 3 49, 0, 0))))) (e_T 51 (e_T 49 (e_L 49 (0, ei_push (0, 26) 51, 0, 0)) (e_L 51 (0, ei_load 1 0 52, 0, 0))) (e_T 52 (e_L 52 (2, e_nof, 21, 3)) (e_T 55 (e_L 55 (0, ei_stk ef_pop 56, 0, 0)) (e_L 56 (0, ei_inc 1 1 59, 0, 0)))))) (e_T 68 (e_T 62 (e_T 59 (e_L 59 (0, ei_goto 21, 0, 0)) (e_L 62 (0, ei_load 0 2 63, 0, 0))) (e_T 63 (e_L 63 (0, ei_push (0, 19) 65, 0, 0)) (e_T 65 (e_L 65 (2, e_nof, 129, 2)) (e_L 68 (0, ei_load 0 2 69, 0, 0))))) (e_T 74 (e_T 69 (e_L 69 (0, ei_getf eft elay 8 3 72, 0, 0)) (e_T 72 (e_L 72 (0, ei_push (0, 27) 74, 0, 0)) (e_L 74 (0, ei_load 1 0 75, 0, 0)))) (e_T 75 (e_L 75 (2, e_nof, 21, 3)) (e_T 78 (e_L 78 (0, ei_stk ef_pop 79, 0, 0)) (e_L 79 (1, e_nof, 0, 0)))))))
set_option maxRecDepth 20000 in
set_option maxHeartbeats 4000000 in
theorem te_150_20_ok : ∀ pc, e_EOq eft cls elay eI n_150 pc (te_150_20 pc) :=
  (e_Tok2
  (e_Tok2
  (e_Tok2
  (e_Tok2
  (e_Lok (lk_8_54 ho_150 (x_dk dn_150_0_0_ok 20 rfl)))
  (e_Lok (ld_aload_n_0 (x_dk dn_150_0_0_ok 21 rfl))))
  (e_Tok2
  (e_Lok (lk_8_245 ho_150 (x_dk dn_150_0_0_ok 22 rfl)))
  (e_Tok2
  (e_Lok (ld_aload_n_0 (x_dk dn_150_0_0_ok 23 rfl)))
  (e_Lok (lk_8_21g ho_150 (x_dk dn_150_0_0_ok 24 rfl))))))
  (e_Tok2
  (e_Tok2
  (e_Lok (ps_bipush_26 (x_dk dn_150_0_1_ok 0 rfl)))
  (e_Lok (ld_iload_n_1 (x_dk dn_150_0_1_ok 1 rfl))))
  (e_Tok2
  (e_Lok (lk_8_198 ho_150 (x_dk dn_150_0_1_ok 2 rfl)))
  (e_Tok2
  (e_Lok (e_st (I := eI) (er_pop (x_dk dn_150_0_1_ok 3 rfl)) (nx_stk bf_pop)))
  (e_Lok (e_st (I := eI) (er_iinc (i := 1) (n := 1) (x_dk dn_150_0_1_ok 4 rfl) (by decide +kernel) (by decide)) nx_inc))))))
  (e_Tok2
  (e_Tok2
  (e_Tok2
  (e_Lok (e_st (I := eI) (er_goto (off := (-38)) (tg := 21) (x_dk dn_150_0_1_ok 5 rfl) (by decide)) nx_goto))
  (e_Lok (ld_aload_n_0 (x_dk dn_150_0_1_ok 6 rfl))))
  (e_Tok2
  (e_Lok (ps_bipush_19 (x_dk dn_150_0_1_ok 7 rfl)))
  (e_Tok2
  (e_Lok (lk_8_180 ho_150 (x_dk dn_150_0_1_ok 8 rfl)))
  (e_Lok (ld_aload_n_0 (x_dk dn_150_0_1_ok 9 rfl))))))
  (e_Tok2
  (e_Tok2
  (e_Lok (lk_8_21g ho_150 (x_dk dn_150_0_1_ok 10 rfl)))
  (e_Tok2
  (e_Lok (ps_bipush_27 (x_dk dn_150_0_1_ok 11 rfl)))
  (e_Lok (ld_iload_n_1 (x_dk dn_150_0_1_ok 12 rfl)))))
  (e_Tok2
  (e_Lok (lk_8_198 ho_150 (x_dk dn_150_0_1_ok 13 rfl)))
  (e_Tok2
  (e_Lok (e_st (I := eI) (er_pop (x_dk dn_150_0_1_ok 14 rfl)) (nx_stk bf_pop)))
  (e_Lok (e_rt (I := eI) (k := 0) ⟨(x_dk dn_150_0_1_ok 15 rfl), rfl⟩)))))))
def te_150 : Nat → eE := (e_T 37 te_150_0 te_150_20)
theorem te_150_ok : ∀ pc, e_EOq eft cls elay eI n_150 pc (te_150 pc) := (e_Tok2 (te_150_0_ok) (te_150_20_ok))
theorem ho_151 : (xm_y n_151).cls = "RobotCellHouse$Reader" := rfl
def dn_151_0_0 : List (Nat × Instr × Nat) := [(0, .aload_n 0, 1), (1, .invokevirtual 54, 3), (4, .aload_n 0, 1), (5, .invokevirtual 245, 3), (8, .aload_n 0, 1), (9, .bipush 18, 2), (11, .invokevirtual 180, 3), (14, .aload_n 0, 1), (15, .invokevirtual 245, 3), (18, .aload_n 0, 1), (19, .bipush 19, 2), (21, .invokevirtual 180, 3), (24, .aload_n 0, 1), (25, .getfield 21, 3), (28, .bipush 30, 2), (30, .iconst 0, 1), (31, .invokevirtual 198, 3), (34, .pop, 1), (35, .return_, 1)]
set_option maxRecDepth 20000 in
theorem dn_151_0_0_ok : dn_151_0_0.all (fun q => decide (decode (xm_b n_151) q.1 = .ok (q.2.1, q.2.2))) = true := xa_g_ok (by decide +kernel)
def te_151_0 : Nat → eE := (e_T 15 (e_T 5 (e_T 1 (e_T 0 (e_L 0 (0, ei_load 0 2 1, 0, 0)) (e_L 1 (2, e_nof, 123, 1))) (e_T 4 (e_L 4 (0, ei_load 0 2 5, 0, 0)) (e_L 5 (2, e_nof, 158, 1)))) (e_T 9 (e_T 8 (e_L 8 (0, ei_load 0 2 9, 0, 0)) (e_L 9 (0, ei_push (0, 18) 11, 0, 0))) (e_T 11 (e_L 11 (2, e_nof, 129, 2)) (e_T 14 (e_L 14 (0, ei_load 0 2 15, 0, 0)) (e_L 15 (2, e_nof, 158, 1)))))) (e_T 25 (e_T 19 (e_T 18 (e_L 18 (0, ei_load 0 2 19, 0, 0)) (e_L 19 (0, ei_push (0, 19) 21, 0, 0))) (e_T 21 (e_L 21 (2, e_nof, 129, 2)) (e_T 24 (e_L 24 (0, ei_load 0 2 25, 0, 0)) (e_L 25 (0, ei_getf eft elay 8 3 28, 0, 0))))) (e_T 30 (e_T 28 (e_L 28 (0, ei_push (0, 30) 30, 0, 0)) (e_L 30 (0, ei_push (0, 0) 31, 0, 0))) (e_T 31 (e_L 31 (2, e_nof, 21, 3)) (e_T 34 (e_L 34 (0, ei_stk ef_pop 35, 0, 0)) (e_L 35 (1, e_nof, 0, 0)))))))
set_option maxRecDepth 20000 in
set_option maxHeartbeats 4000000 in
theorem te_151_0_ok : ∀ pc, e_EOq eft cls elay eI n_151 pc (te_151_0 pc) :=
  (e_Tok2
  (e_Tok2
  (e_Tok2
  (e_Tok2
  (e_Lok (ld_aload_n_0 (x_dk dn_151_0_0_ok 0 rfl)))
  (e_Lok (lk_8_54 ho_151 (x_dk dn_151_0_0_ok 1 rfl))))
  (e_Tok2
  (e_Lok (ld_aload_n_0 (x_dk dn_151_0_0_ok 2 rfl)))
  (e_Lok (lk_8_245 ho_151 (x_dk dn_151_0_0_ok 3 rfl)))))
  (e_Tok2
  (e_Tok2
  (e_Lok (ld_aload_n_0 (x_dk dn_151_0_0_ok 4 rfl)))
  (e_Lok (ps_bipush_18 (x_dk dn_151_0_0_ok 5 rfl))))
  (e_Tok2
  (e_Lok (lk_8_180 ho_151 (x_dk dn_151_0_0_ok 6 rfl)))
  (e_Tok2
  (e_Lok (ld_aload_n_0 (x_dk dn_151_0_0_ok 7 rfl)))
  (e_Lok (lk_8_245 ho_151 (x_dk dn_151_0_0_ok 8 rfl)))))))
  (e_Tok2
  (e_Tok2
  (e_Tok2
  (e_Lok (ld_aload_n_0 (x_dk dn_151_0_0_ok 9 rfl)))
  (e_Lok (ps_bipush_19 (x_dk dn_151_0_0_ok 10 rfl))))
  (e_Tok2
  (e_Lok (lk_8_180 ho_151 (x_dk dn_151_0_0_ok 11 rfl)))
  (e_Tok2
  (e_Lok (ld_aload_n_0 (x_dk dn_151_0_0_ok 12 rfl)))
  (e_Lok (lk_8_21g ho_151 (x_dk dn_151_0_0_ok 13 rfl))))))
  (e_Tok2
  (e_Tok2
  (e_Lok (ps_bipush_30 (x_dk dn_151_0_0_ok 14 rfl)))
  (e_Lok (ps_iconst_0 (x_dk dn_151_0_0_ok 15 rfl))))
  (e_Tok2
  (e_Lok (lk_8_198 ho_151 (x_dk dn_151_0_0_ok 16 rfl)))
  (e_Tok2
  (e_Lok (e_st (I := eI) (er_pop (x_dk dn_151_0_0_ok 17 rfl)) (nx_stk bf_pop)))
  (e_Lok (e_rt (I := eI) (k := 0) ⟨(x_dk dn_151_0_0_ok 18 rfl), rfl⟩)))))))
def te_151 : Nat → eE := te_151_0
theorem te_151_ok : ∀ pc, e_EOq eft cls elay eI n_151 pc (te_151 pc) := te_151_0_ok
theorem ho_152 : (xm_y n_152).cls = "RobotCellHouse$Reader" := rfl
def dn_152_0_0 : List (Nat × Instr × Nat) := [(0, .aload_n 0, 1), (1, .invokevirtual 54, 3), (4, .aload_n 0, 1), (5, .invokevirtual 245, 3), (8, .aload_n 0, 1), (9, .bipush 18, 2), (11, .invokevirtual 180, 3), (14, .aload_n 0, 1), (15, .getfield 78, 3), (18, .istore_n 1, 1), (19, .aload_n 0, 1), (20, .iconst 1, 1), (21, .invokevirtual 180, 3), (24, .aload_n 0, 1), (25, .bipush 19, 2), (27, .invokevirtual 180, 3), (30, .aload_n 0, 1), (31, .getfield 21, 3), (34, .bipush 39, 2), (36, .iload_n 1, 1), (37, .invokevirtual 198, 3), (40, .pop, 1), (41, .return_, 1)]
set_option maxRecDepth 20000 in
theorem dn_152_0_0_ok : dn_152_0_0.all (fun q => decide (decode (xm_b n_152) q.1 = .ok (q.2.1, q.2.2))) = true := xa_g_ok (by decide +kernel)
def te_152_0 : Nat → eE := (e_T 19 (e_T 8 (e_T 1 (e_T 0 (e_L 0 (0, ei_load 0 2 1, 0, 0)) (e_L 1 (2, e_nof, 123, 1))) (e_T 4 (e_L 4 (0, ei_load 0 2 5, 0, 0)) (e_T 5 (e_L 5 (2, e_nof, 158, 1)) (e_L 8 (0, ei_load 0 2 9, 0, 0))))) (e_T 14 (e_T 9 (e_L 9 (0, ei_push (0, 18) 11, 0, 0)) (e_T 11 (e_L 11 (2, e_nof, 129, 2)) (e_L 14 (0, ei_load 0 2 15, 0, 0)))) (e_T 15 (e_L 15 (0, ei_getf eft elay 8 6 18, 0, 0)) (e_T 18 (e_L 18 (0, ei_stor 1 0 19, 0, 0)) (e_L 19 (0, ei_load 0 2 20, 0, 0)))))) (e_T 30 (e_T 24 (e_T 20 (e_L 20 (0, ei_push (0, 1) 21, 0, 0)) (e_T 21 (e_L 21 (2, e_nof, 129, 2)) (e_L 24 (0, ei_load 0 2 25, 0, 0)))) (e_T 25 (e_L 25 (0, ei_push (0, 19) 27, 0, 0)) (e_T 27 (e_L 27 (2, e_nof, 129, 2)) (e_L 30 (0, ei_load 0 2 31, 0, 0))))) (e_T 36 (e_T 31 (e_L 31 (0, ei_getf eft elay 8 3 34, 0, 0)) (e_T 34 (e_L 34 (0, ei_push (0, 39) 36, 0, 0)) (e_L 36 (0, ei_load 1 0 37, 0, 0)))) (e_T 37 (e_L 37 (2, e_nof, 21, 3)) (e_T 40 (e_L 40 (0, ei_stk ef_pop 41, 0, 0)) (e_L 41 (1, e_nof, 0, 0)))))))
set_option maxRecDepth 20000 in
set_option maxHeartbeats 4000000 in
theorem te_152_0_ok : ∀ pc, e_EOq eft cls elay eI n_152 pc (te_152_0 pc) :=
  (e_Tok2
  (e_Tok2
  (e_Tok2
  (e_Tok2
  (e_Lok (ld_aload_n_0 (x_dk dn_152_0_0_ok 0 rfl)))
  (e_Lok (lk_8_54 ho_152 (x_dk dn_152_0_0_ok 1 rfl))))
  (e_Tok2
  (e_Lok (ld_aload_n_0 (x_dk dn_152_0_0_ok 2 rfl)))
  (e_Tok2
  (e_Lok (lk_8_245 ho_152 (x_dk dn_152_0_0_ok 3 rfl)))
  (e_Lok (ld_aload_n_0 (x_dk dn_152_0_0_ok 4 rfl))))))
  (e_Tok2
  (e_Tok2
  (e_Lok (ps_bipush_18 (x_dk dn_152_0_0_ok 5 rfl)))
  (e_Tok2
  (e_Lok (lk_8_180 ho_152 (x_dk dn_152_0_0_ok 6 rfl)))
  (e_Lok (ld_aload_n_0 (x_dk dn_152_0_0_ok 7 rfl)))))
  (e_Tok2
  (e_Lok (lk_8_78g ho_152 (x_dk dn_152_0_0_ok 8 rfl)))
  (e_Tok2
  (e_Lok (e_st (I := eI) (er_istore_n (i := 1) (x_dk dn_152_0_0_ok 9 rfl) (by decide +kernel)) nx_stor))
  (e_Lok (ld_aload_n_0 (x_dk dn_152_0_0_ok 10 rfl)))))))
  (e_Tok2
  (e_Tok2
  (e_Tok2
  (e_Lok (ps_iconst_1 (x_dk dn_152_0_0_ok 11 rfl)))
  (e_Tok2
  (e_Lok (lk_8_180 ho_152 (x_dk dn_152_0_0_ok 12 rfl)))
  (e_Lok (ld_aload_n_0 (x_dk dn_152_0_0_ok 13 rfl)))))
  (e_Tok2
  (e_Lok (ps_bipush_19 (x_dk dn_152_0_0_ok 14 rfl)))
  (e_Tok2
  (e_Lok (lk_8_180 ho_152 (x_dk dn_152_0_0_ok 15 rfl)))
  (e_Lok (ld_aload_n_0 (x_dk dn_152_0_0_ok 16 rfl))))))
  (e_Tok2
  (e_Tok2
  (e_Lok (lk_8_21g ho_152 (x_dk dn_152_0_0_ok 17 rfl)))
  (e_Tok2
  (e_Lok (ps_bipush_39 (x_dk dn_152_0_0_ok 18 rfl)))
  (e_Lok (ld_iload_n_1 (x_dk dn_152_0_0_ok 19 rfl)))))
  (e_Tok2
  (e_Lok (lk_8_198 ho_152 (x_dk dn_152_0_0_ok 20 rfl)))
  (e_Tok2
  (e_Lok (e_st (I := eI) (er_pop (x_dk dn_152_0_0_ok 21 rfl)) (nx_stk bf_pop)))
  (e_Lok (e_rt (I := eI) (k := 0) ⟨(x_dk dn_152_0_0_ok 22 rfl), rfl⟩)))))))
def te_152 : Nat → eE := te_152_0
theorem te_152_ok : ∀ pc, e_EOq eft cls elay eI n_152 pc (te_152 pc) := te_152_0_ok
theorem ho_153 : (xm_y n_153).cls = "RobotCellHouse$Reader" := rfl
def dn_153_0_0 : List (Nat × Instr × Nat) := [(0, .aload_n 0, 1), (1, .getfield 192, 3), (4, .ifCond .ge 13, 3), (7, .aload_n 0, 1), (8, .bipush 6, 2), (10, .aload_n 0, 1), (11, .getfield 78, 3), (14, .invokevirtual 153, 3), (17, .aload_n 0, 1), (18, .invokevirtual 54, 3), (21, .aload_n 0, 1), (22, .bipush 19, 2), (24, .invokevirtual 180, 3), (27, .aload_n 0, 1), (28, .getfield 21, 3), (31, .bipush 44, 2), (33, .aload_n 0, 1), (34, .getfield 192, 3), (37, .iconst 0, 1), (38, .invokestatic 157, 3), (41, .invokevirtual 198, 3), (44, .pop, 1), (45, .return_, 1)]
set_option maxRecDepth 20000 in
theorem dn_153_0_0_ok : dn_153_0_0.all (fun q => decide (decode (xm_b n_153) q.1 = .ok (q.2.1, q.2.2))) = true := xa_g_ok (by decide +kernel)
def te_153_0 : Nat → eE := (e_T 21 (e_T 8 (e_T 1 (e_T 0 (e_L 0 (0, ei_load 0 2 1, 0, 0)) (e_L 1 (0, ei_getf eft elay 8 13 4, 0, 0))) (e_T 4 (e_L 4 (0, ei_if1 3 17 7, 0, 0)) (e_T 7 (e_L 7 (0, ei_load 0 2 8, 0, 0)) (e_L 8 (0, ei_push (0, 6) 10, 0, 0))))) (e_T 14 (e_T 10 (e_L 10 (0, ei_load 0 2 11, 0, 0)) (e_T 11 (e_L 11 (0, ei_getf eft elay 8 6 14, 0, 0)) (e_L 14 (2, e_nof, 133, 3)))) (e_T 17 (e_L 17 (0, ei_load 0 2 18, 0, 0)) (e_T 18 (e_L 18 (2, e_nof, 123, 1)) (e_L 21 (0, ei_load 0 2 22, 0, 0)))))) (e_T 33 (e_T 27 (e_T 22 (e_L 22 (0, ei_push (0, 19) 24, 0, 0)) (e_T 24 (e_L 24 (2, e_nof, 129, 2)) (e_L 27 (0, ei_load 0 2 28, 0, 0)))) (e_T 28 (e_L 28 (0, ei_getf eft elay 8 3 31, 0, 0)) (e_T 31 (e_L 31 (0, ei_push (0, 44) 33, 0, 0)) (e_L 33 (0, ei_load 0 2 34, 0, 0))))) (e_T 38 (e_T 34 (e_L 34 (0, ei_getf eft elay 8 13 37, 0, 0)) (e_T 37 (e_L 37 (0, ei_push (0, 0) 38, 0, 0)) (e_L 38 (0, ei_m2 eM_max 41, 0, 0)))) (e_T 41 (e_L 41 (2, e_nof, 21, 3)) (e_T 44 (e_L 44 (0, ei_stk ef_pop 45, 0, 0)) (e_L 45 (1, e_nof, 0, 0)))))))
set_option maxRecDepth 20000 in
set_option maxHeartbeats 4000000 in
theorem te_153_0_ok : ∀ pc, e_EOq eft cls elay eI n_153 pc (te_153_0 pc) :=
  (e_Tok2
  (e_Tok2
  (e_Tok2
  (e_Tok2
  (e_Lok (ld_aload_n_0 (x_dk dn_153_0_0_ok 0 rfl)))
  (e_Lok (lk_8_192g ho_153 (x_dk dn_153_0_0_ok 1 rfl))))
  (e_Tok2
  (e_Lok (e_st (I := eI) (er_ifge (off := 13) (tg := 17) (x_dk dn_153_0_0_ok 2 rfl) (by decide)) nx_if1))
  (e_Tok2
  (e_Lok (ld_aload_n_0 (x_dk dn_153_0_0_ok 3 rfl)))
  (e_Lok (ps_bipush_6 (x_dk dn_153_0_0_ok 4 rfl))))))
  (e_Tok2
  (e_Tok2
  (e_Lok (ld_aload_n_0 (x_dk dn_153_0_0_ok 5 rfl)))
  (e_Tok2
  (e_Lok (lk_8_78g ho_153 (x_dk dn_153_0_0_ok 6 rfl)))
  (e_Lok (lk_8_153 ho_153 (x_dk dn_153_0_0_ok 7 rfl)))))
  (e_Tok2
  (e_Lok (ld_aload_n_0 (x_dk dn_153_0_0_ok 8 rfl)))
  (e_Tok2
  (e_Lok (lk_8_54 ho_153 (x_dk dn_153_0_0_ok 9 rfl)))
  (e_Lok (ld_aload_n_0 (x_dk dn_153_0_0_ok 10 rfl)))))))
  (e_Tok2
  (e_Tok2
  (e_Tok2
  (e_Lok (ps_bipush_19 (x_dk dn_153_0_0_ok 11 rfl)))
  (e_Tok2
  (e_Lok (lk_8_180 ho_153 (x_dk dn_153_0_0_ok 12 rfl)))
  (e_Lok (ld_aload_n_0 (x_dk dn_153_0_0_ok 13 rfl)))))
  (e_Tok2
  (e_Lok (lk_8_21g ho_153 (x_dk dn_153_0_0_ok 14 rfl)))
  (e_Tok2
  (e_Lok (ps_bipush_44 (x_dk dn_153_0_0_ok 15 rfl)))
  (e_Lok (ld_aload_n_0 (x_dk dn_153_0_0_ok 16 rfl))))))
  (e_Tok2
  (e_Tok2
  (e_Lok (lk_8_192g ho_153 (x_dk dn_153_0_0_ok 17 rfl)))
  (e_Tok2
  (e_Lok (ps_iconst_0 (x_dk dn_153_0_0_ok 18 rfl)))
  (e_Lok (e_st (I := eI) (er_max (ix := 157) (in_t6 (List.mem_of_getElem? (i := 56) rfl) rfl) (in_t5 (List.mem_of_getElem? (i := 184) rfl) rfl) (in_t1 (List.mem_of_getElem? (i := 15) rfl) rfl) (in_t5 (List.mem_of_getElem? (i := 185) rfl) rfl) (x_dk dn_153_0_0_ok 19 rfl)) nx_m2))))
  (e_Tok2
  (e_Lok (lk_8_198 ho_153 (x_dk dn_153_0_0_ok 20 rfl)))
  (e_Tok2
  (e_Lok (e_st (I := eI) (er_pop (x_dk dn_153_0_0_ok 21 rfl)) (nx_stk bf_pop)))
  (e_Lok (e_rt (I := eI) (k := 0) ⟨(x_dk dn_153_0_0_ok 22 rfl), rfl⟩)))))))
def te_153 : Nat → eE := te_153_0
theorem te_153_ok : ∀ pc, e_EOq eft cls elay eI n_153 pc (te_153 pc) := te_153_0_ok
theorem ho_154 : (xm_y n_154).cls = "RobotCellHouse$Reader" := rfl
def dn_154_0_0 : List (Nat × Instr × Nat) := [(0, .aload_n 0, 1), (1, .invokevirtual 251, 3), (4, .ifCond .ne 4, 3), (7, .return_, 1), (8, .aload_n 0, 1), (9, .invokevirtual 54, 3), (12, .aload_n 0, 1), (13, .invokevirtual 245, 3), (16, .aload_n 0, 1), (17, .bipush 20, 2), (19, .invokevirtual 180, 3), (22, .aload_n 0, 1), (23, .getfield 21, 3), (26, .bipush 41, 2), (28, .iconst 0, 1), (29, .invokevirtual 198, 3), (32, .istore_n 1, 1), (33, .aload_n 0, 1), (34, .invokevirtual 195, 3), (37, .aload_n 0, 1), (38, .getfield 57, 3), (41, .bipush 40, 2), (43, .if_icmp .ne 45, 3), (46, .aload_n 0, 1), (47, .invokevirtual 54, 3)]
set_option maxRecDepth 20000 in
theorem dn_154_0_0_ok : dn_154_0_0.all (fun q => decide (decode (xm_b n_154) q.1 = .ok (q.2.1, q.2.2))) = true := xa_g_ok (by decide +kernel)
def dn_154_0_1 : List (Nat × Instr × Nat) := [(50, .aload_n 0, 1), (51, .bipush 20, 2), (53, .invokevirtual 180, 3), (56, .aload_n 0, 1), (57, .getfield 21, 3), (60, .bipush 40, 2), (62, .iconst 0, 1), (63, .invokevirtual 198, 3), (66, .istore_n 2, 1), (67, .aload_n 0, 1), (68, .getfield 21, 3), (71, .iload_n 1, 1), (72, .aload_n 0, 1), (73, .getfield 21, 3), (76, .getfield 164, 3), (79, .invokevirtual 174, 3), (82, .iload_n 2, 1), (83, .istore_n 1, 1), (84, .aload_n 0, 1), (85, .invokevirtual 195, 3), (88, .aload_n 0, 1), (89, .getfield 21, 3), (92, .iload_n 1, 1), (93, .aload_n 0, 1), (94, .getfield 21, 3)]
set_option maxRecDepth 20000 in
theorem dn_154_0_1_ok : dn_154_0_1.all (fun q => decide (decode (xm_b n_154) q.1 = .ok (q.2.1, q.2.2))) = true := xa_g_ok (by decide +kernel)
def dn_154_0_2 : List (Nat × Instr × Nat) := [(97, .getfield 164, 3), (100, .invokevirtual 174, 3), (103, .aload_n 0, 1), (104, .bipush 23, 2), (106, .invokevirtual 180, 3), (109, .aload_n 0, 1), (110, .dup, 1), (111, .getfield 42, 3), (114, .iconst 1, 1), (115, .isub, 1), (116, .putfield 42, 3), (119, .return_, 1)]
set_option maxRecDepth 20000 in
theorem dn_154_0_2_ok : dn_154_0_2.all (fun q => decide (decode (xm_b n_154) q.1 = .ok (q.2.1, q.2.2))) = true := xa_g_ok (by decide +kernel)
def te_154_0 : Nat → eE := (e_T 28 (e_T 12 (e_T 4 (e_T 0 (e_L 0 (0, ei_load 0 2 1, 0, 0)) (e_T 1 (e_L 1 (2, e_nof, 132, 1)) (e_L 4 (0, ei_if1 1 8 7, 0, 0)))) (e_T 8 (e_T 7 (e_L 7 (1, e_nof, 0, 0)) (e_L 8 (0, ei_load 0 2 9, 0, 0))) (e_T 9 (e_L 9 (2, e_nof, 123, 1)) (e_L 12 (0, ei_load 0 2 13, 0, 0))))) (e_T 19 (e_T 16 (e_T 13 (e_L 13 (2, e_nof, 158, 1)) (e_L 16 (0, ei_load 0 2 17, 0, 0))) (e_T 17 (e_L 17 (0, ei_push (0, 20) 19, 0, 0)) (e_L 19 (2, e_nof, 129, 2)))) (e_T 23 (e_T 22 (e_L 22 (0, ei_load 0 2 23, 0, 0)) (e_L 23 (0, ei_getf eft elay 8 3 26, 0, 0))) (e_T 26 (e_L 26 (0, ei_push (0, 41) 28, 0, 0)) (e_L 28 (0, ei_push (0, 0) 29, 0, 0)))))) (e_T 43 (e_T 34 (e_T 32 (e_T 29 (e_L 29 (2, e_nof, 21, 3)) (e_L 32 (0, ei_stor 1 0 33, 0, 0))) (e_T 33 (e_L 33 (0, ei_load 0 2 34, 0, 0)) (e_L 34 (2, e_nof, 144, 1)))) (e_T 38 (e_T 37 (e_L 37 (0, ei_load 0 2 38, 0, 0)) (e_L 38 (0, ei_getf eft elay 8 5 41, 0, 0))) (e_T 41 (e_L 41 (0, ei_push (0, 40) 43, 0, 0)) (e_L 43 (0, ei_if2 1 88 46, 0, 0))))) (e_T 51 (e_T 47 (e_T 46 (e_L 46 (0, ei_load 0 2 47, 0, 0)) (e_L 47 (2, e_nof, 123, 1))) (e_T 50 (e_L 50 (0, ei_load 0 2 51, 0, 0)) (e_L 51 (0, ei_push (0, 20) 53, 0, 0)))) (e_T 56 (e_T 53 (e_L 53 (2, e_nof, 129, 2)) (e_L 56 (0, ei_load 0 2 57, 0, 0))) (e_T 57 (e_L 57 (0, ei_getf eft elay 8 3 60, 0, 0)) (e_L 60 (0, ei_push (0, 40) 62, 0, 0)))))))
set_option maxRecDepth 20000 in
set_option maxHeartbeats 4000000 in
theorem te_154_0_ok : ∀ pc, e_EOq eft cls elay eI n_154 pc (te_154_0 pc) :=
  (e_Tok2
  (e_Tok2
  (e_Tok2
  (e_Tok2
  (e_Lok (ld_aload_n_0 (x_dk dn_154_0_0_ok 0 rfl)))
  (e_Tok2
  (e_Lok (lk_8_251 ho_154 (x_dk dn_154_0_0_ok 1 rfl)))
  (e_Lok (e_st (I := eI) (er_ifne (off := 4) (tg := 8) (x_dk dn_154_0_0_ok 2 rfl) (by decide)) nx_if1))))
  (e_Tok2
  (e_Tok2
  (e_Lok (e_rt (I := eI) (k := 0) ⟨(x_dk dn_154_0_0_ok 3 rfl), rfl⟩))
  (e_Lok (ld_aload_n_0 (x_dk dn_154_0_0_ok 4 rfl))))
  (e_Tok2
  (e_Lok (lk_8_54 ho_154 (x_dk dn_154_0_0_ok 5 rfl)))
  (e_Lok (ld_aload_n_0 (x_dk dn_154_0_0_ok 6 rfl))))))
  (e_Tok2
  (e_Tok2
  (e_Tok2
  (e_Lok (lk_8_245 ho_154 (x_dk dn_154_0_0_ok 7 rfl)))
  (e_Lok (ld_aload_n_0 (x_dk dn_154_0_0_ok 8 rfl))))
  (e_Tok2
  (e_Lok (ps_bipush_20 (x_dk dn_154_0_0_ok 9 rfl)))
  (e_Lok (lk_8_180 ho_154 (x_dk dn_154_0_0_ok 10 rfl)))))
  (e_Tok2
  (e_Tok2
  (e_Lok (ld_aload_n_0 (x_dk dn_154_0_0_ok 11 rfl)))
  (e_Lok (lk_8_21g ho_154 (x_dk dn_154_0_0_ok 12 rfl))))
  (e_Tok2
  (e_Lok (ps_bipush_41 (x_dk dn_154_0_0_ok 13 rfl)))
  (e_Lok (ps_iconst_0 (x_dk dn_154_0_0_ok 14 rfl)))))))
  (e_Tok2
  (e_Tok2
  (e_Tok2
  (e_Tok2
  (e_Lok (lk_8_198 ho_154 (x_dk dn_154_0_0_ok 15 rfl)))
  (e_Lok (e_st (I := eI) (er_istore_n (i := 1) (x_dk dn_154_0_0_ok 16 rfl) (by decide +kernel)) nx_stor)))
  (e_Tok2
  (e_Lok (ld_aload_n_0 (x_dk dn_154_0_0_ok 17 rfl)))
  (e_Lok (lk_8_195 ho_154 (x_dk dn_154_0_0_ok 18 rfl)))))
  (e_Tok2
  (e_Tok2
  (e_Lok (ld_aload_n_0 (x_dk dn_154_0_0_ok 19 rfl)))
  (e_Lok (lk_8_57g ho_154 (x_dk dn_154_0_0_ok 20 rfl))))
  (e_Tok2
  (e_Lok (ps_bipush_40 (x_dk dn_154_0_0_ok 21 rfl)))
  (e_Lok (e_st (I := eI) (er_icmpne (off := 45) (tg := 88) (x_dk dn_154_0_0_ok 22 rfl) (by decide)) nx_if2)))))
  (e_Tok2
  (e_Tok2
  (e_Tok2
  (e_Lok (ld_aload_n_0 (x_dk dn_154_0_0_ok 23 rfl)))
  (e_Lok (lk_8_54 ho_154 (x_dk dn_154_0_0_ok 24 rfl))))
  (e_Tok2
  (e_Lok (ld_aload_n_0 (x_dk dn_154_0_1_ok 0 rfl)))
  (e_Lok (ps_bipush_20 (x_dk dn_154_0_1_ok 1 rfl)))))
  (e_Tok2
  (e_Tok2
  (e_Lok (lk_8_180 ho_154 (x_dk dn_154_0_1_ok 2 rfl)))
  (e_Lok (ld_aload_n_0 (x_dk dn_154_0_1_ok 3 rfl))))
  (e_Tok2
  (e_Lok (lk_8_21g ho_154 (x_dk dn_154_0_1_ok 4 rfl)))
  (e_Lok (ps_bipush_40 (x_dk dn_154_0_1_ok 5 rfl))))))))
def te_154_31 : Nat → eE := (e_T 88 (e_T 72 (e_T 66 (e_T 62 (e_L 62 (0, ei_push (0, 0) 63, 0, 0)) (e_T 63 (e_L 63 (2, e_nof, 21, 3)) (e_L 66 (0, ei_stor 2 0 67, 0, 0)))) (e_T 68 (e_T 67 (e_L 67 (0, ei_load 0 2 68, 0, 0)) (e_L 68 (0, ei_getf eft elay 8 3 71, 0, 0))) (e_T 71 (e_L 71 (0, ei_load 1 0 72, 0, 0)) (e_L 72 (0, ei_load 0 2 73, 0, 0))))) (e_T 82 (e_T 76 (e_T 73 (e_L 73 (0, ei_getf eft elay 8 3 76, 0, 0)) (e_L 76 (0, ei_getf eft elay 1 0 79, 0, 0))) (e_T 79 (e_L 79 (2, e_nof, 22, 3)) (e_L 82 (0, ei_load 2 0 83, 0, 0)))) (e_T 84 (e_T 83 (e_L 83 (0, ei_stor 1 0 84, 0, 0)) (e_L 84 (0, ei_load 0 2 85, 0, 0))) (e_T 85 (e_L 85 (2, e_nof, 144, 1)) (e_L 88 (0, ei_load 0 2 89, 0, 0)))))) (e_T 104 (e_T 94 (e_T 92 (e_T 89 (e_L 89 (0, ei_getf eft elay 8 3 92, 0, 0)) (e_L 92 (0, ei_load 1 0 93, 0, 0))) (e_T 93 (e_L 93 (0, ei_load 0 2 94, 0, 0)) (e_L 94 (0, ei_getf eft elay 8 3 97, 0, 0)))) (e_T 100 (e_T 97 (e_L 97 (0, ei_getf eft elay 1 0 100, 0, 0)) (e_L 100 (2, e_nof, 22, 3))) (e_T 103 (e_L 103 (0, ei_load 0 2 104, 0, 0)) (e_L 104 (0, ei_push (0, 23) 106, 0, 0))))) (e_T 111 (e_T 109 (e_T 106 (e_L 106 (2, e_nof, 129, 2)) (e_L 109 (0, ei_load 0 2 110, 0, 0))) (e_T 110 (e_L 110 (0, ei_stk ef_dup 111, 0, 0)) (e_L 111 (0, ei_getf eft elay 8 11 114, 0, 0)))) (e_T 115 (e_T 114 (e_L 114 (0, ei_push (0, 1) 115, 0, 0)) (e_L 115 (0, ei_bin eF_sub 116, 0, 0))) (e_T 116 (e_L 116 (0, ei_putf eft elay 8 11 0 119, 0, 0)) (e_L 119 (1, e_nof, 0, 0)))))))
set_option maxRecDepth 20000 in
set_option maxHeartbeats 4000000 in
theorem te_154_31_ok : ∀ pc, e_EOq eft cls elay eI n_154 pc (te_154_31 pc) :=
  (e_Tok2
  (e_Tok2
  (e_Tok2
  (e_Tok2
  (e_Lok (ps_iconst_0 (x_dk dn_154_0_1_ok 6 rfl)))
  (e_Tok2
  (e_Lok (lk_8_198 ho_154 (x_dk dn_154_0_1_ok 7 rfl)))
  (e_Lok (e_st (I := eI) (er_istore_n (i := 2) (x_dk dn_154_0_1_ok 8 rfl) (by decide +kernel)) nx_stor))))
  (e_Tok2
  (e_Tok2
  (e_Lok (ld_aload_n_0 (x_dk dn_154_0_1_ok 9 rfl)))
  (e_Lok (lk_8_21g ho_154 (x_dk dn_154_0_1_ok 10 rfl))))
  (e_Tok2
  (e_Lok (ld_iload_n_1 (x_dk dn_154_0_1_ok 11 rfl)))
  (e_Lok (ld_aload_n_0 (x_dk dn_154_0_1_ok 12 rfl))))))
  (e_Tok2
  (e_Tok2
  (e_Tok2
  (e_Lok (lk_8_21g ho_154 (x_dk dn_154_0_1_ok 13 rfl)))
  (e_Lok (lk_8_164g ho_154 (x_dk dn_154_0_1_ok 14 rfl))))
  (e_Tok2
  (e_Lok (lk_8_174 ho_154 (x_dk dn_154_0_1_ok 15 rfl)))
  (e_Lok (ld_iload_n_2 (x_dk dn_154_0_1_ok 16 rfl)))))
  (e_Tok2
  (e_Tok2
  (e_Lok (e_st (I := eI) (er_istore_n (i := 1) (x_dk dn_154_0_1_ok 17 rfl) (by decide +kernel)) nx_stor))
  (e_Lok (ld_aload_n_0 (x_dk dn_154_0_1_ok 18 rfl))))
  (e_Tok2
  (e_Lok (lk_8_195 ho_154 (x_dk dn_154_0_1_ok 19 rfl)))
  (e_Lok (ld_aload_n_0 (x_dk dn_154_0_1_ok 20 rfl)))))))
  (e_Tok2
  (e_Tok2
  (e_Tok2
  (e_Tok2
  (e_Lok (lk_8_21g ho_154 (x_dk dn_154_0_1_ok 21 rfl)))
  (e_Lok (ld_iload_n_1 (x_dk dn_154_0_1_ok 22 rfl))))
  (e_Tok2
  (e_Lok (ld_aload_n_0 (x_dk dn_154_0_1_ok 23 rfl)))
  (e_Lok (lk_8_21g ho_154 (x_dk dn_154_0_1_ok 24 rfl)))))
  (e_Tok2
  (e_Tok2
  (e_Lok (lk_8_164g ho_154 (x_dk dn_154_0_2_ok 0 rfl)))
  (e_Lok (lk_8_174 ho_154 (x_dk dn_154_0_2_ok 1 rfl))))
  (e_Tok2
  (e_Lok (ld_aload_n_0 (x_dk dn_154_0_2_ok 2 rfl)))
  (e_Lok (ps_bipush_23 (x_dk dn_154_0_2_ok 3 rfl))))))
  (e_Tok2
  (e_Tok2
  (e_Tok2
  (e_Lok (lk_8_180 ho_154 (x_dk dn_154_0_2_ok 4 rfl)))
  (e_Lok (ld_aload_n_0 (x_dk dn_154_0_2_ok 5 rfl))))
  (e_Tok2
  (e_Lok (e_st (I := eI) (er_dup (x_dk dn_154_0_2_ok 6 rfl)) (nx_stk bf_dup)))
  (e_Lok (lk_8_42g ho_154 (x_dk dn_154_0_2_ok 7 rfl)))))
  (e_Tok2
  (e_Tok2
  (e_Lok (ps_iconst_1 (x_dk dn_154_0_2_ok 8 rfl)))
  (e_Lok (sm_isub (x_dk dn_154_0_2_ok 9 rfl))))
  (e_Tok2
  (e_Lok (lk_8_42p ho_154 (x_dk dn_154_0_2_ok 10 rfl)))
  (e_Lok (e_rt (I := eI) (k := 0) ⟨(x_dk dn_154_0_2_ok 11 rfl), rfl⟩)))))))
def te_154 : Nat → eE := (e_T 60 te_154_0 te_154_31)
theorem te_154_ok : ∀ pc, e_EOq eft cls elay eI n_154 pc (te_154 pc) := (e_Tok2 (te_154_0_ok) (te_154_31_ok))
theorem ho_155 : (xm_y n_155).cls = "RobotCellHouse$Reader" := rfl
def dn_155_0_0 : List (Nat × Instr × Nat) := [(0, .aload_n 0, 1), (1, .invokevirtual 251, 3), (4, .ifCond .ne 4, 3), (7, .return_, 1), (8, .aload_n 0, 1), (9, .getfield 192, 3), (12, .istore_n 1, 1), (13, .aload_n 0, 1), (14, .aload_n 0, 1), (15, .getfield 21, 3), (18, .bipush 45, 2), (20, .aload_n 0, 1), (21, .getfield 189, 3), (24, .invokevirtual 198, 3), (27, .putfield 192, 3), (30, .aload_n 0, 1), (31, .getfield 192, 3), (34, .istore_n 2, 1), (35, .aload_n 0, 1), (36, .getfield 21, 3), (39, .bipush 49, 2), (41, .iconst 0, 1), (42, .invokevirtual 198, 3), (45, .pop, 1), (46, .aload_n 0, 1)]
set_option maxRecDepth 20000 in
theorem dn_155_0_0_ok : dn_155_0_0.all (fun q => decide (decode (xm_b n_155) q.1 = .ok (q.2.1, q.2.2))) = true := xa_g_ok (by decide +kernel)
def dn_155_0_1 : List (Nat × Instr × Nat) := [(47, .getfield 21, 3), (50, .bipush 50, 2), (52, .iconst 0, 1), (53, .invokevirtual 198, 3), (56, .istore_n 3, 1), (57, .aload_n 0, 1), (58, .invokevirtual 54, 3), (61, .aload_n 0, 1), (62, .invokevirtual 245, 3), (65, .aload_n 0, 1), (66, .bipush 20, 2), (68, .invokevirtual 180, 3), (71, .aload_n 0, 1), (72, .getfield 21, 3), (75, .bipush 41, 2), (77, .iconst 0, 1), (78, .invokevirtual 198, 3), (81, .istore 4, 2), (83, .aload_n 0, 1), (84, .invokevirtual 195, 3), (87, .aload_n 0, 1), (88, .bipush 23, 2), (90, .invokevirtual 180, 3), (93, .aload_n 0, 1), (94, .getfield 21, 3)]
set_option maxRecDepth 20000 in
theorem dn_155_0_1_ok : dn_155_0_1.all (fun q => decide (decode (xm_b n_155) q.1 = .ok (q.2.1, q.2.2))) = true := xa_g_ok (by decide +kernel)
def dn_155_0_2 : List (Nat × Instr × Nat) := [(97, .bipush 40, 2), (99, .iload_n 3, 1), (100, .invokevirtual 198, 3), (103, .pop, 1), (104, .aload_n 0, 1), (105, .getfield 21, 3), (108, .iload 4, 2), (110, .aload_n 0, 1), (111, .getfield 21, 3), (114, .getfield 164, 3), (117, .invokevirtual 174, 3), (120, .aload_n 0, 1), (121, .getfield 21, 3), (124, .iload_n 2, 1), (125, .iconst 1, 1), (126, .iadd, 1), (127, .aload_n 0, 1), (128, .getfield 21, 3), (131, .getfield 164, 3), (134, .invokevirtual 174, 3), (137, .aload_n 0, 1), (138, .iload_n 1, 1), (139, .putfield 192, 3), (142, .aload_n 0, 1), (143, .dup, 1)]
set_option maxRecDepth 20000 in
theorem dn_155_0_2_ok : dn_155_0_2.all (fun q => decide (decode (xm_b n_155) q.1 = .ok (q.2.1, q.2.2))) = true := xa_g_ok (by decide +kernel)
def dn_155_0_3 : List (Nat × Instr × Nat) := [(144, .getfield 42, 3), (147, .iconst 1, 1), (148, .isub, 1), (149, .putfield 42, 3), (152, .return_, 1)]
set_option maxRecDepth 20000 in
theorem dn_155_0_3_ok : dn_155_0_3.all (fun q => decide (decode (xm_b n_155) q.1 = .ok (q.2.1, q.2.2))) = true := xa_g_ok (by decide +kernel)
def te_155_0 : Nat → eE := (e_T 36 (e_T 15 (e_T 8 (e_T 1 (e_T 0 (e_L 0 (0, ei_load 0 2 1, 0, 0)) (e_L 1 (2, e_nof, 132, 1))) (e_T 4 (e_L 4 (0, ei_if1 1 8 7, 0, 0)) (e_T 7 (e_L 7 (1, e_nof, 0, 0)) (e_L 8 (0, ei_load 0 2 9, 0, 0))))) (e_T 12 (e_T 9 (e_L 9 (0, ei_getf eft elay 8 13 12, 0, 0)) (e_L 12 (0, ei_stor 1 0 13, 0, 0))) (e_T 13 (e_L 13 (0, ei_load 0 2 14, 0, 0)) (e_T 14 (e_L 14 (0, ei_load 0 2 15, 0, 0)) (e_L 15 (0, ei_getf eft elay 8 3 18, 0, 0)))))) (e_T 27 (e_T 20 (e_T 18 (e_L 18 (0, ei_push (0, 45) 20, 0, 0)) (e_L 20 (0, ei_load 0 2 21, 0, 0))) (e_T 21 (e_L 21 (0, ei_getf eft elay 8 12 24, 0, 0)) (e_T 24 (e_L 24 (2, e_nof, 21, 3)) (e_L 27 (0, ei_putf eft elay 8 13 0 30, 0, 0))))) (e_T 31 (e_T 30 (e_L 30 (0, ei_load 0 2 31, 0, 0)) (e_L 31 (0, ei_getf eft elay 8 13 34, 0, 0))) (e_T 34 (e_L 34 (0, ei_stor 2 0 35, 0, 0)) (e_T 35 (e_L 35 (0, ei_load 0 2 36, 0, 0)) (e_L 36 (0, ei_getf eft elay 8 3 39, 0, 0))))))) (e_T 56 (e_T 46 (e_T 41 (e_T 39 (e_L 39 (0, ei_push (0, 49) 41, 0, 0)) (e_L 41 (0, ei_push (0, 0) 42, 0, 0))) (e_T 42 (e_L 42 (2, e_nof, 21, 3)) (e_T 45 (e_L 45 (0, ei_stk ef_pop 46, 0, 0)) (e_L 46 (0, ei_load 0 2 47, 0, 0))))) (e_T 50 (e_T 47 (e_L 47 (0, ei_getf eft elay 8 3 50, 0, 0)) (e_L 50 (0, ei_push (0, 50) 52, 0, 0))) (e_T 52 (e_L 52 (0, ei_push (0, 0) 53, 0, 0)) (e_T 53 (e_L 53 (2, e_nof, 21, 3)) (e_L 56 (0, ei_stor 3 0 57, 0, 0)))))) (e_T 65 (e_T 58 (e_T 57 (e_L 57 (0, ei_load 0 2 58, 0, 0)) (e_L 58 (2, e_nof, 123, 1))) (e_T 61 (e_L 61 (0, ei_load 0 2 62, 0, 0)) (e_T 62 (e_L 62 (2, e_nof, 158, 1)) (e_L 65 (0, ei_load 0 2 66, 0, 0))))) (e_T 68 (e_T 66 (e_L 66 (0, ei_push (0, 20) 68, 0, 0)) (e_L 68 (2, e_nof, 129, 2))) (e_T 71 (e_L 71 (0, ei_load 0 2 72, 0, 0)) (e_T 72 (e_L 72 (0, ei_getf eft elay 8 3 75, 0, 0)) (e_L 75 (0, ei_push (0, 41) 77, 0, 0))))))))
set_option maxRecDepth 20000 in
set_option maxHeartbeats 4000000 in
theorem te_155_0_ok : ∀ pc, e_EOq eft cls elay eI n_155 pc (te_155_0 pc) :=
  (e_Tok2
  (e_Tok2
  (e_Tok2
  (e_Tok2
  (e_Tok2
  (e_Lok (ld_aload_n_0 (x_dk dn_155_0_0_ok 0 rfl)))
  (e_Lok (lk_8_251 ho_155 (x_dk dn_155_0_0_ok 1 rfl))))
  (e_Tok2
  (e_Lok (e_st (I := eI) (er_ifne (off := 4) (tg := 8) (x_dk dn_155_0_0_ok 2 rfl) (by decide)) nx_if1))
  (e_Tok2
  (e_Lok (e_rt (I := eI) (k := 0) ⟨(x_dk dn_155_0_0_ok 3 rfl), rfl⟩))
  (e_Lok (ld_aload_n_0 (x_dk dn_155_0_0_ok 4 rfl))))))
  (e_Tok2
  (e_Tok2
  (e_Lok (lk_8_192g ho_155 (x_dk dn_155_0_0_ok 5 rfl)))
  (e_Lok (e_st (I := eI) (er_istore_n (i := 1) (x_dk dn_155_0_0_ok 6 rfl) (by decide +kernel)) nx_stor)))
  (e_Tok2
  (e_Lok (ld_aload_n_0 (x_dk dn_155_0_0_ok 7 rfl)))
  (e_Tok2
  (e_Lok (ld_aload_n_0 (x_dk dn_155_0_0_ok 8 rfl)))
  (e_Lok (lk_8_21g ho_155 (x_dk dn_155_0_0_ok 9 rfl)))))))
  (e_Tok2
  (e_Tok2
  (e_Tok2
  (e_Lok (ps_bipush_45 (x_dk dn_155_0_0_ok 10 rfl)))
  (e_Lok (ld_aload_n_0 (x_dk dn_155_0_0_ok 11 rfl))))
  (e_Tok2
  (e_Lok (lk_8_189g ho_155 (x_dk dn_155_0_0_ok 12 rfl)))
  (e_Tok2
  (e_Lok (lk_8_198 ho_155 (x_dk dn_155_0_0_ok 13 rfl)))
  (e_Lok (lk_8_192p ho_155 (x_dk dn_155_0_0_ok 14 rfl))))))
  (e_Tok2
  (e_Tok2
  (e_Lok (ld_aload_n_0 (x_dk dn_155_0_0_ok 15 rfl)))
  (e_Lok (lk_8_192g ho_155 (x_dk dn_155_0_0_ok 16 rfl))))
  (e_Tok2
  (e_Lok (e_st (I := eI) (er_istore_n (i := 2) (x_dk dn_155_0_0_ok 17 rfl) (by decide +kernel)) nx_stor))
  (e_Tok2
  (e_Lok (ld_aload_n_0 (x_dk dn_155_0_0_ok 18 rfl)))
  (e_Lok (lk_8_21g ho_155 (x_dk dn_155_0_0_ok 19 rfl))))))))
  (e_Tok2
  (e_Tok2
  (e_Tok2
  (e_Tok2
  (e_Lok (ps_bipush_49 (x_dk dn_155_0_0_ok 20 rfl)))
  (e_Lok (ps_iconst_0 (x_dk dn_155_0_0_ok 21 rfl))))
  (e_Tok2
  (e_Lok (lk_8_198 ho_155 (x_dk dn_155_0_0_ok 22 rfl)))
  (e_Tok2
  (e_Lok (e_st (I := eI) (er_pop (x_dk dn_155_0_0_ok 23 rfl)) (nx_stk bf_pop)))
  (e_Lok (ld_aload_n_0 (x_dk dn_155_0_0_ok 24 rfl))))))
  (e_Tok2
  (e_Tok2
  (e_Lok (lk_8_21g ho_155 (x_dk dn_155_0_1_ok 0 rfl)))
  (e_Lok (ps_bipush_50 (x_dk dn_155_0_1_ok 1 rfl))))
  (e_Tok2
  (e_Lok (ps_iconst_0 (x_dk dn_155_0_1_ok 2 rfl)))
  (e_Tok2
  (e_Lok (lk_8_198 ho_155 (x_dk dn_155_0_1_ok 3 rfl)))
  (e_Lok (e_st (I := eI) (er_istore_n (i := 3) (x_dk dn_155_0_1_ok 4 rfl) (by decide +kernel)) nx_stor))))))
  (e_Tok2
  (e_Tok2
  (e_Tok2
  (e_Lok (ld_aload_n_0 (x_dk dn_155_0_1_ok 5 rfl)))
  (e_Lok (lk_8_54 ho_155 (x_dk dn_155_0_1_ok 6 rfl))))
  (e_Tok2
  (e_Lok (ld_aload_n_0 (x_dk dn_155_0_1_ok 7 rfl)))
  (e_Tok2
  (e_Lok (lk_8_245 ho_155 (x_dk dn_155_0_1_ok 8 rfl)))
  (e_Lok (ld_aload_n_0 (x_dk dn_155_0_1_ok 9 rfl))))))
  (e_Tok2
  (e_Tok2
  (e_Lok (ps_bipush_20 (x_dk dn_155_0_1_ok 10 rfl)))
  (e_Lok (lk_8_180 ho_155 (x_dk dn_155_0_1_ok 11 rfl))))
  (e_Tok2
  (e_Lok (ld_aload_n_0 (x_dk dn_155_0_1_ok 12 rfl)))
  (e_Tok2
  (e_Lok (lk_8_21g ho_155 (x_dk dn_155_0_1_ok 13 rfl)))
  (e_Lok (ps_bipush_41 (x_dk dn_155_0_1_ok 14 rfl)))))))))
def te_155_40 : Nat → eE := (e_T 114 (e_T 94 (e_T 84 (e_T 78 (e_T 77 (e_L 77 (0, ei_push (0, 0) 78, 0, 0)) (e_L 78 (2, e_nof, 21, 3))) (e_T 81 (e_L 81 (0, ei_stor 4 0 83, 0, 0)) (e_T 83 (e_L 83 (0, ei_load 0 2 84, 0, 0)) (e_L 84 (2, e_nof, 144, 1))))) (e_T 88 (e_T 87 (e_L 87 (0, ei_load 0 2 88, 0, 0)) (e_L 88 (0, ei_push (0, 23) 90, 0, 0))) (e_T 90 (e_L 90 (2, e_nof, 129, 2)) (e_T 93 (e_L 93 (0, ei_load 0 2 94, 0, 0)) (e_L 94 (0, ei_getf eft elay 8 3 97, 0, 0)))))) (e_T 104 (e_T 99 (e_T 97 (e_L 97 (0, ei_push (0, 40) 99, 0, 0)) (e_L 99 (0, ei_load 3 0 100, 0, 0))) (e_T 100 (e_L 100 (2, e_nof, 21, 3)) (e_T 103 (e_L 103 (0, ei_stk ef_pop 104, 0, 0)) (e_L 104 (0, ei_load 0 2 105, 0, 0))))) (e_T 108 (e_T 105 (e_L 105 (0, ei_getf eft elay 8 3 108, 0, 0)) (e_L 108 (0, ei_load 4 0 110, 0, 0))) (e_T 110 (e_L 110 (0, ei_load 0 2 111, 0, 0)) (e_T 111 (e_L 111 (0, ei_getf eft elay 8 3 114, 0, 0)) (e_L 114 (0, ei_getf eft elay 1 0 117, 0, 0))))))) (e_T 134 (e_T 125 (e_T 120 (e_T 117 (e_L 117 (2, e_nof, 22, 3)) (e_L 120 (0, ei_load 0 2 121, 0, 0))) (e_T 121 (e_L 121 (0, ei_getf eft elay 8 3 124, 0, 0)) (e_T 124 (e_L 124 (0, ei_load 2 0 125, 0, 0)) (e_L 125 (0, ei_push (0, 1) 126, 0, 0))))) (e_T 127 (e_T 126 (e_L 126 (0, ei_bin eF_add 127, 0, 0)) (e_L 127 (0, ei_load 0 2 128, 0, 0))) (e_T 128 (e_L 128 (0, ei_getf eft elay 8 3 131, 0, 0)) (e_T 131 (e_L 131 (0, ei_getf eft elay 1 0 134, 0, 0)) (e_L 134 (2, e_nof, 22, 3)))))) (e_T 143 (e_T 138 (e_T 137 (e_L 137 (0, ei_load 0 2 138, 0, 0)) (e_L 138 (0, ei_load 1 0 139, 0, 0))) (e_T 139 (e_L 139 (0, ei_putf eft elay 8 13 0 142, 0, 0)) (e_T 142 (e_L 142 (0, ei_load 0 2 143, 0, 0)) (e_L 143 (0, ei_stk ef_dup 144, 0, 0))))) (e_T 147 (e_T 144 (e_L 144 (0, ei_getf eft elay 8 11 147, 0, 0)) (e_L 147 (0, ei_push (0, 1) 148, 0, 0))) (e_T 148 (e_L 148 (0, ei_bin eF_sub 149, 0, 0)) (e_T 149 (e_L 149 (0, ei_putf eft elay 8 11 0 152, 0, 0)) (e_L 152 (1, e_nof, 0, 0))))))))
set_option maxRecDepth 20000 in
set_option maxHeartbeats 4000000 in
theorem te_155_40_ok : ∀ pc, e_EOq eft cls elay eI n_155 pc (te_155_40 pc) :=
  (e_Tok2
  (e_Tok2
  (e_Tok2
  (e_Tok2
  (e_Tok2
  (e_Lok (ps_iconst_0 (x_dk dn_155_0_1_ok 15 rfl)))
  (e_Lok (lk_8_198 ho_155 (x_dk dn_155_0_1_ok 16 rfl))))
  (e_Tok2
  (e_Lok (e_st (I := eI) (er_istore (i := 4) (x_dk dn_155_0_1_ok 17 rfl) (by decide +kernel)) nx_stor))
  (e_Tok2
  (e_Lok (ld_aload_n_0 (x_dk dn_155_0_1_ok 18 rfl)))
  (e_Lok (lk_8_195 ho_155 (x_dk dn_155_0_1_ok 19 rfl))))))
  (e_Tok2
  (e_Tok2
  (e_Lok (ld_aload_n_0 (x_dk dn_155_0_1_ok 20 rfl)))
  (e_Lok (ps_bipush_23 (x_dk dn_155_0_1_ok 21 rfl))))
  (e_Tok2
  (e_Lok (lk_8_180 ho_155 (x_dk dn_155_0_1_ok 22 rfl)))
  (e_Tok2
  (e_Lok (ld_aload_n_0 (x_dk dn_155_0_1_ok 23 rfl)))
  (e_Lok (lk_8_21g ho_155 (x_dk dn_155_0_1_ok 24 rfl)))))))
  (e_Tok2
  (e_Tok2
  (e_Tok2
  (e_Lok (ps_bipush_40 (x_dk dn_155_0_2_ok 0 rfl)))
  (e_Lok (ld_iload_n_3 (x_dk dn_155_0_2_ok 1 rfl))))
  (e_Tok2
  (e_Lok (lk_8_198 ho_155 (x_dk dn_155_0_2_ok 2 rfl)))
  (e_Tok2
  (e_Lok (e_st (I := eI) (er_pop (x_dk dn_155_0_2_ok 3 rfl)) (nx_stk bf_pop)))
  (e_Lok (ld_aload_n_0 (x_dk dn_155_0_2_ok 4 rfl))))))
  (e_Tok2
  (e_Tok2
  (e_Lok (lk_8_21g ho_155 (x_dk dn_155_0_2_ok 5 rfl)))
  (e_Lok (ld_iload_4 (x_dk dn_155_0_2_ok 6 rfl))))
  (e_Tok2
  (e_Lok (ld_aload_n_0 (x_dk dn_155_0_2_ok 7 rfl)))
  (e_Tok2
  (e_Lok (lk_8_21g ho_155 (x_dk dn_155_0_2_ok 8 rfl)))
  (e_Lok (lk_8_164g ho_155 (x_dk dn_155_0_2_ok 9 rfl))))))))
  (e_Tok2
  (e_Tok2
  (e_Tok2
  (e_Tok2
  (e_Lok (lk_8_174 ho_155 (x_dk dn_155_0_2_ok 10 rfl)))
  (e_Lok (ld_aload_n_0 (x_dk dn_155_0_2_ok 11 rfl))))
  (e_Tok2
  (e_Lok (lk_8_21g ho_155 (x_dk dn_155_0_2_ok 12 rfl)))
  (e_Tok2
  (e_Lok (ld_iload_n_2 (x_dk dn_155_0_2_ok 13 rfl)))
  (e_Lok (ps_iconst_1 (x_dk dn_155_0_2_ok 14 rfl))))))
  (e_Tok2
  (e_Tok2
  (e_Lok (sm_iadd (x_dk dn_155_0_2_ok 15 rfl)))
  (e_Lok (ld_aload_n_0 (x_dk dn_155_0_2_ok 16 rfl))))
  (e_Tok2
  (e_Lok (lk_8_21g ho_155 (x_dk dn_155_0_2_ok 17 rfl)))
  (e_Tok2
  (e_Lok (lk_8_164g ho_155 (x_dk dn_155_0_2_ok 18 rfl)))
  (e_Lok (lk_8_174 ho_155 (x_dk dn_155_0_2_ok 19 rfl)))))))
  (e_Tok2
  (e_Tok2
  (e_Tok2
  (e_Lok (ld_aload_n_0 (x_dk dn_155_0_2_ok 20 rfl)))
  (e_Lok (ld_iload_n_1 (x_dk dn_155_0_2_ok 21 rfl))))
  (e_Tok2
  (e_Lok (lk_8_192p ho_155 (x_dk dn_155_0_2_ok 22 rfl)))
  (e_Tok2
  (e_Lok (ld_aload_n_0 (x_dk dn_155_0_2_ok 23 rfl)))
  (e_Lok (e_st (I := eI) (er_dup (x_dk dn_155_0_2_ok 24 rfl)) (nx_stk bf_dup))))))
  (e_Tok2
  (e_Tok2
  (e_Lok (lk_8_42g ho_155 (x_dk dn_155_0_3_ok 0 rfl)))
  (e_Lok (ps_iconst_1 (x_dk dn_155_0_3_ok 1 rfl))))
  (e_Tok2
  (e_Lok (sm_isub (x_dk dn_155_0_3_ok 2 rfl)))
  (e_Tok2
  (e_Lok (lk_8_42p ho_155 (x_dk dn_155_0_3_ok 3 rfl)))
  (e_Lok (e_rt (I := eI) (k := 0) ⟨(x_dk dn_155_0_3_ok 4 rfl), rfl⟩))))))))
def te_155 : Nat → eE := (e_T 75 te_155_0 te_155_40)
theorem te_155_ok : ∀ pc, e_EOq eft cls elay eI n_155 pc (te_155 pc) := (e_Tok2 (te_155_0_ok) (te_155_40_ok))
theorem ho_156 : (xm_y n_156).cls = "RobotCellHouse$Reader" := rfl
def dn_156_0_0 : List (Nat × Instr × Nat) := [(0, .aload_n 0, 1), (1, .invokevirtual 251, 3), (4, .ifCond .ne 4, 3), (7, .return_, 1), (8, .aload_n 0, 1), (9, .invokevirtual 54, 3), (12, .aload_n 0, 1), (13, .bipush 20, 2), (15, .invokevirtual 180, 3), (18, .aload_n 0, 1), (19, .getfield 21, 3), (22, .bipush 46, 2), (24, .iconst 0, 1), (25, .invokevirtual 198, 3), (28, .istore_n 1, 1), (29, .aload_n 0, 1), (30, .getfield 21, 3), (33, .bipush 49, 2), (35, .iconst 0, 1), (36, .invokevirtual 198, 3), (39, .pop, 1), (40, .aload_n 0, 1), (41, .getfield 21, 3), (44, .bipush 49, 2), (46, .iconst 0, 1)]
set_option maxRecDepth 20000 in
theorem dn_156_0_0_ok : dn_156_0_0.all (fun q => decide (decode (xm_b n_156) q.1 = .ok (q.2.1, q.2.2))) = true := xa_g_ok (by decide +kernel)
def dn_156_0_1 : List (Nat × Instr × Nat) := [(47, .invokevirtual 198, 3), (50, .pop, 1), (51, .aload_n 0, 1), (52, .getfield 21, 3), (55, .bipush 49, 2), (57, .iconst 0, 1), (58, .invokevirtual 198, 3), (61, .pop, 1), (62, .aload_n 0, 1), (63, .dup, 1), (64, .getfield 189, 3), (67, .iconst 1, 1), (68, .iadd, 1), (69, .putfield 189, 3), (72, .aload_n 0, 1), (73, .invokevirtual 195, 3), (76, .aload_n 0, 1), (77, .getfield 21, 3), (80, .bipush 47, 2), (82, .iconst 0, 1), (83, .invokevirtual 198, 3), (86, .pop, 1), (87, .aload_n 0, 1), (88, .getfield 57, 3), (91, .bipush 43, 2)]
set_option maxRecDepth 20000 in
theorem dn_156_0_1_ok : dn_156_0_1.all (fun q => decide (decode (xm_b n_156) q.1 = .ok (q.2.1, q.2.2))) = true := xa_g_ok (by decide +kernel)
def dn_156_0_2 : List (Nat × Instr × Nat) := [(93, .if_icmp .ne 26, 3), (96, .aload_n 0, 1), (97, .getfield 21, 3), (100, .iload_n 1, 1), (101, .iconst 1, 1), (102, .iadd, 1), (103, .aload_n 0, 1), (104, .getfield 21, 3), (107, .getfield 164, 3), (110, .invokevirtual 174, 3), (113, .aload_n 0, 1), (114, .bipush 47, 2), (116, .invokevirtual 254, 3), (119, .aload_n 0, 1), (120, .getfield 57, 3), (123, .bipush 44, 2), (125, .if_icmp .ne 26, 3), (128, .aload_n 0, 1), (129, .getfield 21, 3), (132, .iload_n 1, 1), (133, .iconst 2, 1), (134, .iadd, 1), (135, .aload_n 0, 1), (136, .getfield 21, 3), (139, .getfield 164, 3)]
set_option maxRecDepth 20000 in
theorem dn_156_0_2_ok : dn_156_0_2.all (fun q => decide (decode (xm_b n_156) q.1 = .ok (q.2.1, q.2.2))) = true := xa_g_ok (by decide +kernel)
def dn_156_0_3 : List (Nat × Instr × Nat) := [(142, .invokevirtual 174, 3), (145, .aload_n 0, 1), (146, .bipush 48, 2), (148, .invokevirtual 254, 3), (151, .aload_n 0, 1), (152, .dup, 1), (153, .getfield 189, 3), (156, .iconst 1, 1), (157, .isub, 1), (158, .putfield 189, 3), (161, .aload_n 0, 1), (162, .getfield 21, 3), (165, .iload_n 1, 1), (166, .iconst 3, 1), (167, .iadd, 1), (168, .aload_n 0, 1), (169, .getfield 21, 3), (172, .getfield 164, 3), (175, .invokevirtual 174, 3), (178, .aload_n 0, 1), (179, .bipush 23, 2), (181, .invokevirtual 180, 3), (184, .aload_n 0, 1), (185, .dup, 1), (186, .getfield 42, 3)]
set_option maxRecDepth 20000 in
theorem dn_156_0_3_ok : dn_156_0_3.all (fun q => decide (decode (xm_b n_156) q.1 = .ok (q.2.1, q.2.2))) = true := xa_g_ok (by decide +kernel)
def dn_156_1_0 : List (Nat × Instr × Nat) := [(189, .iconst 1, 1), (190, .isub, 1), (191, .putfield 42, 3), (194, .return_, 1)]
set_option maxRecDepth 20000 in
theorem dn_156_1_0_ok : dn_156_1_0.all (fun q => decide (decode (xm_b n_156) q.1 = .ok (q.2.1, q.2.2))) = true := xa_g_ok (by decide +kernel)
def te_156_0 : Nat → eE := (e_T 24 (e_T 9 (e_T 4 (e_T 0 (e_L 0 (0, ei_load 0 2 1, 0, 0)) (e_T 1 (e_L 1 (2, e_nof, 132, 1)) (e_L 4 (0, ei_if1 1 8 7, 0, 0)))) (e_T 7 (e_L 7 (1, e_nof, 0, 0)) (e_T 8 (e_L 8 (0, ei_load 0 2 9, 0, 0)) (e_L 9 (2, e_nof, 123, 1))))) (e_T 15 (e_T 12 (e_L 12 (0, ei_load 0 2 13, 0, 0)) (e_T 13 (e_L 13 (0, ei_push (0, 20) 15, 0, 0)) (e_L 15 (2, e_nof, 129, 2)))) (e_T 19 (e_T 18 (e_L 18 (0, ei_load 0 2 19, 0, 0)) (e_L 19 (0, ei_getf eft elay 8 3 22, 0, 0))) (e_T 22 (e_L 22 (0, ei_push (0, 46) 24, 0, 0)) (e_L 24 (0, ei_push (0, 0) 25, 0, 0)))))) (e_T 35 (e_T 29 (e_T 25 (e_L 25 (2, e_nof, 21, 3)) (e_T 28 (e_L 28 (0, ei_stor 1 0 29, 0, 0)) (e_L 29 (0, ei_load 0 2 30, 0, 0)))) (e_T 30 (e_L 30 (0, ei_getf eft elay 8 3 33, 0, 0)) (e_T 33 (e_L 33 (0, ei_push (0, 49) 35, 0, 0)) (e_L 35 (0, ei_push (0, 0) 36, 0, 0))))) (e_T 40 (e_T 36 (e_L 36 (2, e_nof, 21, 3)) (e_T 39 (e_L 39 (0, ei_stk ef_pop 40, 0, 0)) (e_L 40 (0, ei_load 0 2 41, 0, 0)))) (e_T 44 (e_T 41 (e_L 41 (0, ei_getf eft elay 8 3 44, 0, 0)) (e_L 44 (0, ei_push (0, 49) 46, 0, 0))) (e_T 46 (e_L 46 (0, ei_push (0, 0) 47, 0, 0)) (e_L 47 (2, e_nof, 21, 3)))))))
set_option maxRecDepth 20000 in
set_option maxHeartbeats 4000000 in
theorem te_156_0_ok : ∀ pc, e_EOq eft cls elay eI n_156 pc (te_156_0 pc) :=
  (e_Tok2
  (e_Tok2
  (e_Tok2
  (e_Tok2
  (e_Lok (ld_aload_n_0 (x_dk dn_156_0_0_ok 0 rfl)))
  (e_Tok2
  (e_Lok (lk_8_251 ho_156 (x_dk dn_156_0_0_ok 1 rfl)))
  (e_Lok (e_st (I := eI) (er_ifne (off := 4) (tg := 8) (x_dk dn_156_0_0_ok 2 rfl) (by decide)) nx_if1))))
  (e_Tok2
  (e_Lok (e_rt (I := eI) (k := 0) ⟨(x_dk dn_156_0_0_ok 3 rfl), rfl⟩))
  (e_Tok2
  (e_Lok (ld_aload_n_0 (x_dk dn_156_0_0_ok 4 rfl)))
  (e_Lok (lk_8_54 ho_156 (x_dk dn_156_0_0_ok 5 rfl))))))
  (e_Tok2
  (e_Tok2
  (e_Lok (ld_aload_n_0 (x_dk dn_156_0_0_ok 6 rfl)))
  (e_Tok2
  (e_Lok (ps_bipush_20 (x_dk dn_156_0_0_ok 7 rfl)))
  (e_Lok (lk_8_180 ho_156 (x_dk dn_156_0_0_ok 8 rfl)))))
  (e_Tok2
  (e_Tok2
  (e_Lok (ld_aload_n_0 (x_dk dn_156_0_0_ok 9 rfl)))
  (e_Lok (lk_8_21g ho_156 (x_dk dn_156_0_0_ok 10 rfl))))
  (e_Tok2
  (e_Lok (ps_bipush_46 (x_dk dn_156_0_0_ok 11 rfl)))
  (e_Lok (ps_iconst_0 (x_dk dn_156_0_0_ok 12 rfl)))))))
  (e_Tok2
  (e_Tok2
  (e_Tok2
  (e_Lok (lk_8_198 ho_156 (x_dk dn_156_0_0_ok 13 rfl)))
  (e_Tok2
  (e_Lok (e_st (I := eI) (er_istore_n (i := 1) (x_dk dn_156_0_0_ok 14 rfl) (by decide +kernel)) nx_stor))
  (e_Lok (ld_aload_n_0 (x_dk dn_156_0_0_ok 15 rfl)))))
  (e_Tok2
  (e_Lok (lk_8_21g ho_156 (x_dk dn_156_0_0_ok 16 rfl)))
  (e_Tok2
  (e_Lok (ps_bipush_49 (x_dk dn_156_0_0_ok 17 rfl)))
  (e_Lok (ps_iconst_0 (x_dk dn_156_0_0_ok 18 rfl))))))
  (e_Tok2
  (e_Tok2
  (e_Lok (lk_8_198 ho_156 (x_dk dn_156_0_0_ok 19 rfl)))
  (e_Tok2
  (e_Lok (e_st (I := eI) (er_pop (x_dk dn_156_0_0_ok 20 rfl)) (nx_stk bf_pop)))
  (e_Lok (ld_aload_n_0 (x_dk dn_156_0_0_ok 21 rfl)))))
  (e_Tok2
  (e_Tok2
  (e_Lok (lk_8_21g ho_156 (x_dk dn_156_0_0_ok 22 rfl)))
  (e_Lok (ps_bipush_49 (x_dk dn_156_0_0_ok 23 rfl))))
  (e_Tok2
  (e_Lok (ps_iconst_0 (x_dk dn_156_0_0_ok 24 rfl)))
  (e_Lok (lk_8_198 ho_156 (x_dk dn_156_0_1_ok 0 rfl))))))))
def te_156_26 : Nat → eE := (e_T 69 (e_T 58 (e_T 52 (e_T 50 (e_L 50 (0, ei_stk ef_pop 51, 0, 0)) (e_T 51 (e_L 51 (0, ei_load 0 2 52, 0, 0)) (e_L 52 (0, ei_getf eft elay 8 3 55, 0, 0)))) (e_T 55 (e_L 55 (0, ei_push (0, 49) 57, 0, 0)) (e_T 57 (e_L 57 (0, ei_push (0, 0) 58, 0, 0)) (e_L 58 (2, e_nof, 21, 3))))) (e_T 63 (e_T 61 (e_L 61 (0, ei_stk ef_pop 62, 0, 0)) (e_T 62 (e_L 62 (0, ei_load 0 2 63, 0, 0)) (e_L 63 (0, ei_stk ef_dup 64, 0, 0)))) (e_T 67 (e_T 64 (e_L 64 (0, ei_getf eft elay 8 12 67, 0, 0)) (e_L 67 (0, ei_push (0, 1) 68, 0, 0))) (e_T 68 (e_L 68 (0, ei_bin eF_add 69, 0, 0)) (e_L 69 (0, ei_putf eft elay 8 12 0 72, 0, 0)))))) (e_T 82 (e_T 76 (e_T 72 (e_L 72 (0, ei_load 0 2 73, 0, 0)) (e_T 73 (e_L 73 (2, e_nof, 144, 1)) (e_L 76 (0, ei_load 0 2 77, 0, 0)))) (e_T 77 (e_L 77 (0, ei_getf eft elay 8 3 80, 0, 0)) (e_T 80 (e_L 80 (0, ei_push (0, 47) 82, 0, 0)) (e_L 82 (0, ei_push (0, 0) 83, 0, 0))))) (e_T 87 (e_T 83 (e_L 83 (2, e_nof, 21, 3)) (e_T 86 (e_L 86 (0, ei_stk ef_pop 87, 0, 0)) (e_L 87 (0, ei_load 0 2 88, 0, 0)))) (e_T 91 (e_T 88 (e_L 88 (0, ei_getf eft elay 8 5 91, 0, 0)) (e_L 91 (0, ei_push (0, 43) 93, 0, 0))) (e_T 93 (e_L 93 (0, ei_if2 1 119 96, 0, 0)) (e_L 96 (0, ei_load 0 2 97, 0, 0)))))))
set_option maxRecDepth 20000 in
set_option maxHeartbeats 4000000 in
theorem te_156_26_ok : ∀ pc, e_EOq eft cls elay eI n_156 pc (te_156_26 pc) :=
  (e_Tok2
  (e_Tok2
  (e_Tok2
  (e_Tok2
  (e_Lok (e_st (I := eI) (er_pop (x_dk dn_156_0_1_ok 1 rfl)) (nx_stk bf_pop)))
  (e_Tok2
  (e_Lok (ld_aload_n_0 (x_dk dn_156_0_1_ok 2 rfl)))
  (e_Lok (lk_8_21g ho_156 (x_dk dn_156_0_1_ok 3 rfl)))))
  (e_Tok2
  (e_Lok (ps_bipush_49 (x_dk dn_156_0_1_ok 4 rfl)))
  (e_Tok2
  (e_Lok (ps_iconst_0 (x_dk dn_156_0_1_ok 5 rfl)))
  (e_Lok (lk_8_198 ho_156 (x_dk dn_156_0_1_ok 6 rfl))))))
  (e_Tok2
  (e_Tok2
  (e_Lok (e_st (I := eI) (er_pop (x_dk dn_156_0_1_ok 7 rfl)) (nx_stk bf_pop)))
  (e_Tok2
  (e_Lok (ld_aload_n_0 (x_dk dn_156_0_1_ok 8 rfl)))
  (e_Lok (e_st (I := eI) (er_dup (x_dk dn_156_0_1_ok 9 rfl)) (nx_stk bf_dup)))))
  (e_Tok2
  (e_Tok2
  (e_Lok (lk_8_189g ho_156 (x_dk dn_156_0_1_ok 10 rfl)))
  (e_Lok (ps_iconst_1 (x_dk dn_156_0_1_ok 11 rfl))))
  (e_Tok2
  (e_Lok (sm_iadd (x_dk dn_156_0_1_ok 12 rfl)))
  (e_Lok (lk_8_189p ho_156 (x_dk dn_156_0_1_ok 13 rfl)))))))
  (e_Tok2
  (e_Tok2
  (e_Tok2
  (e_Lok (ld_aload_n_0 (x_dk dn_156_0_1_ok 14 rfl)))
  (e_Tok2
  (e_Lok (lk_8_195 ho_156 (x_dk dn_156_0_1_ok 15 rfl)))
  (e_Lok (ld_aload_n_0 (x_dk dn_156_0_1_ok 16 rfl)))))
  (e_Tok2
  (e_Lok (lk_8_21g ho_156 (x_dk dn_156_0_1_ok 17 rfl)))
  (e_Tok2
  (e_Lok (ps_bipush_47 (x_dk dn_156_0_1_ok 18 rfl)))
  (e_Lok (ps_iconst_0 (x_dk dn_156_0_1_ok 19 rfl))))))
  (e_Tok2
  (e_Tok2
  (e_Lok (lk_8_198 ho_156 (x_dk dn_156_0_1_ok 20 rfl)))
  (e_Tok2
  (e_Lok (e_st (I := eI) (er_pop (x_dk dn_156_0_1_ok 21 rfl)) (nx_stk bf_pop)))
  (e_Lok (ld_aload_n_0 (x_dk dn_156_0_1_ok 22 rfl)))))
  (e_Tok2
  (e_Tok2
  (e_Lok (lk_8_57g ho_156 (x_dk dn_156_0_1_ok 23 rfl)))
  (e_Lok (ps_bipush_43 (x_dk dn_156_0_1_ok 24 rfl))))
  (e_Tok2
  (e_Lok (e_st (I := eI) (er_icmpne (off := 26) (tg := 119) (x_dk dn_156_0_2_ok 0 rfl) (by decide)) nx_if2))
  (e_Lok (ld_aload_n_0 (x_dk dn_156_0_2_ok 1 rfl))))))))
def te_156_52 : Nat → eE := (e_T 120 (e_T 104 (e_T 101 (e_T 97 (e_L 97 (0, ei_getf eft elay 8 3 100, 0, 0)) (e_T 100 (e_L 100 (0, ei_load 1 0 101, 0, 0)) (e_L 101 (0, ei_push (0, 1) 102, 0, 0)))) (e_T 102 (e_L 102 (0, ei_bin eF_add 103, 0, 0)) (e_T 103 (e_L 103 (0, ei_load 0 2 104, 0, 0)) (e_L 104 (0, ei_getf eft elay 8 3 107, 0, 0))))) (e_T 113 (e_T 107 (e_L 107 (0, ei_getf eft elay 1 0 110, 0, 0)) (e_T 110 (e_L 110 (2, e_nof, 22, 3)) (e_L 113 (0, ei_load 0 2 114, 0, 0)))) (e_T 116 (e_T 114 (e_L 114 (0, ei_push (0, 47) 116, 0, 0)) (e_L 116 (2, e_nof, 157, 2))) (e_T 119 (e_L 119 (0, ei_load 0 2 120, 0, 0)) (e_L 120 (0, ei_getf eft elay 8 5 123, 0, 0)))))) (e_T 133 (e_T 128 (e_T 123 (e_L 123 (0, ei_push (0, 44) 125, 0, 0)) (e_T 125 (e_L 125 (0, ei_if2 1 151 128, 0, 0)) (e_L 128 (0, ei_load 0 2 129, 0, 0)))) (e_T 129 (e_L 129 (0, ei_getf eft elay 8 3 132, 0, 0)) (e_T 132 (e_L 132 (0, ei_load 1 0 133, 0, 0)) (e_L 133 (0, ei_push (0, 2) 134, 0, 0))))) (e_T 136 (e_T 134 (e_L 134 (0, ei_bin eF_add 135, 0, 0)) (e_T 135 (e_L 135 (0, ei_load 0 2 136, 0, 0)) (e_L 136 (0, ei_getf eft elay 8 3 139, 0, 0)))) (e_T 142 (e_T 139 (e_L 139 (0, ei_getf eft elay 1 0 142, 0, 0)) (e_L 142 (2, e_nof, 22, 3))) (e_T 145 (e_L 145 (0, ei_load 0 2 146, 0, 0)) (e_L 146 (0, ei_push (0, 48) 148, 0, 0)))))))
set_option maxRecDepth 20000 in
set_option maxHeartbeats 4000000 in
theorem te_156_52_ok : ∀ pc, e_EOq eft cls elay eI n_156 pc (te_156_52 pc) :=
  (e_Tok2
  (e_Tok2
  (e_Tok2
  (e_Tok2
  (e_Lok (lk_8_21g ho_156 (x_dk dn_156_0_2_ok 2 rfl)))
  (e_Tok2
  (e_Lok (ld_iload_n_1 (x_dk dn_156_0_2_ok 3 rfl)))
  (e_Lok (ps_iconst_1 (x_dk dn_156_0_2_ok 4 rfl)))))
  (e_Tok2
  (e_Lok (sm_iadd (x_dk dn_156_0_2_ok 5 rfl)))
  (e_Tok2
  (e_Lok (ld_aload_n_0 (x_dk dn_156_0_2_ok 6 rfl)))
  (e_Lok (lk_8_21g ho_156 (x_dk dn_156_0_2_ok 7 rfl))))))
  (e_Tok2
  (e_Tok2
  (e_Lok (lk_8_164g ho_156 (x_dk dn_156_0_2_ok 8 rfl)))
  (e_Tok2
  (e_Lok (lk_8_174 ho_156 (x_dk dn_156_0_2_ok 9 rfl)))
  (e_Lok (ld_aload_n_0 (x_dk dn_156_0_2_ok 10 rfl)))))
  (e_Tok2
  (e_Tok2
  (e_Lok (ps_bipush_47 (x_dk dn_156_0_2_ok 11 rfl)))
  (e_Lok (lk_8_254 ho_156 (x_dk dn_156_0_2_ok 12 rfl))))
  (e_Tok2
  (e_Lok (ld_aload_n_0 (x_dk dn_156_0_2_ok 13 rfl)))
  (e_Lok (lk_8_57g ho_156 (x_dk dn_156_0_2_ok 14 rfl)))))))
  (e_Tok2
  (e_Tok2
  (e_Tok2
  (e_Lok (ps_bipush_44 (x_dk dn_156_0_2_ok 15 rfl)))
  (e_Tok2
  (e_Lok (e_st (I := eI) (er_icmpne (off := 26) (tg := 151) (x_dk dn_156_0_2_ok 16 rfl) (by decide)) nx_if2))
  (e_Lok (ld_aload_n_0 (x_dk dn_156_0_2_ok 17 rfl)))))
  (e_Tok2
  (e_Lok (lk_8_21g ho_156 (x_dk dn_156_0_2_ok 18 rfl)))
  (e_Tok2
  (e_Lok (ld_iload_n_1 (x_dk dn_156_0_2_ok 19 rfl)))
  (e_Lok (ps_iconst_2 (x_dk dn_156_0_2_ok 20 rfl))))))
  (e_Tok2
  (e_Tok2
  (e_Lok (sm_iadd (x_dk dn_156_0_2_ok 21 rfl)))
  (e_Tok2
  (e_Lok (ld_aload_n_0 (x_dk dn_156_0_2_ok 22 rfl)))
  (e_Lok (lk_8_21g ho_156 (x_dk dn_156_0_2_ok 23 rfl)))))
  (e_Tok2
  (e_Tok2
  (e_Lok (lk_8_164g ho_156 (x_dk dn_156_0_2_ok 24 rfl)))
  (e_Lok (lk_8_174 ho_156 (x_dk dn_156_0_3_ok 0 rfl))))
  (e_Tok2
  (e_Lok (ld_aload_n_0 (x_dk dn_156_0_3_ok 1 rfl)))
  (e_Lok (ps_bipush_48 (x_dk dn_156_0_3_ok 2 rfl))))))))
def te_156_78 : Nat → eE := (e_T 168 (e_T 157 (e_T 152 (e_T 148 (e_L 148 (2, e_nof, 157, 2)) (e_T 151 (e_L 151 (0, ei_load 0 2 152, 0, 0)) (e_L 152 (0, ei_stk ef_dup 153, 0, 0)))) (e_T 153 (e_L 153 (0, ei_getf eft elay 8 12 156, 0, 0)) (e_T 156 (e_L 156 (0, ei_push (0, 1) 157, 0, 0)) (e_L 157 (0, ei_bin eF_sub 158, 0, 0))))) (e_T 162 (e_T 158 (e_L 158 (0, ei_putf eft elay 8 12 0 161, 0, 0)) (e_T 161 (e_L 161 (0, ei_load 0 2 162, 0, 0)) (e_L 162 (0, ei_getf eft elay 8 3 165, 0, 0)))) (e_T 166 (e_T 165 (e_L 165 (0, ei_load 1 0 166, 0, 0)) (e_L 166 (0, ei_push (0, 3) 167, 0, 0))) (e_T 167 (e_L 167 (0, ei_bin eF_add 168, 0, 0)) (e_L 168 (0, ei_load 0 2 169, 0, 0)))))) (e_T 181 (e_T 175 (e_T 169 (e_L 169 (0, ei_getf eft elay 8 3 172, 0, 0)) (e_T 172 (e_L 172 (0, ei_getf eft elay 1 0 175, 0, 0)) (e_L 175 (2, e_nof, 22, 3)))) (e_T 178 (e_L 178 (0, ei_load 0 2 179, 0, 0)) (e_T 179 (e_L 179 (0, ei_push (0, 23) 181, 0, 0)) (e_L 181 (2, e_nof, 129, 2))))) (e_T 186 (e_T 184 (e_L 184 (0, ei_load 0 2 185, 0, 0)) (e_T 185 (e_L 185 (0, ei_stk ef_dup 186, 0, 0)) (e_L 186 (0, ei_getf eft elay 8 11 189, 0, 0)))) (e_T 190 (e_T 189 (e_L 189 (0, ei_push (0, 1) 190, 0, 0)) (e_L 190 (0, ei_bin eF_sub 191, 0, 0))) (e_T 191 (e_L 191 (0, ei_putf eft elay 8 11 0 194, 0, 0)) (e_L 194 (1, e_nof, 0, 0)))))))
set_option maxRecDepth 20000 in
set_option maxHeartbeats 4000000 in
theorem te_156_78_ok : ∀ pc, e_EOq eft cls elay eI n_156 pc (te_156_78 pc) :=
  (e_Tok2
  (e_Tok2
  (e_Tok2
  (e_Tok2
  (e_Lok (lk_8_254 ho_156 (x_dk dn_156_0_3_ok 3 rfl)))
  (e_Tok2
  (e_Lok (ld_aload_n_0 (x_dk dn_156_0_3_ok 4 rfl)))
  (e_Lok (e_st (I := eI) (er_dup (x_dk dn_156_0_3_ok 5 rfl)) (nx_stk bf_dup)))))
  (e_Tok2
  (e_Lok (lk_8_189g ho_156 (x_dk dn_156_0_3_ok 6 rfl)))
  (e_Tok2
  (e_Lok (ps_iconst_1 (x_dk dn_156_0_3_ok 7 rfl)))
  (e_Lok (sm_isub (x_dk dn_156_0_3_ok 8 rfl))))))
  (e_Tok2
  (e_Tok2
  (e_Lok (lk_8_189p ho_156 (x_dk dn_156_0_3_ok 9 rfl)))
  (e_Tok2
  (e_Lok (ld_aload_n_0 (x_dk dn_156_0_3_ok 10 rfl)))
  (e_Lok (lk_8_21g ho_156 (x_dk dn_156_0_3_ok 11 rfl)))))
  (e_Tok2
  (e_Tok2
  (e_Lok (ld_iload_n_1 (x_dk dn_156_0_3_ok 12 rfl)))
  (e_Lok (ps_iconst_3 (x_dk dn_156_0_3_ok 13 rfl))))
  (e_Tok2
  (e_Lok (sm_iadd (x_dk dn_156_0_3_ok 14 rfl)))
  (e_Lok (ld_aload_n_0 (x_dk dn_156_0_3_ok 15 rfl)))))))
  (e_Tok2
  (e_Tok2
  (e_Tok2
  (e_Lok (lk_8_21g ho_156 (x_dk dn_156_0_3_ok 16 rfl)))
  (e_Tok2
  (e_Lok (lk_8_164g ho_156 (x_dk dn_156_0_3_ok 17 rfl)))
  (e_Lok (lk_8_174 ho_156 (x_dk dn_156_0_3_ok 18 rfl)))))
  (e_Tok2
  (e_Lok (ld_aload_n_0 (x_dk dn_156_0_3_ok 19 rfl)))
  (e_Tok2
  (e_Lok (ps_bipush_23 (x_dk dn_156_0_3_ok 20 rfl)))
  (e_Lok (lk_8_180 ho_156 (x_dk dn_156_0_3_ok 21 rfl))))))
  (e_Tok2
  (e_Tok2
  (e_Lok (ld_aload_n_0 (x_dk dn_156_0_3_ok 22 rfl)))
  (e_Tok2
  (e_Lok (e_st (I := eI) (er_dup (x_dk dn_156_0_3_ok 23 rfl)) (nx_stk bf_dup)))
  (e_Lok (lk_8_42g ho_156 (x_dk dn_156_0_3_ok 24 rfl)))))
  (e_Tok2
  (e_Tok2
  (e_Lok (ps_iconst_1 (x_dk dn_156_1_0_ok 0 rfl)))
  (e_Lok (sm_isub (x_dk dn_156_1_0_ok 1 rfl))))
  (e_Tok2
  (e_Lok (lk_8_42p ho_156 (x_dk dn_156_1_0_ok 2 rfl)))
  (e_Lok (e_rt (I := eI) (k := 0) ⟨(x_dk dn_156_1_0_ok 3 rfl), rfl⟩)))))))
def te_156 : Nat → eE := (e_T 96 (e_T 47 te_156_0 te_156_26) (e_T 146 te_156_52 te_156_78))
theorem te_156_ok : ∀ pc, e_EOq eft cls elay eI n_156 pc (te_156 pc) := (e_Tok2 ((e_Tok2 (te_156_0_ok) (te_156_26_ok))) ((e_Tok2 (te_156_52_ok) (te_156_78_ok))))
end
end
-- part 41ak
section
noncomputable section
theorem ho_157 : (xm_y n_157).cls = "RobotCellHouse$Reader" := rfl
def dn_157_0_0 : List (Nat × Instr × Nat) := [(0, .aload_n 0, 1), (1, .invokevirtual 54, 3), (4, .aload_n 0, 1), (5, .bipush 20, 2), (7, .invokevirtual 180, 3), (10, .aload_n 0, 1), (11, .invokevirtual 195, 3), (14, .aload_n 0, 1), (15, .getfield 21, 3), (18, .iload_n 1, 1), (19, .iconst 0, 1), (20, .invokevirtual 198, 3), (23, .pop, 1), (24, .return_, 1)]
set_option maxRecDepth 20000 in
theorem dn_157_0_0_ok : dn_157_0_0.all (fun q => decide (decode (xm_b n_157) q.1 = .ok (q.2.1, q.2.2))) = true := xa_g_ok (by decide +kernel)
def te_157_0 : Nat → eE := (e_T 11 (e_T 4 (e_T 0 (e_L 0 (0, ei_load 0 2 1, 0, 0)) (e_T 1 (e_L 1 (2, e_nof, 123, 1)) (e_L 4 (0, ei_load 0 2 5, 0, 0)))) (e_T 7 (e_T 5 (e_L 5 (0, ei_push (0, 20) 7, 0, 0)) (e_L 7 (2, e_nof, 129, 2))) (e_T 10 (e_L 10 (0, ei_load 0 2 11, 0, 0)) (e_L 11 (2, e_nof, 144, 1))))) (e_T 18 (e_T 14 (e_L 14 (0, ei_load 0 2 15, 0, 0)) (e_T 15 (e_L 15 (0, ei_getf eft elay 8 3 18, 0, 0)) (e_L 18 (0, ei_load 1 0 19, 0, 0)))) (e_T 20 (e_T 19 (e_L 19 (0, ei_push (0, 0) 20, 0, 0)) (e_L 20 (2, e_nof, 21, 3))) (e_T 23 (e_L 23 (0, ei_stk ef_pop 24, 0, 0)) (e_L 24 (1, e_nof, 0, 0))))))
set_option maxRecDepth 20000 in
set_option maxHeartbeats 4000000 in
theorem te_157_0_ok : ∀ pc, e_EOq eft cls elay eI n_157 pc (te_157_0 pc) :=
  (e_Tok2
  (e_Tok2
  (e_Tok2
  (e_Lok (ld_aload_n_0 (x_dk dn_157_0_0_ok 0 rfl)))
  (e_Tok2
  (e_Lok (lk_8_54 ho_157 (x_dk dn_157_0_0_ok 1 rfl)))
  (e_Lok (ld_aload_n_0 (x_dk dn_157_0_0_ok 2 rfl)))))
  (e_Tok2
  (e_Tok2
  (e_Lok (ps_bipush_20 (x_dk dn_157_0_0_ok 3 rfl)))
  (e_Lok (lk_8_180 ho_157 (x_dk dn_157_0_0_ok 4 rfl))))
  (e_Tok2
  (e_Lok (ld_aload_n_0 (x_dk dn_157_0_0_ok 5 rfl)))
  (e_Lok (lk_8_195 ho_157 (x_dk dn_157_0_0_ok 6 rfl))))))
  (e_Tok2
  (e_Tok2
  (e_Lok (ld_aload_n_0 (x_dk dn_157_0_0_ok 7 rfl)))
  (e_Tok2
  (e_Lok (lk_8_21g ho_157 (x_dk dn_157_0_0_ok 8 rfl)))
  (e_Lok (ld_iload_n_1 (x_dk dn_157_0_0_ok 9 rfl)))))
  (e_Tok2
  (e_Tok2
  (e_Lok (ps_iconst_0 (x_dk dn_157_0_0_ok 10 rfl)))
  (e_Lok (lk_8_198 ho_157 (x_dk dn_157_0_0_ok 11 rfl))))
  (e_Tok2
  (e_Lok (e_st (I := eI) (er_pop (x_dk dn_157_0_0_ok 12 rfl)) (nx_stk bf_pop)))
  (e_Lok (e_rt (I := eI) (k := 0) ⟨(x_dk dn_157_0_0_ok 13 rfl), rfl⟩))))))
def te_157 : Nat → eE := te_157_0
theorem te_157_ok : ∀ pc, e_EOq eft cls elay eI n_157 pc (te_157 pc) := te_157_0_ok
theorem ho_158 : (xm_y n_158).cls = "RobotCellHouse$Reader" := rfl
def dn_158_0_0 : List (Nat × Instr × Nat) := [(0, .aload_n 0, 1), (1, .invokevirtual 257, 3), (4, .iconst 0, 1), (5, .istore_n 1, 1), (6, .iload_n 1, 1), (7, .sipush 4000, 3), (10, .if_icmp .ge 63, 3), (13, .aload_n 0, 1), (14, .getfield 57, 3), (17, .bipush 45, 2), (19, .if_icmp .ne 54, 3), (22, .aload_n 0, 1), (23, .getfield 21, 3), (26, .bipush 12, 2), (28, .iconst 0, 1), (29, .invokevirtual 198, 3), (32, .istore_n 2, 1), (33, .aload_n 0, 1), (34, .invokevirtual 54, 3), (37, .aload_n 0, 1), (38, .invokevirtual 257, 3), (41, .aload_n 0, 1), (42, .getfield 21, 3), (45, .bipush 11, 2), (47, .iconst 0, 1)]
set_option maxRecDepth 20000 in
theorem dn_158_0_0_ok : dn_158_0_0.all (fun q => decide (decode (xm_b n_158) q.1 = .ok (q.2.1, q.2.2))) = true := xa_g_ok (by decide +kernel)
def dn_158_0_1 : List (Nat × Instr × Nat) := [(48, .invokevirtual 198, 3), (51, .pop, 1), (52, .aload_n 0, 1), (53, .getfield 21, 3), (56, .iload_n 2, 1), (57, .aload_n 0, 1), (58, .getfield 21, 3), (61, .getfield 164, 3), (64, .invokevirtual 174, 3), (67, .iinc 1 1, 3), (70, .goto (-64), 3), (73, .return_, 1)]
set_option maxRecDepth 20000 in
theorem dn_158_0_1_ok : dn_158_0_1.all (fun q => decide (decode (xm_b n_158) q.1 = .ok (q.2.1, q.2.2))) = true := xa_g_ok (by decide +kernel)
def te_158_0 : Nat → eE := (e_T 33 (e_T 14 (e_T 5 (e_T 1 (e_T 0 (e_L 0 (0, ei_load 0 2 1, 0, 0)) (e_L 1 (2, e_nof, 159, 1))) (e_T 4 (e_L 4 (0, ei_push (0, 0) 5, 0, 0)) (e_L 5 (0, ei_stor 1 0 6, 0, 0)))) (e_T 7 (e_T 6 (e_L 6 (0, ei_load 1 0 7, 0, 0)) (e_L 7 (0, ei_push (0, 4000) 10, 0, 0))) (e_T 10 (e_L 10 (0, ei_if2 3 73 13, 0, 0)) (e_T 13 (e_L 13 (0, ei_load 0 2 14, 0, 0)) (e_L 14 (0, ei_getf eft elay 8 5 17, 0, 0)))))) (e_T 23 (e_T 19 (e_T 17 (e_L 17 (0, ei_push (0, 45) 19, 0, 0)) (e_L 19 (0, ei_if2 1 73 22, 0, 0))) (e_T 22 (e_L 22 (0, ei_load 0 2 23, 0, 0)) (e_L 23 (0, ei_getf eft elay 8 3 26, 0, 0)))) (e_T 28 (e_T 26 (e_L 26 (0, ei_push (0, 12) 28, 0, 0)) (e_L 28 (0, ei_push (0, 0) 29, 0, 0))) (e_T 29 (e_L 29 (2, e_nof, 21, 3)) (e_T 32 (e_L 32 (0, ei_stor 2 0 33, 0, 0)) (e_L 33 (0, ei_load 0 2 34, 0, 0))))))) (e_T 51 (e_T 41 (e_T 37 (e_T 34 (e_L 34 (2, e_nof, 123, 1)) (e_L 37 (0, ei_load 0 2 38, 0, 0))) (e_T 38 (e_L 38 (2, e_nof, 159, 1)) (e_L 41 (0, ei_load 0 2 42, 0, 0)))) (e_T 45 (e_T 42 (e_L 42 (0, ei_getf eft elay 8 3 45, 0, 0)) (e_L 45 (0, ei_push (0, 11) 47, 0, 0))) (e_T 47 (e_L 47 (0, ei_push (0, 0) 48, 0, 0)) (e_T 48 (e_L 48 (2, e_nof, 21, 3)) (e_L 51 (0, ei_stk ef_pop 52, 0, 0)))))) (e_T 58 (e_T 53 (e_T 52 (e_L 52 (0, ei_load 0 2 53, 0, 0)) (e_L 53 (0, ei_getf eft elay 8 3 56, 0, 0))) (e_T 56 (e_L 56 (0, ei_load 2 0 57, 0, 0)) (e_T 57 (e_L 57 (0, ei_load 0 2 58, 0, 0)) (e_L 58 (0, ei_getf eft elay 8 3 61, 0, 0))))) (e_T 64 (e_T 61 (e_L 61 (0, ei_getf eft elay 1 0 64, 0, 0)) (e_L 64 (2, e_nof, 22, 3))) (e_T 67 (e_L 67 (0, ei_inc 1 1 70, 0, 0)) (e_T 70 (e_L 70 (0, ei_goto 6, 0, 0)) (e_L 73 (1, e_nof, 0, 0))))))))
set_option maxRecDepth 20000 in
set_option maxHeartbeats 4000000 in
theorem te_158_0_ok : ∀ pc, e_EOq eft cls elay eI n_158 pc (te_158_0 pc) :=
  (e_Tok2
  (e_Tok2
  (e_Tok2
  (e_Tok2
  (e_Tok2
  (e_Lok (ld_aload_n_0 (x_dk dn_158_0_0_ok 0 rfl)))
  (e_Lok (lk_8_257 ho_158 (x_dk dn_158_0_0_ok 1 rfl))))
  (e_Tok2
  (e_Lok (ps_iconst_0 (x_dk dn_158_0_0_ok 2 rfl)))
  (e_Lok (e_st (I := eI) (er_istore_n (i := 1) (x_dk dn_158_0_0_ok 3 rfl) (by decide +kernel)) nx_stor))))
  (e_Tok2
  (e_Tok2
  (e_Lok (ld_iload_n_1 (x_dk dn_158_0_0_ok 4 rfl)))
  (e_Lok (ps_sipush_4000 (x_dk dn_158_0_0_ok 5 rfl))))
  (e_Tok2
  (e_Lok (e_st (I := eI) (er_icmpge (off := 63) (tg := 73) (x_dk dn_158_0_0_ok 6 rfl) (by decide)) nx_if2))
  (e_Tok2
  (e_Lok (ld_aload_n_0 (x_dk dn_158_0_0_ok 7 rfl)))
  (e_Lok (lk_8_57g ho_158 (x_dk dn_158_0_0_ok 8 rfl)))))))
  (e_Tok2
  (e_Tok2
  (e_Tok2
  (e_Lok (ps_bipush_45 (x_dk dn_158_0_0_ok 9 rfl)))
  (e_Lok (e_st (I := eI) (er_icmpne (off := 54) (tg := 73) (x_dk dn_158_0_0_ok 10 rfl) (by decide)) nx_if2)))
  (e_Tok2
  (e_Lok (ld_aload_n_0 (x_dk dn_158_0_0_ok 11 rfl)))
  (e_Lok (lk_8_21g ho_158 (x_dk dn_158_0_0_ok 12 rfl)))))
  (e_Tok2
  (e_Tok2
  (e_Lok (ps_bipush_12 (x_dk dn_158_0_0_ok 13 rfl)))
  (e_Lok (ps_iconst_0 (x_dk dn_158_0_0_ok 14 rfl))))
  (e_Tok2
  (e_Lok (lk_8_198 ho_158 (x_dk dn_158_0_0_ok 15 rfl)))
  (e_Tok2
  (e_Lok (e_st (I := eI) (er_istore_n (i := 2) (x_dk dn_158_0_0_ok 16 rfl) (by decide +kernel)) nx_stor))
  (e_Lok (ld_aload_n_0 (x_dk dn_158_0_0_ok 17 rfl))))))))
  (e_Tok2
  (e_Tok2
  (e_Tok2
  (e_Tok2
  (e_Lok (lk_8_54 ho_158 (x_dk dn_158_0_0_ok 18 rfl)))
  (e_Lok (ld_aload_n_0 (x_dk dn_158_0_0_ok 19 rfl))))
  (e_Tok2
  (e_Lok (lk_8_257 ho_158 (x_dk dn_158_0_0_ok 20 rfl)))
  (e_Lok (ld_aload_n_0 (x_dk dn_158_0_0_ok 21 rfl)))))
  (e_Tok2
  (e_Tok2
  (e_Lok (lk_8_21g ho_158 (x_dk dn_158_0_0_ok 22 rfl)))
  (e_Lok (ps_bipush_11 (x_dk dn_158_0_0_ok 23 rfl))))
  (e_Tok2
  (e_Lok (ps_iconst_0 (x_dk dn_158_0_0_ok 24 rfl)))
  (e_Tok2
  (e_Lok (lk_8_198 ho_158 (x_dk dn_158_0_1_ok 0 rfl)))
  (e_Lok (e_st (I := eI) (er_pop (x_dk dn_158_0_1_ok 1 rfl)) (nx_stk bf_pop)))))))
  (e_Tok2
  (e_Tok2
  (e_Tok2
  (e_Lok (ld_aload_n_0 (x_dk dn_158_0_1_ok 2 rfl)))
  (e_Lok (lk_8_21g ho_158 (x_dk dn_158_0_1_ok 3 rfl))))
  (e_Tok2
  (e_Lok (ld_iload_n_2 (x_dk dn_158_0_1_ok 4 rfl)))
  (e_Tok2
  (e_Lok (ld_aload_n_0 (x_dk dn_158_0_1_ok 5 rfl)))
  (e_Lok (lk_8_21g ho_158 (x_dk dn_158_0_1_ok 6 rfl))))))
  (e_Tok2
  (e_Tok2
  (e_Lok (lk_8_164g ho_158 (x_dk dn_158_0_1_ok 7 rfl)))
  (e_Lok (lk_8_174 ho_158 (x_dk dn_158_0_1_ok 8 rfl))))
  (e_Tok2
  (e_Lok (e_st (I := eI) (er_iinc (i := 1) (n := 1) (x_dk dn_158_0_1_ok 9 rfl) (by decide +kernel) (by decide)) nx_inc))
  (e_Tok2
  (e_Lok (e_st (I := eI) (er_goto (off := (-64)) (tg := 6) (x_dk dn_158_0_1_ok 10 rfl) (by decide)) nx_goto))
  (e_Lok (e_rt (I := eI) (k := 0) ⟨(x_dk dn_158_0_1_ok 11 rfl), rfl⟩))))))))
def te_158 : Nat → eE := te_158_0
theorem te_158_ok : ∀ pc, e_EOq eft cls elay eI n_158 pc (te_158 pc) := te_158_0_ok
theorem ho_159 : (xm_y n_159).cls = "RobotCellHouse$Reader" := rfl
def dn_159_0_0 : List (Nat × Instr × Nat) := [(0, .aload_n 0, 1), (1, .invokevirtual 260, 3), (4, .iconst 0, 1), (5, .istore_n 1, 1), (6, .iload_n 1, 1), (7, .sipush 4000, 3), (10, .if_icmp .ge 63, 3), (13, .aload_n 0, 1), (14, .getfield 57, 3), (17, .bipush 46, 2), (19, .if_icmp .ne 54, 3), (22, .aload_n 0, 1), (23, .getfield 21, 3), (26, .bipush 13, 2), (28, .iconst 0, 1), (29, .invokevirtual 198, 3), (32, .istore_n 2, 1), (33, .aload_n 0, 1), (34, .invokevirtual 54, 3), (37, .aload_n 0, 1), (38, .invokevirtual 260, 3), (41, .aload_n 0, 1), (42, .getfield 21, 3), (45, .bipush 11, 2), (47, .iconst 0, 1)]
set_option maxRecDepth 20000 in
theorem dn_159_0_0_ok : dn_159_0_0.all (fun q => decide (decode (xm_b n_159) q.1 = .ok (q.2.1, q.2.2))) = true := xa_g_ok (by decide +kernel)
def dn_159_0_1 : List (Nat × Instr × Nat) := [(48, .invokevirtual 198, 3), (51, .pop, 1), (52, .aload_n 0, 1), (53, .getfield 21, 3), (56, .iload_n 2, 1), (57, .aload_n 0, 1), (58, .getfield 21, 3), (61, .getfield 164, 3), (64, .invokevirtual 174, 3), (67, .iinc 1 1, 3), (70, .goto (-64), 3), (73, .return_, 1)]
set_option maxRecDepth 20000 in
theorem dn_159_0_1_ok : dn_159_0_1.all (fun q => decide (decode (xm_b n_159) q.1 = .ok (q.2.1, q.2.2))) = true := xa_g_ok (by decide +kernel)
def te_159_0 : Nat → eE := (e_T 33 (e_T 14 (e_T 5 (e_T 1 (e_T 0 (e_L 0 (0, ei_load 0 2 1, 0, 0)) (e_L 1 (2, e_nof, 160, 1))) (e_T 4 (e_L 4 (0, ei_push (0, 0) 5, 0, 0)) (e_L 5 (0, ei_stor 1 0 6, 0, 0)))) (e_T 7 (e_T 6 (e_L 6 (0, ei_load 1 0 7, 0, 0)) (e_L 7 (0, ei_push (0, 4000) 10, 0, 0))) (e_T 10 (e_L 10 (0, ei_if2 3 73 13, 0, 0)) (e_T 13 (e_L 13 (0, ei_load 0 2 14, 0, 0)) (e_L 14 (0, ei_getf eft elay 8 5 17, 0, 0)))))) (e_T 23 (e_T 19 (e_T 17 (e_L 17 (0, ei_push (0, 46) 19, 0, 0)) (e_L 19 (0, ei_if2 1 73 22, 0, 0))) (e_T 22 (e_L 22 (0, ei_load 0 2 23, 0, 0)) (e_L 23 (0, ei_getf eft elay 8 3 26, 0, 0)))) (e_T 28 (e_T 26 (e_L 26 (0, ei_push (0, 13) 28, 0, 0)) (e_L 28 (0, ei_push (0, 0) 29, 0, 0))) (e_T 29 (e_L 29 (2, e_nof, 21, 3)) (e_T 32 (e_L 32 (0, ei_stor 2 0 33, 0, 0)) (e_L 33 (0, ei_load 0 2 34, 0, 0))))))) (e_T 51 (e_T 41 (e_T 37 (e_T 34 (e_L 34 (2, e_nof, 123, 1)) (e_L 37 (0, ei_load 0 2 38, 0, 0))) (e_T 38 (e_L 38 (2, e_nof, 160, 1)) (e_L 41 (0, ei_load 0 2 42, 0, 0)))) (e_T 45 (e_T 42 (e_L 42 (0, ei_getf eft elay 8 3 45, 0, 0)) (e_L 45 (0, ei_push (0, 11) 47, 0, 0))) (e_T 47 (e_L 47 (0, ei_push (0, 0) 48, 0, 0)) (e_T 48 (e_L 48 (2, e_nof, 21, 3)) (e_L 51 (0, ei_stk ef_pop 52, 0, 0)))))) (e_T 58 (e_T 53 (e_T 52 (e_L 52 (0, ei_load 0 2 53, 0, 0)) (e_L 53 (0, ei_getf eft elay 8 3 56, 0, 0))) (e_T 56 (e_L 56 (0, ei_load 2 0 57, 0, 0)) (e_T 57 (e_L 57 (0, ei_load 0 2 58, 0, 0)) (e_L 58 (0, ei_getf eft elay 8 3 61, 0, 0))))) (e_T 64 (e_T 61 (e_L 61 (0, ei_getf eft elay 1 0 64, 0, 0)) (e_L 64 (2, e_nof, 22, 3))) (e_T 67 (e_L 67 (0, ei_inc 1 1 70, 0, 0)) (e_T 70 (e_L 70 (0, ei_goto 6, 0, 0)) (e_L 73 (1, e_nof, 0, 0))))))))
set_option maxRecDepth 20000 in
set_option maxHeartbeats 4000000 in
theorem te_159_0_ok : ∀ pc, e_EOq eft cls elay eI n_159 pc (te_159_0 pc) :=
  (e_Tok2
  (e_Tok2
  (e_Tok2
  (e_Tok2
  (e_Tok2
  (e_Lok (ld_aload_n_0 (x_dk dn_159_0_0_ok 0 rfl)))
  (e_Lok (lk_8_260 ho_159 (x_dk dn_159_0_0_ok 1 rfl))))
  (e_Tok2
  (e_Lok (ps_iconst_0 (x_dk dn_159_0_0_ok 2 rfl)))
  (e_Lok (e_st (I := eI) (er_istore_n (i := 1) (x_dk dn_159_0_0_ok 3 rfl) (by decide +kernel)) nx_stor))))
  (e_Tok2
  (e_Tok2
  (e_Lok (ld_iload_n_1 (x_dk dn_159_0_0_ok 4 rfl)))
  (e_Lok (ps_sipush_4000 (x_dk dn_159_0_0_ok 5 rfl))))
  (e_Tok2
  (e_Lok (e_st (I := eI) (er_icmpge (off := 63) (tg := 73) (x_dk dn_159_0_0_ok 6 rfl) (by decide)) nx_if2))
  (e_Tok2
  (e_Lok (ld_aload_n_0 (x_dk dn_159_0_0_ok 7 rfl)))
  (e_Lok (lk_8_57g ho_159 (x_dk dn_159_0_0_ok 8 rfl)))))))
  (e_Tok2
  (e_Tok2
  (e_Tok2
  (e_Lok (ps_bipush_46 (x_dk dn_159_0_0_ok 9 rfl)))
  (e_Lok (e_st (I := eI) (er_icmpne (off := 54) (tg := 73) (x_dk dn_159_0_0_ok 10 rfl) (by decide)) nx_if2)))
  (e_Tok2
  (e_Lok (ld_aload_n_0 (x_dk dn_159_0_0_ok 11 rfl)))
  (e_Lok (lk_8_21g ho_159 (x_dk dn_159_0_0_ok 12 rfl)))))
  (e_Tok2
  (e_Tok2
  (e_Lok (ps_bipush_13 (x_dk dn_159_0_0_ok 13 rfl)))
  (e_Lok (ps_iconst_0 (x_dk dn_159_0_0_ok 14 rfl))))
  (e_Tok2
  (e_Lok (lk_8_198 ho_159 (x_dk dn_159_0_0_ok 15 rfl)))
  (e_Tok2
  (e_Lok (e_st (I := eI) (er_istore_n (i := 2) (x_dk dn_159_0_0_ok 16 rfl) (by decide +kernel)) nx_stor))
  (e_Lok (ld_aload_n_0 (x_dk dn_159_0_0_ok 17 rfl))))))))
  (e_Tok2
  (e_Tok2
  (e_Tok2
  (e_Tok2
  (e_Lok (lk_8_54 ho_159 (x_dk dn_159_0_0_ok 18 rfl)))
  (e_Lok (ld_aload_n_0 (x_dk dn_159_0_0_ok 19 rfl))))
  (e_Tok2
  (e_Lok (lk_8_260 ho_159 (x_dk dn_159_0_0_ok 20 rfl)))
  (e_Lok (ld_aload_n_0 (x_dk dn_159_0_0_ok 21 rfl)))))
  (e_Tok2
  (e_Tok2
  (e_Lok (lk_8_21g ho_159 (x_dk dn_159_0_0_ok 22 rfl)))
  (e_Lok (ps_bipush_11 (x_dk dn_159_0_0_ok 23 rfl))))
  (e_Tok2
  (e_Lok (ps_iconst_0 (x_dk dn_159_0_0_ok 24 rfl)))
  (e_Tok2
  (e_Lok (lk_8_198 ho_159 (x_dk dn_159_0_1_ok 0 rfl)))
  (e_Lok (e_st (I := eI) (er_pop (x_dk dn_159_0_1_ok 1 rfl)) (nx_stk bf_pop)))))))
  (e_Tok2
  (e_Tok2
  (e_Tok2
  (e_Lok (ld_aload_n_0 (x_dk dn_159_0_1_ok 2 rfl)))
  (e_Lok (lk_8_21g ho_159 (x_dk dn_159_0_1_ok 3 rfl))))
  (e_Tok2
  (e_Lok (ld_iload_n_2 (x_dk dn_159_0_1_ok 4 rfl)))
  (e_Tok2
  (e_Lok (ld_aload_n_0 (x_dk dn_159_0_1_ok 5 rfl)))
  (e_Lok (lk_8_21g ho_159 (x_dk dn_159_0_1_ok 6 rfl))))))
  (e_Tok2
  (e_Tok2
  (e_Lok (lk_8_164g ho_159 (x_dk dn_159_0_1_ok 7 rfl)))
  (e_Lok (lk_8_174 ho_159 (x_dk dn_159_0_1_ok 8 rfl))))
  (e_Tok2
  (e_Lok (e_st (I := eI) (er_iinc (i := 1) (n := 1) (x_dk dn_159_0_1_ok 9 rfl) (by decide +kernel) (by decide)) nx_inc))
  (e_Tok2
  (e_Lok (e_st (I := eI) (er_goto (off := (-64)) (tg := 6) (x_dk dn_159_0_1_ok 10 rfl) (by decide)) nx_goto))
  (e_Lok (e_rt (I := eI) (k := 0) ⟨(x_dk dn_159_0_1_ok 11 rfl), rfl⟩))))))))
def te_159 : Nat → eE := te_159_0
theorem te_159_ok : ∀ pc, e_EOq eft cls elay eI n_159 pc (te_159 pc) := te_159_0_ok
theorem ho_160 : (xm_y n_160).cls = "RobotCellHouse$Reader" := rfl
def dn_160_0_0 : List (Nat × Instr × Nat) := [(0, .aload_n 0, 1), (1, .getfield 57, 3), (4, .bipush 47, 2), (6, .if_icmp .ne 41, 3), (9, .aload_n 0, 1), (10, .invokevirtual 251, 3), (13, .ifCond .ne 4, 3), (16, .return_, 1), (17, .aload_n 0, 1), (18, .invokevirtual 54, 3), (21, .aload_n 0, 1), (22, .invokevirtual 260, 3), (25, .aload_n 0, 1), (26, .dup, 1), (27, .getfield 42, 3), (30, .iconst 1, 1), (31, .isub, 1), (32, .putfield 42, 3), (35, .aload_n 0, 1), (36, .getfield 21, 3), (39, .bipush 10, 2), (41, .iconst 0, 1), (42, .invokevirtual 198, 3), (45, .pop, 1), (46, .return_, 1)]
set_option maxRecDepth 20000 in
theorem dn_160_0_0_ok : dn_160_0_0.all (fun q => decide (decode (xm_b n_160) q.1 = .ok (q.2.1, q.2.2))) = true := xa_g_ok (by decide +kernel)
def dn_160_0_1 : List (Nat × Instr × Nat) := [(47, .aload_n 0, 1), (48, .invokevirtual 263, 3), (51, .aload_n 0, 1), (52, .invokevirtual 266, 3), (55, .istore_n 1, 1), (56, .iload_n 1, 1), (57, .bipush 49, 2), (59, .if_icmp .ne 4, 3), (62, .return_, 1), (63, .aload_n 0, 1), (64, .invokevirtual 54, 3), (67, .aload_n 0, 1), (68, .invokevirtual 263, 3), (71, .aload_n 0, 1), (72, .getfield 21, 3), (75, .iload_n 1, 1), (76, .iconst 0, 1), (77, .invokevirtual 198, 3), (80, .pop, 1), (81, .return_, 1)]
set_option maxRecDepth 20000 in
theorem dn_160_0_1_ok : dn_160_0_1.all (fun q => decide (decode (xm_b n_160) q.1 = .ok (q.2.1, q.2.2))) = true := xa_g_ok (by decide +kernel)
def te_160_0 : Nat → eE := (e_T 21 (e_T 9 (e_T 1 (e_T 0 (e_L 0 (0, ei_load 0 2 1, 0, 0)) (e_L 1 (0, ei_getf eft elay 8 5 4, 0, 0))) (e_T 4 (e_L 4 (0, ei_push (0, 47) 6, 0, 0)) (e_T 6 (e_L 6 (0, ei_if2 1 47 9, 0, 0)) (e_L 9 (0, ei_load 0 2 10, 0, 0))))) (e_T 16 (e_T 10 (e_L 10 (2, e_nof, 132, 1)) (e_T 13 (e_L 13 (0, ei_if1 1 17 16, 0, 0)) (e_L 16 (1, e_nof, 0, 0)))) (e_T 17 (e_L 17 (0, ei_load 0 2 18, 0, 0)) (e_T 18 (e_L 18 (2, e_nof, 123, 1)) (e_L 21 (0, ei_load 0 2 22, 0, 0)))))) (e_T 30 (e_T 25 (e_T 22 (e_L 22 (2, e_nof, 160, 1)) (e_L 25 (0, ei_load 0 2 26, 0, 0))) (e_T 26 (e_L 26 (0, ei_stk ef_dup 27, 0, 0)) (e_T 27 (e_L 27 (0, ei_getf eft elay 8 11 30, 0, 0)) (e_L 30 (0, ei_push (0, 1) 31, 0, 0))))) (e_T 35 (e_T 31 (e_L 31 (0, ei_bin eF_sub 32, 0, 0)) (e_T 32 (e_L 32 (0, ei_putf eft elay 8 11 0 35, 0, 0)) (e_L 35 (0, ei_load 0 2 36, 0, 0)))) (e_T 36 (e_L 36 (0, ei_getf eft elay 8 3 39, 0, 0)) (e_T 39 (e_L 39 (0, ei_push (0, 10) 41, 0, 0)) (e_L 41 (0, ei_push (0, 0) 42, 0, 0)))))))
set_option maxRecDepth 20000 in
set_option maxHeartbeats 4000000 in
theorem te_160_0_ok : ∀ pc, e_EOq eft cls elay eI n_160 pc (te_160_0 pc) :=
  (e_Tok2
  (e_Tok2
  (e_Tok2
  (e_Tok2
  (e_Lok (ld_aload_n_0 (x_dk dn_160_0_0_ok 0 rfl)))
  (e_Lok (lk_8_57g ho_160 (x_dk dn_160_0_0_ok 1 rfl))))
  (e_Tok2
  (e_Lok (ps_bipush_47 (x_dk dn_160_0_0_ok 2 rfl)))
  (e_Tok2
  (e_Lok (e_st (I := eI) (er_icmpne (off := 41) (tg := 47) (x_dk dn_160_0_0_ok 3 rfl) (by decide)) nx_if2))
  (e_Lok (ld_aload_n_0 (x_dk dn_160_0_0_ok 4 rfl))))))
  (e_Tok2
  (e_Tok2
  (e_Lok (lk_8_251 ho_160 (x_dk dn_160_0_0_ok 5 rfl)))
  (e_Tok2
  (e_Lok (e_st (I := eI) (er_ifne (off := 4) (tg := 17) (x_dk dn_160_0_0_ok 6 rfl) (by decide)) nx_if1))
  (e_Lok (e_rt (I := eI) (k := 0) ⟨(x_dk dn_160_0_0_ok 7 rfl), rfl⟩))))
  (e_Tok2
  (e_Lok (ld_aload_n_0 (x_dk dn_160_0_0_ok 8 rfl)))
  (e_Tok2
  (e_Lok (lk_8_54 ho_160 (x_dk dn_160_0_0_ok 9 rfl)))
  (e_Lok (ld_aload_n_0 (x_dk dn_160_0_0_ok 10 rfl)))))))
  (e_Tok2
  (e_Tok2
  (e_Tok2
  (e_Lok (lk_8_260 ho_160 (x_dk dn_160_0_0_ok 11 rfl)))
  (e_Lok (ld_aload_n_0 (x_dk dn_160_0_0_ok 12 rfl))))
  (e_Tok2
  (e_Lok (e_st (I := eI) (er_dup (x_dk dn_160_0_0_ok 13 rfl)) (nx_stk bf_dup)))
  (e_Tok2
  (e_Lok (lk_8_42g ho_160 (x_dk dn_160_0_0_ok 14 rfl)))
  (e_Lok (ps_iconst_1 (x_dk dn_160_0_0_ok 15 rfl))))))
  (e_Tok2
  (e_Tok2
  (e_Lok (sm_isub (x_dk dn_160_0_0_ok 16 rfl)))
  (e_Tok2
  (e_Lok (lk_8_42p ho_160 (x_dk dn_160_0_0_ok 17 rfl)))
  (e_Lok (ld_aload_n_0 (x_dk dn_160_0_0_ok 18 rfl)))))
  (e_Tok2
  (e_Lok (lk_8_21g ho_160 (x_dk dn_160_0_0_ok 19 rfl)))
  (e_Tok2
  (e_Lok (ps_bipush_10 (x_dk dn_160_0_0_ok 20 rfl)))
  (e_Lok (ps_iconst_0 (x_dk dn_160_0_0_ok 21 rfl))))))))
def te_160_22 : Nat → eE := (e_T 59 (e_T 48 (e_T 45 (e_T 42 (e_L 42 (2, e_nof, 21, 3)) (e_L 45 (0, ei_stk ef_pop 46, 0, 0))) (e_T 46 (e_L 46 (1, e_nof, 0, 0)) (e_T 47 (e_L 47 (0, ei_load 0 2 48, 0, 0)) (e_L 48 (2, e_nof, 162, 1))))) (e_T 55 (e_T 51 (e_L 51 (0, ei_load 0 2 52, 0, 0)) (e_T 52 (e_L 52 (2, e_nof, 161, 1)) (e_L 55 (0, ei_stor 1 0 56, 0, 0)))) (e_T 56 (e_L 56 (0, ei_load 1 0 57, 0, 0)) (e_T 57 (e_L 57 (0, ei_push (0, 49) 59, 0, 0)) (e_L 59 (0, ei_if2 1 63 62, 0, 0)))))) (e_T 71 (e_T 64 (e_T 62 (e_L 62 (1, e_nof, 0, 0)) (e_T 63 (e_L 63 (0, ei_load 0 2 64, 0, 0)) (e_L 64 (2, e_nof, 123, 1)))) (e_T 67 (e_L 67 (0, ei_load 0 2 68, 0, 0)) (e_T 68 (e_L 68 (2, e_nof, 162, 1)) (e_L 71 (0, ei_load 0 2 72, 0, 0))))) (e_T 76 (e_T 72 (e_L 72 (0, ei_getf eft elay 8 3 75, 0, 0)) (e_T 75 (e_L 75 (0, ei_load 1 0 76, 0, 0)) (e_L 76 (0, ei_push (0, 0) 77, 0, 0)))) (e_T 77 (e_L 77 (2, e_nof, 21, 3)) (e_T 80 (e_L 80 (0, ei_stk ef_pop 81, 0, 0)) (e_L 81 (1, e_nof, 0, 0)))))))
set_option maxRecDepth 20000 in
set_option maxHeartbeats 4000000 in
theorem te_160_22_ok : ∀ pc, e_EOq eft cls elay eI n_160 pc (te_160_22 pc) :=
  (e_Tok2
  (e_Tok2
  (e_Tok2
  (e_Tok2
  (e_Lok (lk_8_198 ho_160 (x_dk dn_160_0_0_ok 22 rfl)))
  (e_Lok (e_st (I := eI) (er_pop (x_dk dn_160_0_0_ok 23 rfl)) (nx_stk bf_pop))))
  (e_Tok2
  (e_Lok (e_rt (I := eI) (k := 0) ⟨(x_dk dn_160_0_0_ok 24 rfl), rfl⟩))
  (e_Tok2
  (e_Lok (ld_aload_n_0 (x_dk dn_160_0_1_ok 0 rfl)))
  (e_Lok (lk_8_263 ho_160 (x_dk dn_160_0_1_ok 1 rfl))))))
  (e_Tok2
  (e_Tok2
  (e_Lok (ld_aload_n_0 (x_dk dn_160_0_1_ok 2 rfl)))
  (e_Tok2
  (e_Lok (lk_8_266 ho_160 (x_dk dn_160_0_1_ok 3 rfl)))
  (e_Lok (e_st (I := eI) (er_istore_n (i := 1) (x_dk dn_160_0_1_ok 4 rfl) (by decide +kernel)) nx_stor))))
  (e_Tok2
  (e_Lok (ld_iload_n_1 (x_dk dn_160_0_1_ok 5 rfl)))
  (e_Tok2
  (e_Lok (ps_bipush_49 (x_dk dn_160_0_1_ok 6 rfl)))
  (e_Lok (e_st (I := eI) (er_icmpne (off := 4) (tg := 63) (x_dk dn_160_0_1_ok 7 rfl) (by decide)) nx_if2))))))
  (e_Tok2
  (e_Tok2
  (e_Tok2
  (e_Lok (e_rt (I := eI) (k := 0) ⟨(x_dk dn_160_0_1_ok 8 rfl), rfl⟩))
  (e_Tok2
  (e_Lok (ld_aload_n_0 (x_dk dn_160_0_1_ok 9 rfl)))
  (e_Lok (lk_8_54 ho_160 (x_dk dn_160_0_1_ok 10 rfl)))))
  (e_Tok2
  (e_Lok (ld_aload_n_0 (x_dk dn_160_0_1_ok 11 rfl)))
  (e_Tok2
  (e_Lok (lk_8_263 ho_160 (x_dk dn_160_0_1_ok 12 rfl)))
  (e_Lok (ld_aload_n_0 (x_dk dn_160_0_1_ok 13 rfl))))))
  (e_Tok2
  (e_Tok2
  (e_Lok (lk_8_21g ho_160 (x_dk dn_160_0_1_ok 14 rfl)))
  (e_Tok2
  (e_Lok (ld_iload_n_1 (x_dk dn_160_0_1_ok 15 rfl)))
  (e_Lok (ps_iconst_0 (x_dk dn_160_0_1_ok 16 rfl)))))
  (e_Tok2
  (e_Lok (lk_8_198 ho_160 (x_dk dn_160_0_1_ok 17 rfl)))
  (e_Tok2
  (e_Lok (e_st (I := eI) (er_pop (x_dk dn_160_0_1_ok 18 rfl)) (nx_stk bf_pop)))
  (e_Lok (e_rt (I := eI) (k := 0) ⟨(x_dk dn_160_0_1_ok 19 rfl), rfl⟩)))))))
def te_160 : Nat → eE := (e_T 41 te_160_0 te_160_22)
theorem te_160_ok : ∀ pc, e_EOq eft cls elay eI n_160 pc (te_160 pc) := (e_Tok2 (te_160_0_ok) (te_160_22_ok))
theorem ho_161 : (xm_y n_161).cls = "RobotCellHouse$Reader" := rfl
def dn_161_0_0 : List (Nat × Instr × Nat) := [(0, .aload_n 0, 1), (1, .getfield 57, 3), (4, .tableswitch 78 5 15 #[63, 69, 75, 78, 78, 78, 78, 78, 60, 66, 72], 60), (64, .bipush 19, 2), (66, .ireturn, 1), (67, .bipush 20, 2), (69, .ireturn, 1), (70, .bipush 21, 2), (72, .ireturn, 1), (73, .bipush 22, 2), (75, .ireturn, 1), (76, .bipush 23, 2), (78, .ireturn, 1), (79, .bipush 24, 2), (81, .ireturn, 1), (82, .bipush 49, 2), (84, .ireturn, 1)]
set_option maxRecDepth 20000 in
theorem dn_161_0_0_ok : dn_161_0_0.all (fun q => decide (decode (xm_b n_161) q.1 = .ok (q.2.1, q.2.2))) = true := xa_g_ok (by decide +kernel)
def te_161_0 : Nat → eE := (e_T 70 (e_T 64 (e_T 1 (e_T 0 (e_L 0 (0, ei_load 0 2 1, 0, 0)) (e_L 1 (0, ei_getf eft elay 8 5 4, 0, 0))) (e_T 4 (e_L 4 (0, ei_sw [((-2147483648), 4, 82), (5, 5, 67), (6, 6, 73), (7, 7, 79), (8, 8, 82), (9, 9, 82), (10, 10, 82), (11, 11, 82), (12, 12, 82), (13, 13, 64), (14, 14, 70), (15, 15, 76), (16, 2147483647, 82)], 0, 0)) (e_L 64 (0, ei_push (0, 19) 66, 0, 0)))) (e_T 67 (e_T 66 (e_L 66 (1, e_nof, 1, 0)) (e_L 67 (0, ei_push (0, 20) 69, 0, 0))) (e_T 69 (e_L 69 (1, e_nof, 1, 0)) (e_L 70 (0, ei_push (0, 21) 72, 0, 0))))) (e_T 76 (e_T 73 (e_T 72 (e_L 72 (1, e_nof, 1, 0)) (e_L 73 (0, ei_push (0, 22) 75, 0, 0))) (e_T 75 (e_L 75 (1, e_nof, 1, 0)) (e_L 76 (0, ei_push (0, 23) 78, 0, 0)))) (e_T 79 (e_T 78 (e_L 78 (1, e_nof, 1, 0)) (e_L 79 (0, ei_push (0, 24) 81, 0, 0))) (e_T 81 (e_L 81 (1, e_nof, 1, 0)) (e_T 82 (e_L 82 (0, ei_push (0, 49) 84, 0, 0)) (e_L 84 (1, e_nof, 1, 0)))))))
set_option maxRecDepth 20000 in
set_option maxHeartbeats 4000000 in
theorem te_161_0_ok : ∀ pc, e_EOq eft cls elay eI n_161 pc (te_161_0 pc) :=
  (e_Tok2
  (e_Tok2
  (e_Tok2
  (e_Tok2
  (e_Lok (ld_aload_n_0 (x_dk dn_161_0_0_ok 0 rfl)))
  (e_Lok (lk_8_57g ho_161 (x_dk dn_161_0_0_ok 1 rfl))))
  (e_Tok2
  (e_Lok (e_st (I := eI) (er_tsw (dflt := 78) (lo := 5) (hi := 15) (offs := #[63, 69, 75, 78, 78, 78, 78, 78, 60, 66, 72]) (len := 60) (n := 11) (x_dk dn_161_0_0_ok 2 rfl) (by decide) (by decide +kernel)) nx_sw))
  (e_Lok (ps_bipush_19 (x_dk dn_161_0_0_ok 3 rfl)))))
  (e_Tok2
  (e_Tok2
  (e_Lok (e_rt (I := eI) (k := 1) ⟨(x_dk dn_161_0_0_ok 4 rfl), rfl⟩))
  (e_Lok (ps_bipush_20 (x_dk dn_161_0_0_ok 5 rfl))))
  (e_Tok2
  (e_Lok (e_rt (I := eI) (k := 1) ⟨(x_dk dn_161_0_0_ok 6 rfl), rfl⟩))
  (e_Lok (ps_bipush_21 (x_dk dn_161_0_0_ok 7 rfl))))))
  (e_Tok2
  (e_Tok2
  (e_Tok2
  (e_Lok (e_rt (I := eI) (k := 1) ⟨(x_dk dn_161_0_0_ok 8 rfl), rfl⟩))
  (e_Lok (ps_bipush_22 (x_dk dn_161_0_0_ok 9 rfl))))
  (e_Tok2
  (e_Lok (e_rt (I := eI) (k := 1) ⟨(x_dk dn_161_0_0_ok 10 rfl), rfl⟩))
  (e_Lok (ps_bipush_23 (x_dk dn_161_0_0_ok 11 rfl)))))
  (e_Tok2
  (e_Tok2
  (e_Lok (e_rt (I := eI) (k := 1) ⟨(x_dk dn_161_0_0_ok 12 rfl), rfl⟩))
  (e_Lok (ps_bipush_24 (x_dk dn_161_0_0_ok 13 rfl))))
  (e_Tok2
  (e_Lok (e_rt (I := eI) (k := 1) ⟨(x_dk dn_161_0_0_ok 14 rfl), rfl⟩))
  (e_Tok2
  (e_Lok (ps_bipush_49 (x_dk dn_161_0_0_ok 15 rfl)))
  (e_Lok (e_rt (I := eI) (k := 1) ⟨(x_dk dn_161_0_0_ok 16 rfl), rfl⟩)))))))
def te_161 : Nat → eE := te_161_0
theorem te_161_ok : ∀ pc, e_EOq eft cls elay eI n_161 pc (te_161 pc) := te_161_0_ok
theorem ho_162 : (xm_y n_162).cls = "RobotCellHouse$Reader" := rfl
def dn_162_0_0 : List (Nat × Instr × Nat) := [(0, .aload_n 0, 1), (1, .invokevirtual 269, 3), (4, .iconst 0, 1), (5, .istore_n 1, 1), (6, .iload_n 1, 1), (7, .sipush 4000, 3), (10, .if_icmp .ge 58, 3), (13, .aload_n 0, 1), (14, .getfield 57, 3), (17, .bipush 8, 2), (19, .bipush 9, 2), (21, .invokestatic 201, 3), (24, .ifCond .eq 44, 3), (27, .aload_n 0, 1), (28, .getfield 57, 3), (31, .bipush 8, 2), (33, .if_icmp .ne 8, 3), (36, .bipush 14, 2), (38, .goto 5, 3), (41, .bipush 15, 2), (43, .istore_n 2, 1), (44, .aload_n 0, 1), (45, .invokevirtual 54, 3), (48, .aload_n 0, 1), (49, .invokevirtual 269, 3)]
set_option maxRecDepth 20000 in
theorem dn_162_0_0_ok : dn_162_0_0.all (fun q => decide (decode (xm_b n_162) q.1 = .ok (q.2.1, q.2.2))) = true := xa_g_ok (by decide +kernel)
def dn_162_0_1 : List (Nat × Instr × Nat) := [(52, .aload_n 0, 1), (53, .getfield 21, 3), (56, .iload_n 2, 1), (57, .iconst 0, 1), (58, .invokevirtual 198, 3), (61, .pop, 1), (62, .iinc 1 1, 3), (65, .goto (-59), 3), (68, .return_, 1)]
set_option maxRecDepth 20000 in
theorem dn_162_0_1_ok : dn_162_0_1.all (fun q => decide (decode (xm_b n_162) q.1 = .ok (q.2.1, q.2.2))) = true := xa_g_ok (by decide +kernel)
def te_162_0 : Nat → eE := (e_T 33 (e_T 13 (e_T 5 (e_T 1 (e_T 0 (e_L 0 (0, ei_load 0 2 1, 0, 0)) (e_L 1 (2, e_nof, 163, 1))) (e_T 4 (e_L 4 (0, ei_push (0, 0) 5, 0, 0)) (e_L 5 (0, ei_stor 1 0 6, 0, 0)))) (e_T 7 (e_T 6 (e_L 6 (0, ei_load 1 0 7, 0, 0)) (e_L 7 (0, ei_push (0, 4000) 10, 0, 0))) (e_T 10 (e_L 10 (0, ei_if2 3 68 13, 0, 0)) (e_L 13 (0, ei_load 0 2 14, 0, 0))))) (e_T 21 (e_T 17 (e_T 14 (e_L 14 (0, ei_getf eft elay 8 5 17, 0, 0)) (e_L 17 (0, ei_push (0, 8) 19, 0, 0))) (e_T 19 (e_L 19 (0, ei_push (0, 9) 21, 0, 0)) (e_L 21 (2, e_nof, 242, 3)))) (e_T 27 (e_T 24 (e_L 24 (0, ei_if1 0 68 27, 0, 0)) (e_L 27 (0, ei_load 0 2 28, 0, 0))) (e_T 28 (e_L 28 (0, ei_getf eft elay 8 5 31, 0, 0)) (e_T 31 (e_L 31 (0, ei_push (0, 8) 33, 0, 0)) (e_L 33 (0, ei_if2 1 41 36, 0, 0))))))) (e_T 49 (e_T 43 (e_T 38 (e_T 36 (e_L 36 (0, ei_push (0, 14) 38, 0, 0)) (e_L 38 (0, ei_goto 43, 0, 0))) (e_T 41 (e_L 41 (0, ei_push (0, 15) 43, 0, 0)) (e_L 43 (0, ei_stor 2 0 44, 0, 0)))) (e_T 45 (e_T 44 (e_L 44 (0, ei_load 0 2 45, 0, 0)) (e_L 45 (2, e_nof, 123, 1))) (e_T 48 (e_L 48 (0, ei_load 0 2 49, 0, 0)) (e_L 49 (2, e_nof, 163, 1))))) (e_T 57 (e_T 53 (e_T 52 (e_L 52 (0, ei_load 0 2 53, 0, 0)) (e_L 53 (0, ei_getf eft elay 8 3 56, 0, 0))) (e_T 56 (e_L 56 (0, ei_load 2 0 57, 0, 0)) (e_L 57 (0, ei_push (0, 0) 58, 0, 0)))) (e_T 61 (e_T 58 (e_L 58 (2, e_nof, 21, 3)) (e_L 61 (0, ei_stk ef_pop 62, 0, 0))) (e_T 62 (e_L 62 (0, ei_inc 1 1 65, 0, 0)) (e_T 65 (e_L 65 (0, ei_goto 6, 0, 0)) (e_L 68 (1, e_nof, 0, 0))))))))
set_option maxRecDepth 20000 in
set_option maxHeartbeats 4000000 in
theorem te_162_0_ok : ∀ pc, e_EOq eft cls elay eI n_162 pc (te_162_0 pc) :=
  (e_Tok2
  (e_Tok2
  (e_Tok2
  (e_Tok2
  (e_Tok2
  (e_Lok (ld_aload_n_0 (x_dk dn_162_0_0_ok 0 rfl)))
  (e_Lok (lk_8_269 ho_162 (x_dk dn_162_0_0_ok 1 rfl))))
  (e_Tok2
  (e_Lok (ps_iconst_0 (x_dk dn_162_0_0_ok 2 rfl)))
  (e_Lok (e_st (I := eI) (er_istore_n (i := 1) (x_dk dn_162_0_0_ok 3 rfl) (by decide +kernel)) nx_stor))))
  (e_Tok2
  (e_Tok2
  (e_Lok (ld_iload_n_1 (x_dk dn_162_0_0_ok 4 rfl)))
  (e_Lok (ps_sipush_4000 (x_dk dn_162_0_0_ok 5 rfl))))
  (e_Tok2
  (e_Lok (e_st (I := eI) (er_icmpge (off := 58) (tg := 68) (x_dk dn_162_0_0_ok 6 rfl) (by decide)) nx_if2))
  (e_Lok (ld_aload_n_0 (x_dk dn_162_0_0_ok 7 rfl))))))
  (e_Tok2
  (e_Tok2
  (e_Tok2
  (e_Lok (lk_8_57g ho_162 (x_dk dn_162_0_0_ok 8 rfl)))
  (e_Lok (ps_bipush_8 (x_dk dn_162_0_0_ok 9 rfl))))
  (e_Tok2
  (e_Lok (ps_bipush_9 (x_dk dn_162_0_0_ok 10 rfl)))
  (e_Lok (lk_8_201 ho_162 (x_dk dn_162_0_0_ok 11 rfl)))))
  (e_Tok2
  (e_Tok2
  (e_Lok (e_st (I := eI) (er_ifeq (off := 44) (tg := 68) (x_dk dn_162_0_0_ok 12 rfl) (by decide)) nx_if1))
  (e_Lok (ld_aload_n_0 (x_dk dn_162_0_0_ok 13 rfl))))
  (e_Tok2
  (e_Lok (lk_8_57g ho_162 (x_dk dn_162_0_0_ok 14 rfl)))
  (e_Tok2
  (e_Lok (ps_bipush_8 (x_dk dn_162_0_0_ok 15 rfl)))
  (e_Lok (e_st (I := eI) (er_icmpne (off := 8) (tg := 41) (x_dk dn_162_0_0_ok 16 rfl) (by decide)) nx_if2)))))))
  (e_Tok2
  (e_Tok2
  (e_Tok2
  (e_Tok2
  (e_Lok (ps_bipush_14 (x_dk dn_162_0_0_ok 17 rfl)))
  (e_Lok (e_st (I := eI) (er_goto (off := 5) (tg := 43) (x_dk dn_162_0_0_ok 18 rfl) (by decide)) nx_goto)))
  (e_Tok2
  (e_Lok (ps_bipush_15 (x_dk dn_162_0_0_ok 19 rfl)))
  (e_Lok (e_st (I := eI) (er_istore_n (i := 2) (x_dk dn_162_0_0_ok 20 rfl) (by decide +kernel)) nx_stor))))
  (e_Tok2
  (e_Tok2
  (e_Lok (ld_aload_n_0 (x_dk dn_162_0_0_ok 21 rfl)))
  (e_Lok (lk_8_54 ho_162 (x_dk dn_162_0_0_ok 22 rfl))))
  (e_Tok2
  (e_Lok (ld_aload_n_0 (x_dk dn_162_0_0_ok 23 rfl)))
  (e_Lok (lk_8_269 ho_162 (x_dk dn_162_0_0_ok 24 rfl))))))
  (e_Tok2
  (e_Tok2
  (e_Tok2
  (e_Lok (ld_aload_n_0 (x_dk dn_162_0_1_ok 0 rfl)))
  (e_Lok (lk_8_21g ho_162 (x_dk dn_162_0_1_ok 1 rfl))))
  (e_Tok2
  (e_Lok (ld_iload_n_2 (x_dk dn_162_0_1_ok 2 rfl)))
  (e_Lok (ps_iconst_0 (x_dk dn_162_0_1_ok 3 rfl)))))
  (e_Tok2
  (e_Tok2
  (e_Lok (lk_8_198 ho_162 (x_dk dn_162_0_1_ok 4 rfl)))
  (e_Lok (e_st (I := eI) (er_pop (x_dk dn_162_0_1_ok 5 rfl)) (nx_stk bf_pop))))
  (e_Tok2
  (e_Lok (e_st (I := eI) (er_iinc (i := 1) (n := 1) (x_dk dn_162_0_1_ok 6 rfl) (by decide +kernel) (by decide)) nx_inc))
  (e_Tok2
  (e_Lok (e_st (I := eI) (er_goto (off := (-59)) (tg := 6) (x_dk dn_162_0_1_ok 7 rfl) (by decide)) nx_goto))
  (e_Lok (e_rt (I := eI) (k := 0) ⟨(x_dk dn_162_0_1_ok 8 rfl), rfl⟩))))))))
def te_162 : Nat → eE := te_162_0
theorem te_162_ok : ∀ pc, e_EOq eft cls elay eI n_162 pc (te_162 pc) := te_162_0_ok
theorem ho_163 : (xm_y n_163).cls = "RobotCellHouse$Reader" := rfl
def dn_163_0_0 : List (Nat × Instr × Nat) := [(0, .aload_n 0, 1), (1, .invokevirtual 272, 3), (4, .iconst 0, 1), (5, .istore_n 1, 1), (6, .iload_n 1, 1), (7, .sipush 4000, 3), (10, .if_icmp .ge 52, 3), (13, .aload_n 0, 1), (14, .getfield 57, 3), (17, .bipush 10, 2), (19, .bipush 12, 2), (21, .invokestatic 201, 3), (24, .ifCond .eq 38, 3), (27, .bipush 16, 2), (29, .aload_n 0, 1), (30, .getfield 57, 3), (33, .iadd, 1), (34, .bipush 10, 2), (36, .isub, 1), (37, .istore_n 2, 1), (38, .aload_n 0, 1), (39, .invokevirtual 54, 3), (42, .aload_n 0, 1), (43, .invokevirtual 272, 3), (46, .aload_n 0, 1)]
set_option maxRecDepth 20000 in
theorem dn_163_0_0_ok : dn_163_0_0.all (fun q => decide (decode (xm_b n_163) q.1 = .ok (q.2.1, q.2.2))) = true := xa_g_ok (by decide +kernel)
def dn_163_0_1 : List (Nat × Instr × Nat) := [(47, .getfield 21, 3), (50, .iload_n 2, 1), (51, .iconst 0, 1), (52, .invokevirtual 198, 3), (55, .pop, 1), (56, .iinc 1 1, 3), (59, .goto (-53), 3), (62, .return_, 1)]
set_option maxRecDepth 20000 in
theorem dn_163_0_1_ok : dn_163_0_1.all (fun q => decide (decode (xm_b n_163) q.1 = .ok (q.2.1, q.2.2))) = true := xa_g_ok (by decide +kernel)
def te_163_0 : Nat → eE := (e_T 30 (e_T 13 (e_T 5 (e_T 1 (e_T 0 (e_L 0 (0, ei_load 0 2 1, 0, 0)) (e_L 1 (2, e_nof, 164, 1))) (e_T 4 (e_L 4 (0, ei_push (0, 0) 5, 0, 0)) (e_L 5 (0, ei_stor 1 0 6, 0, 0)))) (e_T 7 (e_T 6 (e_L 6 (0, ei_load 1 0 7, 0, 0)) (e_L 7 (0, ei_push (0, 4000) 10, 0, 0))) (e_T 10 (e_L 10 (0, ei_if2 3 62 13, 0, 0)) (e_L 13 (0, ei_load 0 2 14, 0, 0))))) (e_T 21 (e_T 17 (e_T 14 (e_L 14 (0, ei_getf eft elay 8 5 17, 0, 0)) (e_L 17 (0, ei_push (0, 10) 19, 0, 0))) (e_T 19 (e_L 19 (0, ei_push (0, 12) 21, 0, 0)) (e_L 21 (2, e_nof, 242, 3)))) (e_T 27 (e_T 24 (e_L 24 (0, ei_if1 0 62 27, 0, 0)) (e_L 27 (0, ei_push (0, 16) 29, 0, 0))) (e_T 29 (e_L 29 (0, ei_load 0 2 30, 0, 0)) (e_L 30 (0, ei_getf eft elay 8 5 33, 0, 0)))))) (e_T 43 (e_T 37 (e_T 34 (e_T 33 (e_L 33 (0, ei_bin eF_add 34, 0, 0)) (e_L 34 (0, ei_push (0, 10) 36, 0, 0))) (e_T 36 (e_L 36 (0, ei_bin eF_sub 37, 0, 0)) (e_L 37 (0, ei_stor 2 0 38, 0, 0)))) (e_T 39 (e_T 38 (e_L 38 (0, ei_load 0 2 39, 0, 0)) (e_L 39 (2, e_nof, 123, 1))) (e_T 42 (e_L 42 (0, ei_load 0 2 43, 0, 0)) (e_L 43 (2, e_nof, 164, 1))))) (e_T 51 (e_T 47 (e_T 46 (e_L 46 (0, ei_load 0 2 47, 0, 0)) (e_L 47 (0, ei_getf eft elay 8 3 50, 0, 0))) (e_T 50 (e_L 50 (0, ei_load 2 0 51, 0, 0)) (e_L 51 (0, ei_push (0, 0) 52, 0, 0)))) (e_T 55 (e_T 52 (e_L 52 (2, e_nof, 21, 3)) (e_L 55 (0, ei_stk ef_pop 56, 0, 0))) (e_T 56 (e_L 56 (0, ei_inc 1 1 59, 0, 0)) (e_T 59 (e_L 59 (0, ei_goto 6, 0, 0)) (e_L 62 (1, e_nof, 0, 0))))))))
set_option maxRecDepth 20000 in
set_option maxHeartbeats 4000000 in
theorem te_163_0_ok : ∀ pc, e_EOq eft cls elay eI n_163 pc (te_163_0 pc) :=
  (e_Tok2
  (e_Tok2
  (e_Tok2
  (e_Tok2
  (e_Tok2
  (e_Lok (ld_aload_n_0 (x_dk dn_163_0_0_ok 0 rfl)))
  (e_Lok (lk_8_272 ho_163 (x_dk dn_163_0_0_ok 1 rfl))))
  (e_Tok2
  (e_Lok (ps_iconst_0 (x_dk dn_163_0_0_ok 2 rfl)))
  (e_Lok (e_st (I := eI) (er_istore_n (i := 1) (x_dk dn_163_0_0_ok 3 rfl) (by decide +kernel)) nx_stor))))
  (e_Tok2
  (e_Tok2
  (e_Lok (ld_iload_n_1 (x_dk dn_163_0_0_ok 4 rfl)))
  (e_Lok (ps_sipush_4000 (x_dk dn_163_0_0_ok 5 rfl))))
  (e_Tok2
  (e_Lok (e_st (I := eI) (er_icmpge (off := 52) (tg := 62) (x_dk dn_163_0_0_ok 6 rfl) (by decide)) nx_if2))
  (e_Lok (ld_aload_n_0 (x_dk dn_163_0_0_ok 7 rfl))))))
  (e_Tok2
  (e_Tok2
  (e_Tok2
  (e_Lok (lk_8_57g ho_163 (x_dk dn_163_0_0_ok 8 rfl)))
  (e_Lok (ps_bipush_10 (x_dk dn_163_0_0_ok 9 rfl))))
  (e_Tok2
  (e_Lok (ps_bipush_12 (x_dk dn_163_0_0_ok 10 rfl)))
  (e_Lok (lk_8_201 ho_163 (x_dk dn_163_0_0_ok 11 rfl)))))
  (e_Tok2
  (e_Tok2
  (e_Lok (e_st (I := eI) (er_ifeq (off := 38) (tg := 62) (x_dk dn_163_0_0_ok 12 rfl) (by decide)) nx_if1))
  (e_Lok (ps_bipush_16 (x_dk dn_163_0_0_ok 13 rfl))))
  (e_Tok2
  (e_Lok (ld_aload_n_0 (x_dk dn_163_0_0_ok 14 rfl)))
  (e_Lok (lk_8_57g ho_163 (x_dk dn_163_0_0_ok 15 rfl)))))))
  (e_Tok2
  (e_Tok2
  (e_Tok2
  (e_Tok2
  (e_Lok (sm_iadd (x_dk dn_163_0_0_ok 16 rfl)))
  (e_Lok (ps_bipush_10 (x_dk dn_163_0_0_ok 17 rfl))))
  (e_Tok2
  (e_Lok (sm_isub (x_dk dn_163_0_0_ok 18 rfl)))
  (e_Lok (e_st (I := eI) (er_istore_n (i := 2) (x_dk dn_163_0_0_ok 19 rfl) (by decide +kernel)) nx_stor))))
  (e_Tok2
  (e_Tok2
  (e_Lok (ld_aload_n_0 (x_dk dn_163_0_0_ok 20 rfl)))
  (e_Lok (lk_8_54 ho_163 (x_dk dn_163_0_0_ok 21 rfl))))
  (e_Tok2
  (e_Lok (ld_aload_n_0 (x_dk dn_163_0_0_ok 22 rfl)))
  (e_Lok (lk_8_272 ho_163 (x_dk dn_163_0_0_ok 23 rfl))))))
  (e_Tok2
  (e_Tok2
  (e_Tok2
  (e_Lok (ld_aload_n_0 (x_dk dn_163_0_0_ok 24 rfl)))
  (e_Lok (lk_8_21g ho_163 (x_dk dn_163_0_1_ok 0 rfl))))
  (e_Tok2
  (e_Lok (ld_iload_n_2 (x_dk dn_163_0_1_ok 1 rfl)))
  (e_Lok (ps_iconst_0 (x_dk dn_163_0_1_ok 2 rfl)))))
  (e_Tok2
  (e_Tok2
  (e_Lok (lk_8_198 ho_163 (x_dk dn_163_0_1_ok 3 rfl)))
  (e_Lok (e_st (I := eI) (er_pop (x_dk dn_163_0_1_ok 4 rfl)) (nx_stk bf_pop))))
  (e_Tok2
  (e_Lok (e_st (I := eI) (er_iinc (i := 1) (n := 1) (x_dk dn_163_0_1_ok 5 rfl) (by decide +kernel) (by decide)) nx_inc))
  (e_Tok2
  (e_Lok (e_st (I := eI) (er_goto (off := (-53)) (tg := 6) (x_dk dn_163_0_1_ok 6 rfl) (by decide)) nx_goto))
  (e_Lok (e_rt (I := eI) (k := 0) ⟨(x_dk dn_163_0_1_ok 7 rfl), rfl⟩))))))))
def te_163 : Nat → eE := te_163_0
theorem te_163_ok : ∀ pc, e_EOq eft cls elay eI n_163 pc (te_163 pc) := te_163_0_ok
theorem ho_164 : (xm_y n_164).cls = "RobotCellHouse$Reader" := rfl
def dn_164_0_0 : List (Nat × Instr × Nat) := [(0, .aload_n 0, 1), (1, .getfield 57, 3), (4, .bipush 9, 2), (6, .if_icmp .ne 43, 3), (9, .aload_n 0, 1), (10, .invokevirtual 251, 3), (13, .ifCond .ne 4, 3), (16, .return_, 1), (17, .aload_n 0, 1), (18, .invokevirtual 54, 3), (21, .aload_n 0, 1), (22, .invokevirtual 272, 3), (25, .aload_n 0, 1), (26, .dup, 1), (27, .getfield 42, 3), (30, .iconst 1, 1), (31, .isub, 1), (32, .putfield 42, 3), (35, .aload_n 0, 1), (36, .getfield 21, 3), (39, .bipush 9, 2), (41, .iconst 0, 1), (42, .invokevirtual 198, 3), (45, .pop, 1), (46, .goto 147, 3)]
set_option maxRecDepth 20000 in
theorem dn_164_0_0_ok : dn_164_0_0.all (fun q => decide (decode (xm_b n_164) q.1 = .ok (q.2.1, q.2.2))) = true := xa_g_ok (by decide +kernel)
def dn_164_0_1 : List (Nat × Instr × Nat) := [(49, .aload_n 0, 1), (50, .getfield 57, 3), (53, .iconst 2, 1), (54, .if_icmp .ne 14, 3), (57, .aload_n 0, 1), (58, .invokevirtual 275, 3), (61, .aload_n 0, 1), (62, .invokevirtual 54, 3), (65, .goto 128, 3), (68, .aload_n 0, 1), (69, .getfield 57, 3), (72, .iconst 1, 1), (73, .if_icmp .ne 23, 3), (76, .aload_n 0, 1), (77, .getfield 21, 3), (80, .iconst 2, 1), (81, .aload_n 0, 1), (82, .invokevirtual 248, 3), (85, .invokevirtual 198, 3), (88, .pop, 1), (89, .aload_n 0, 1), (90, .invokevirtual 54, 3), (93, .goto 100, 3), (96, .aload_n 0, 1), (97, .getfield 57, 3)]
set_option maxRecDepth 20000 in
theorem dn_164_0_1_ok : dn_164_0_1.all (fun q => decide (decode (xm_b n_164) q.1 = .ok (q.2.1, q.2.2))) = true := xa_g_ok (by decide +kernel)
def dn_164_0_2 : List (Nat × Instr × Nat) := [(100, .bipush 48, 2), (102, .if_icmp .eq 12, 3), (105, .aload_n 0, 1), (106, .getfield 57, 3), (109, .bipush 49, 2), (111, .if_icmp .ne 39, 3), (114, .aload_n 0, 1), (115, .getfield 57, 3), (118, .bipush 48, 2), (120, .if_icmp .ne 7, 3), (123, .iconst 3, 1), (124, .goto 4, 3), (127, .iconst 4, 1), (128, .istore_n 1, 1), (129, .aload_n 0, 1), (130, .invokevirtual 54, 3), (133, .aload_n 0, 1), (134, .invokevirtual 278, 3), (137, .aload_n 0, 1), (138, .getfield 21, 3), (141, .iload_n 1, 1), (142, .iconst 0, 1), (143, .invokevirtual 198, 3), (146, .pop, 1), (147, .goto 46, 3)]
set_option maxRecDepth 20000 in
theorem dn_164_0_2_ok : dn_164_0_2.all (fun q => decide (decode (xm_b n_164) q.1 = .ok (q.2.1, q.2.2))) = true := xa_g_ok (by decide +kernel)
def dn_164_0_3 : List (Nat × Instr × Nat) := [(150, .aload_n 0, 1), (151, .getfield 57, 3), (154, .bipush 50, 2), (156, .bipush 53, 2), (158, .invokestatic 201, 3), (161, .ifCond .eq 28, 3), (164, .aload_n 0, 1), (165, .getfield 21, 3), (168, .iconst 5, 1), (169, .aload_n 0, 1), (170, .getfield 57, 3), (173, .iadd, 1), (174, .bipush 50, 2), (176, .isub, 1), (177, .iconst 0, 1), (178, .invokevirtual 198, 3), (181, .pop, 1), (182, .aload_n 0, 1), (183, .invokevirtual 54, 3), (186, .goto 7, 3), (189, .aload_n 0, 1), (190, .invokevirtual 278, 3), (193, .return_, 1)]
set_option maxRecDepth 20000 in
theorem dn_164_0_3_ok : dn_164_0_3.all (fun q => decide (decode (xm_b n_164) q.1 = .ok (q.2.1, q.2.2))) = true := xa_g_ok (by decide +kernel)
def te_164_0 : Nat → eE := (e_T 22 (e_T 10 (e_T 4 (e_T 0 (e_L 0 (0, ei_load 0 2 1, 0, 0)) (e_T 1 (e_L 1 (0, ei_getf eft elay 8 5 4, 0, 0)) (e_L 4 (0, ei_push (0, 9) 6, 0, 0)))) (e_T 6 (e_L 6 (0, ei_if2 1 49 9, 0, 0)) (e_T 9 (e_L 9 (0, ei_load 0 2 10, 0, 0)) (e_L 10 (2, e_nof, 132, 1))))) (e_T 17 (e_T 13 (e_L 13 (0, ei_if1 1 17 16, 0, 0)) (e_T 16 (e_L 16 (1, e_nof, 0, 0)) (e_L 17 (0, ei_load 0 2 18, 0, 0)))) (e_T 18 (e_L 18 (2, e_nof, 123, 1)) (e_T 21 (e_L 21 (0, ei_load 0 2 22, 0, 0)) (e_L 22 (2, e_nof, 164, 1)))))) (e_T 32 (e_T 27 (e_T 25 (e_L 25 (0, ei_load 0 2 26, 0, 0)) (e_T 26 (e_L 26 (0, ei_stk ef_dup 27, 0, 0)) (e_L 27 (0, ei_getf eft elay 8 11 30, 0, 0)))) (e_T 30 (e_L 30 (0, ei_push (0, 1) 31, 0, 0)) (e_T 31 (e_L 31 (0, ei_bin eF_sub 32, 0, 0)) (e_L 32 (0, ei_putf eft elay 8 11 0 35, 0, 0))))) (e_T 39 (e_T 35 (e_L 35 (0, ei_load 0 2 36, 0, 0)) (e_T 36 (e_L 36 (0, ei_getf eft elay 8 3 39, 0, 0)) (e_L 39 (0, ei_push (0, 9) 41, 0, 0)))) (e_T 41 (e_L 41 (0, ei_push (0, 0) 42, 0, 0)) (e_T 42 (e_L 42 (2, e_nof, 21, 3)) (e_L 45 (0, ei_stk ef_pop 46, 0, 0)))))))
set_option maxRecDepth 20000 in
set_option maxHeartbeats 4000000 in
theorem te_164_0_ok : ∀ pc, e_EOq eft cls elay eI n_164 pc (te_164_0 pc) :=
  (e_Tok2
  (e_Tok2
  (e_Tok2
  (e_Tok2
  (e_Lok (ld_aload_n_0 (x_dk dn_164_0_0_ok 0 rfl)))
  (e_Tok2
  (e_Lok (lk_8_57g ho_164 (x_dk dn_164_0_0_ok 1 rfl)))
  (e_Lok (ps_bipush_9 (x_dk dn_164_0_0_ok 2 rfl)))))
  (e_Tok2
  (e_Lok (e_st (I := eI) (er_icmpne (off := 43) (tg := 49) (x_dk dn_164_0_0_ok 3 rfl) (by decide)) nx_if2))
  (e_Tok2
  (e_Lok (ld_aload_n_0 (x_dk dn_164_0_0_ok 4 rfl)))
  (e_Lok (lk_8_251 ho_164 (x_dk dn_164_0_0_ok 5 rfl))))))
  (e_Tok2
  (e_Tok2
  (e_Lok (e_st (I := eI) (er_ifne (off := 4) (tg := 17) (x_dk dn_164_0_0_ok 6 rfl) (by decide)) nx_if1))
  (e_Tok2
  (e_Lok (e_rt (I := eI) (k := 0) ⟨(x_dk dn_164_0_0_ok 7 rfl), rfl⟩))
  (e_Lok (ld_aload_n_0 (x_dk dn_164_0_0_ok 8 rfl)))))
  (e_Tok2
  (e_Lok (lk_8_54 ho_164 (x_dk dn_164_0_0_ok 9 rfl)))
  (e_Tok2
  (e_Lok (ld_aload_n_0 (x_dk dn_164_0_0_ok 10 rfl)))
  (e_Lok (lk_8_272 ho_164 (x_dk dn_164_0_0_ok 11 rfl)))))))
  (e_Tok2
  (e_Tok2
  (e_Tok2
  (e_Lok (ld_aload_n_0 (x_dk dn_164_0_0_ok 12 rfl)))
  (e_Tok2
  (e_Lok (e_st (I := eI) (er_dup (x_dk dn_164_0_0_ok 13 rfl)) (nx_stk bf_dup)))
  (e_Lok (lk_8_42g ho_164 (x_dk dn_164_0_0_ok 14 rfl)))))
  (e_Tok2
  (e_Lok (ps_iconst_1 (x_dk dn_164_0_0_ok 15 rfl)))
  (e_Tok2
  (e_Lok (sm_isub (x_dk dn_164_0_0_ok 16 rfl)))
  (e_Lok (lk_8_42p ho_164 (x_dk dn_164_0_0_ok 17 rfl))))))
  (e_Tok2
  (e_Tok2
  (e_Lok (ld_aload_n_0 (x_dk dn_164_0_0_ok 18 rfl)))
  (e_Tok2
  (e_Lok (lk_8_21g ho_164 (x_dk dn_164_0_0_ok 19 rfl)))
  (e_Lok (ps_bipush_9 (x_dk dn_164_0_0_ok 20 rfl)))))
  (e_Tok2
  (e_Lok (ps_iconst_0 (x_dk dn_164_0_0_ok 21 rfl)))
  (e_Tok2
  (e_Lok (lk_8_198 ho_164 (x_dk dn_164_0_0_ok 22 rfl)))
  (e_Lok (e_st (I := eI) (er_pop (x_dk dn_164_0_0_ok 23 rfl)) (nx_stk bf_pop))))))))
def te_164_24 : Nat → eE := (e_T 69 (e_T 57 (e_T 50 (e_T 46 (e_L 46 (0, ei_goto 193, 0, 0)) (e_T 49 (e_L 49 (0, ei_load 0 2 50, 0, 0)) (e_L 50 (0, ei_getf eft elay 8 5 53, 0, 0)))) (e_T 53 (e_L 53 (0, ei_push (0, 2) 54, 0, 0)) (e_T 54 (e_L 54 (0, ei_if2 1 68 57, 0, 0)) (e_L 57 (0, ei_load 0 2 58, 0, 0))))) (e_T 62 (e_T 58 (e_L 58 (2, e_nof, 166, 1)) (e_T 61 (e_L 61 (0, ei_load 0 2 62, 0, 0)) (e_L 62 (2, e_nof, 123, 1)))) (e_T 65 (e_L 65 (0, ei_goto 193, 0, 0)) (e_T 68 (e_L 68 (0, ei_load 0 2 69, 0, 0)) (e_L 69 (0, ei_getf eft elay 8 5 72, 0, 0)))))) (e_T 81 (e_T 76 (e_T 72 (e_L 72 (0, ei_push (0, 1) 73, 0, 0)) (e_T 73 (e_L 73 (0, ei_if2 1 96 76, 0, 0)) (e_L 76 (0, ei_load 0 2 77, 0, 0)))) (e_T 77 (e_L 77 (0, ei_getf eft elay 8 3 80, 0, 0)) (e_T 80 (e_L 80 (0, ei_push (0, 2) 81, 0, 0)) (e_L 81 (0, ei_load 0 2 82, 0, 0))))) (e_T 88 (e_T 82 (e_L 82 (2, e_nof, 137, 1)) (e_T 85 (e_L 85 (2, e_nof, 21, 3)) (e_L 88 (0, ei_stk ef_pop 89, 0, 0)))) (e_T 90 (e_T 89 (e_L 89 (0, ei_load 0 2 90, 0, 0)) (e_L 90 (2, e_nof, 123, 1))) (e_T 93 (e_L 93 (0, ei_goto 193, 0, 0)) (e_L 96 (0, ei_load 0 2 97, 0, 0)))))))
set_option maxRecDepth 20000 in
set_option maxHeartbeats 4000000 in
theorem te_164_24_ok : ∀ pc, e_EOq eft cls elay eI n_164 pc (te_164_24 pc) :=
  (e_Tok2
  (e_Tok2
  (e_Tok2
  (e_Tok2
  (e_Lok (e_st (I := eI) (er_goto (off := 147) (tg := 193) (x_dk dn_164_0_0_ok 24 rfl) (by decide)) nx_goto))
  (e_Tok2
  (e_Lok (ld_aload_n_0 (x_dk dn_164_0_1_ok 0 rfl)))
  (e_Lok (lk_8_57g ho_164 (x_dk dn_164_0_1_ok 1 rfl)))))
  (e_Tok2
  (e_Lok (ps_iconst_2 (x_dk dn_164_0_1_ok 2 rfl)))
  (e_Tok2
  (e_Lok (e_st (I := eI) (er_icmpne (off := 14) (tg := 68) (x_dk dn_164_0_1_ok 3 rfl) (by decide)) nx_if2))
  (e_Lok (ld_aload_n_0 (x_dk dn_164_0_1_ok 4 rfl))))))
  (e_Tok2
  (e_Tok2
  (e_Lok (lk_8_275 ho_164 (x_dk dn_164_0_1_ok 5 rfl)))
  (e_Tok2
  (e_Lok (ld_aload_n_0 (x_dk dn_164_0_1_ok 6 rfl)))
  (e_Lok (lk_8_54 ho_164 (x_dk dn_164_0_1_ok 7 rfl)))))
  (e_Tok2
  (e_Lok (e_st (I := eI) (er_goto (off := 128) (tg := 193) (x_dk dn_164_0_1_ok 8 rfl) (by decide)) nx_goto))
  (e_Tok2
  (e_Lok (ld_aload_n_0 (x_dk dn_164_0_1_ok 9 rfl)))
  (e_Lok (lk_8_57g ho_164 (x_dk dn_164_0_1_ok 10 rfl)))))))
  (e_Tok2
  (e_Tok2
  (e_Tok2
  (e_Lok (ps_iconst_1 (x_dk dn_164_0_1_ok 11 rfl)))
  (e_Tok2
  (e_Lok (e_st (I := eI) (er_icmpne (off := 23) (tg := 96) (x_dk dn_164_0_1_ok 12 rfl) (by decide)) nx_if2))
  (e_Lok (ld_aload_n_0 (x_dk dn_164_0_1_ok 13 rfl)))))
  (e_Tok2
  (e_Lok (lk_8_21g ho_164 (x_dk dn_164_0_1_ok 14 rfl)))
  (e_Tok2
  (e_Lok (ps_iconst_2 (x_dk dn_164_0_1_ok 15 rfl)))
  (e_Lok (ld_aload_n_0 (x_dk dn_164_0_1_ok 16 rfl))))))
  (e_Tok2
  (e_Tok2
  (e_Lok (lk_8_248 ho_164 (x_dk dn_164_0_1_ok 17 rfl)))
  (e_Tok2
  (e_Lok (lk_8_198 ho_164 (x_dk dn_164_0_1_ok 18 rfl)))
  (e_Lok (e_st (I := eI) (er_pop (x_dk dn_164_0_1_ok 19 rfl)) (nx_stk bf_pop)))))
  (e_Tok2
  (e_Tok2
  (e_Lok (ld_aload_n_0 (x_dk dn_164_0_1_ok 20 rfl)))
  (e_Lok (lk_8_54 ho_164 (x_dk dn_164_0_1_ok 21 rfl))))
  (e_Tok2
  (e_Lok (e_st (I := eI) (er_goto (off := 100) (tg := 193) (x_dk dn_164_0_1_ok 22 rfl) (by decide)) nx_goto))
  (e_Lok (ld_aload_n_0 (x_dk dn_164_0_1_ok 23 rfl))))))))
def te_164_49 : Nat → eE := (e_T 123 (e_T 109 (e_T 102 (e_T 97 (e_L 97 (0, ei_getf eft elay 8 5 100, 0, 0)) (e_T 100 (e_L 100 (0, ei_push (0, 48) 102, 0, 0)) (e_L 102 (0, ei_if2 0 114 105, 0, 0)))) (e_T 105 (e_L 105 (0, ei_load 0 2 106, 0, 0)) (e_T 106 (e_L 106 (0, ei_getf eft elay 8 5 109, 0, 0)) (e_L 109 (0, ei_push (0, 49) 111, 0, 0))))) (e_T 115 (e_T 111 (e_L 111 (0, ei_if2 1 150 114, 0, 0)) (e_T 114 (e_L 114 (0, ei_load 0 2 115, 0, 0)) (e_L 115 (0, ei_getf eft elay 8 5 118, 0, 0)))) (e_T 118 (e_L 118 (0, ei_push (0, 48) 120, 0, 0)) (e_T 120 (e_L 120 (0, ei_if2 1 127 123, 0, 0)) (e_L 123 (0, ei_push (0, 3) 124, 0, 0)))))) (e_T 133 (e_T 128 (e_T 124 (e_L 124 (0, ei_goto 128, 0, 0)) (e_T 127 (e_L 127 (0, ei_push (0, 4) 128, 0, 0)) (e_L 128 (0, ei_stor 1 0 129, 0, 0)))) (e_T 129 (e_L 129 (0, ei_load 0 2 130, 0, 0)) (e_T 130 (e_L 130 (2, e_nof, 123, 1)) (e_L 133 (0, ei_load 0 2 134, 0, 0))))) (e_T 138 (e_T 134 (e_L 134 (2, e_nof, 165, 1)) (e_T 137 (e_L 137 (0, ei_load 0 2 138, 0, 0)) (e_L 138 (0, ei_getf eft elay 8 3 141, 0, 0)))) (e_T 141 (e_L 141 (0, ei_load 1 0 142, 0, 0)) (e_T 142 (e_L 142 (0, ei_push (0, 0) 143, 0, 0)) (e_L 143 (2, e_nof, 21, 3)))))))
set_option maxRecDepth 20000 in
set_option maxHeartbeats 4000000 in
theorem te_164_49_ok : ∀ pc, e_EOq eft cls elay eI n_164 pc (te_164_49 pc) :=
  (e_Tok2
  (e_Tok2
  (e_Tok2
  (e_Tok2
  (e_Lok (lk_8_57g ho_164 (x_dk dn_164_0_1_ok 24 rfl)))
  (e_Tok2
  (e_Lok (ps_bipush_48 (x_dk dn_164_0_2_ok 0 rfl)))
  (e_Lok (e_st (I := eI) (er_icmpeq (off := 12) (tg := 114) (x_dk dn_164_0_2_ok 1 rfl) (by decide)) nx_if2))))
  (e_Tok2
  (e_Lok (ld_aload_n_0 (x_dk dn_164_0_2_ok 2 rfl)))
  (e_Tok2
  (e_Lok (lk_8_57g ho_164 (x_dk dn_164_0_2_ok 3 rfl)))
  (e_Lok (ps_bipush_49 (x_dk dn_164_0_2_ok 4 rfl))))))
  (e_Tok2
  (e_Tok2
  (e_Lok (e_st (I := eI) (er_icmpne (off := 39) (tg := 150) (x_dk dn_164_0_2_ok 5 rfl) (by decide)) nx_if2))
  (e_Tok2
  (e_Lok (ld_aload_n_0 (x_dk dn_164_0_2_ok 6 rfl)))
  (e_Lok (lk_8_57g ho_164 (x_dk dn_164_0_2_ok 7 rfl)))))
  (e_Tok2
  (e_Lok (ps_bipush_48 (x_dk dn_164_0_2_ok 8 rfl)))
  (e_Tok2
  (e_Lok (e_st (I := eI) (er_icmpne (off := 7) (tg := 127) (x_dk dn_164_0_2_ok 9 rfl) (by decide)) nx_if2))
  (e_Lok (ps_iconst_3 (x_dk dn_164_0_2_ok 10 rfl)))))))
  (e_Tok2
  (e_Tok2
  (e_Tok2
  (e_Lok (e_st (I := eI) (er_goto (off := 4) (tg := 128) (x_dk dn_164_0_2_ok 11 rfl) (by decide)) nx_goto))
  (e_Tok2
  (e_Lok (ps_iconst_4 (x_dk dn_164_0_2_ok 12 rfl)))
  (e_Lok (e_st (I := eI) (er_istore_n (i := 1) (x_dk dn_164_0_2_ok 13 rfl) (by decide +kernel)) nx_stor))))
  (e_Tok2
  (e_Lok (ld_aload_n_0 (x_dk dn_164_0_2_ok 14 rfl)))
  (e_Tok2
  (e_Lok (lk_8_54 ho_164 (x_dk dn_164_0_2_ok 15 rfl)))
  (e_Lok (ld_aload_n_0 (x_dk dn_164_0_2_ok 16 rfl))))))
  (e_Tok2
  (e_Tok2
  (e_Lok (lk_8_278 ho_164 (x_dk dn_164_0_2_ok 17 rfl)))
  (e_Tok2
  (e_Lok (ld_aload_n_0 (x_dk dn_164_0_2_ok 18 rfl)))
  (e_Lok (lk_8_21g ho_164 (x_dk dn_164_0_2_ok 19 rfl)))))
  (e_Tok2
  (e_Lok (ld_iload_n_1 (x_dk dn_164_0_2_ok 20 rfl)))
  (e_Tok2
  (e_Lok (ps_iconst_0 (x_dk dn_164_0_2_ok 21 rfl)))
  (e_Lok (lk_8_198 ho_164 (x_dk dn_164_0_2_ok 22 rfl))))))))
def te_164_73 : Nat → eE := (e_T 169 (e_T 156 (e_T 150 (e_T 146 (e_L 146 (0, ei_stk ef_pop 147, 0, 0)) (e_T 147 (e_L 147 (0, ei_goto 193, 0, 0)) (e_L 150 (0, ei_load 0 2 151, 0, 0)))) (e_T 151 (e_L 151 (0, ei_getf eft elay 8 5 154, 0, 0)) (e_T 154 (e_L 154 (0, ei_push (0, 50) 156, 0, 0)) (e_L 156 (0, ei_push (0, 53) 158, 0, 0))))) (e_T 164 (e_T 158 (e_L 158 (2, e_nof, 242, 3)) (e_T 161 (e_L 161 (0, ei_if1 0 189 164, 0, 0)) (e_L 164 (0, ei_load 0 2 165, 0, 0)))) (e_T 165 (e_L 165 (0, ei_getf eft elay 8 3 168, 0, 0)) (e_T 168 (e_L 168 (0, ei_push (0, 5) 169, 0, 0)) (e_L 169 (0, ei_load 0 2 170, 0, 0)))))) (e_T 178 (e_T 174 (e_T 170 (e_L 170 (0, ei_getf eft elay 8 5 173, 0, 0)) (e_T 173 (e_L 173 (0, ei_bin eF_add 174, 0, 0)) (e_L 174 (0, ei_push (0, 50) 176, 0, 0)))) (e_T 176 (e_L 176 (0, ei_bin eF_sub 177, 0, 0)) (e_T 177 (e_L 177 (0, ei_push (0, 0) 178, 0, 0)) (e_L 178 (2, e_nof, 21, 3))))) (e_T 183 (e_T 181 (e_L 181 (0, ei_stk ef_pop 182, 0, 0)) (e_T 182 (e_L 182 (0, ei_load 0 2 183, 0, 0)) (e_L 183 (2, e_nof, 123, 1)))) (e_T 189 (e_T 186 (e_L 186 (0, ei_goto 193, 0, 0)) (e_L 189 (0, ei_load 0 2 190, 0, 0))) (e_T 190 (e_L 190 (2, e_nof, 165, 1)) (e_L 193 (1, e_nof, 0, 0)))))))
set_option maxRecDepth 20000 in
set_option maxHeartbeats 4000000 in
theorem te_164_73_ok : ∀ pc, e_EOq eft cls elay eI n_164 pc (te_164_73 pc) :=
  (e_Tok2
  (e_Tok2
  (e_Tok2
  (e_Tok2
  (e_Lok (e_st (I := eI) (er_pop (x_dk dn_164_0_2_ok 23 rfl)) (nx_stk bf_pop)))
  (e_Tok2
  (e_Lok (e_st (I := eI) (er_goto (off := 46) (tg := 193) (x_dk dn_164_0_2_ok 24 rfl) (by decide)) nx_goto))
  (e_Lok (ld_aload_n_0 (x_dk dn_164_0_3_ok 0 rfl)))))
  (e_Tok2
  (e_Lok (lk_8_57g ho_164 (x_dk dn_164_0_3_ok 1 rfl)))
  (e_Tok2
  (e_Lok (ps_bipush_50 (x_dk dn_164_0_3_ok 2 rfl)))
  (e_Lok (ps_bipush_53 (x_dk dn_164_0_3_ok 3 rfl))))))
  (e_Tok2
  (e_Tok2
  (e_Lok (lk_8_201 ho_164 (x_dk dn_164_0_3_ok 4 rfl)))
  (e_Tok2
  (e_Lok (e_st (I := eI) (er_ifeq (off := 28) (tg := 189) (x_dk dn_164_0_3_ok 5 rfl) (by decide)) nx_if1))
  (e_Lok (ld_aload_n_0 (x_dk dn_164_0_3_ok 6 rfl)))))
  (e_Tok2
  (e_Lok (lk_8_21g ho_164 (x_dk dn_164_0_3_ok 7 rfl)))
  (e_Tok2
  (e_Lok (ps_iconst_5 (x_dk dn_164_0_3_ok 8 rfl)))
  (e_Lok (ld_aload_n_0 (x_dk dn_164_0_3_ok 9 rfl)))))))
  (e_Tok2
  (e_Tok2
  (e_Tok2
  (e_Lok (lk_8_57g ho_164 (x_dk dn_164_0_3_ok 10 rfl)))
  (e_Tok2
  (e_Lok (sm_iadd (x_dk dn_164_0_3_ok 11 rfl)))
  (e_Lok (ps_bipush_50 (x_dk dn_164_0_3_ok 12 rfl)))))
  (e_Tok2
  (e_Lok (sm_isub (x_dk dn_164_0_3_ok 13 rfl)))
  (e_Tok2
  (e_Lok (ps_iconst_0 (x_dk dn_164_0_3_ok 14 rfl)))
  (e_Lok (lk_8_198 ho_164 (x_dk dn_164_0_3_ok 15 rfl))))))
  (e_Tok2
  (e_Tok2
  (e_Lok (e_st (I := eI) (er_pop (x_dk dn_164_0_3_ok 16 rfl)) (nx_stk bf_pop)))
  (e_Tok2
  (e_Lok (ld_aload_n_0 (x_dk dn_164_0_3_ok 17 rfl)))
  (e_Lok (lk_8_54 ho_164 (x_dk dn_164_0_3_ok 18 rfl)))))
  (e_Tok2
  (e_Tok2
  (e_Lok (e_st (I := eI) (er_goto (off := 7) (tg := 193) (x_dk dn_164_0_3_ok 19 rfl) (by decide)) nx_goto))
  (e_Lok (ld_aload_n_0 (x_dk dn_164_0_3_ok 20 rfl))))
  (e_Tok2
  (e_Lok (lk_8_278 ho_164 (x_dk dn_164_0_3_ok 21 rfl)))
  (e_Lok (e_rt (I := eI) (k := 0) ⟨(x_dk dn_164_0_3_ok 22 rfl), rfl⟩)))))))
def te_164 : Nat → eE := (e_T 96 (e_T 45 te_164_0 te_164_24) (e_T 143 te_164_49 te_164_73))
theorem te_164_ok : ∀ pc, e_EOq eft cls elay eI n_164 pc (te_164 pc) := (e_Tok2 ((e_Tok2 (te_164_0_ok) (te_164_24_ok))) ((e_Tok2 (te_164_49_ok) (te_164_73_ok))))
theorem ho_165 : (xm_y n_165).cls = "RobotCellHouse$Reader" := rfl
def dn_165_0_0 : List (Nat × Instr × Nat) := [(0, .aload_n 0, 1), (1, .getfield 57, 3), (4, .bipush 16, 2), (6, .if_icmp .eq 8, 3), (9, .aload_n 0, 1), (10, .invokevirtual 66, 3), (13, .return_, 1), (14, .aload_n 0, 1), (15, .invokevirtual 251, 3), (18, .ifCond .ne 4, 3), (21, .return_, 1), (22, .aload_n 0, 1), (23, .invokevirtual 54, 3), (26, .aload_n 0, 1), (27, .invokevirtual 245, 3), (30, .aload_n 0, 1), (31, .bipush 17, 2), (33, .invokevirtual 180, 3), (36, .aload_n 0, 1), (37, .dup, 1), (38, .getfield 42, 3), (41, .iconst 1, 1), (42, .isub, 1), (43, .putfield 42, 3), (46, .return_, 1)]
set_option maxRecDepth 20000 in
theorem dn_165_0_0_ok : dn_165_0_0.all (fun q => decide (decode (xm_b n_165) q.1 = .ok (q.2.1, q.2.2))) = true := xa_g_ok (by decide +kernel)
def te_165_0 : Nat → eE := (e_T 22 (e_T 10 (e_T 4 (e_T 0 (e_L 0 (0, ei_load 0 2 1, 0, 0)) (e_T 1 (e_L 1 (0, ei_getf eft elay 8 5 4, 0, 0)) (e_L 4 (0, ei_push (0, 16) 6, 0, 0)))) (e_T 6 (e_L 6 (0, ei_if2 0 14 9, 0, 0)) (e_T 9 (e_L 9 (0, ei_load 0 2 10, 0, 0)) (e_L 10 (2, e_nof, 130, 1))))) (e_T 15 (e_T 13 (e_L 13 (1, e_nof, 0, 0)) (e_T 14 (e_L 14 (0, ei_load 0 2 15, 0, 0)) (e_L 15 (2, e_nof, 132, 1)))) (e_T 18 (e_L 18 (0, ei_if1 1 22 21, 0, 0)) (e_T 21 (e_L 21 (1, e_nof, 0, 0)) (e_L 22 (0, ei_load 0 2 23, 0, 0)))))) (e_T 33 (e_T 27 (e_T 23 (e_L 23 (2, e_nof, 123, 1)) (e_T 26 (e_L 26 (0, ei_load 0 2 27, 0, 0)) (e_L 27 (2, e_nof, 158, 1)))) (e_T 30 (e_L 30 (0, ei_load 0 2 31, 0, 0)) (e_T 31 (e_L 31 (0, ei_push (0, 17) 33, 0, 0)) (e_L 33 (2, e_nof, 129, 2))))) (e_T 38 (e_T 36 (e_L 36 (0, ei_load 0 2 37, 0, 0)) (e_T 37 (e_L 37 (0, ei_stk ef_dup 38, 0, 0)) (e_L 38 (0, ei_getf eft elay 8 11 41, 0, 0)))) (e_T 42 (e_T 41 (e_L 41 (0, ei_push (0, 1) 42, 0, 0)) (e_L 42 (0, ei_bin eF_sub 43, 0, 0))) (e_T 43 (e_L 43 (0, ei_putf eft elay 8 11 0 46, 0, 0)) (e_L 46 (1, e_nof, 0, 0)))))))
set_option maxRecDepth 20000 in
set_option maxHeartbeats 4000000 in
theorem te_165_0_ok : ∀ pc, e_EOq eft cls elay eI n_165 pc (te_165_0 pc) :=
  (e_Tok2
  (e_Tok2
  (e_Tok2
  (e_Tok2
  (e_Lok (ld_aload_n_0 (x_dk dn_165_0_0_ok 0 rfl)))
  (e_Tok2
  (e_Lok (lk_8_57g ho_165 (x_dk dn_165_0_0_ok 1 rfl)))
  (e_Lok (ps_bipush_16 (x_dk dn_165_0_0_ok 2 rfl)))))
  (e_Tok2
  (e_Lok (e_st (I := eI) (er_icmpeq (off := 8) (tg := 14) (x_dk dn_165_0_0_ok 3 rfl) (by decide)) nx_if2))
  (e_Tok2
  (e_Lok (ld_aload_n_0 (x_dk dn_165_0_0_ok 4 rfl)))
  (e_Lok (lk_8_66 ho_165 (x_dk dn_165_0_0_ok 5 rfl))))))
  (e_Tok2
  (e_Tok2
  (e_Lok (e_rt (I := eI) (k := 0) ⟨(x_dk dn_165_0_0_ok 6 rfl), rfl⟩))
  (e_Tok2
  (e_Lok (ld_aload_n_0 (x_dk dn_165_0_0_ok 7 rfl)))
  (e_Lok (lk_8_251 ho_165 (x_dk dn_165_0_0_ok 8 rfl)))))
  (e_Tok2
  (e_Lok (e_st (I := eI) (er_ifne (off := 4) (tg := 22) (x_dk dn_165_0_0_ok 9 rfl) (by decide)) nx_if1))
  (e_Tok2
  (e_Lok (e_rt (I := eI) (k := 0) ⟨(x_dk dn_165_0_0_ok 10 rfl), rfl⟩))
  (e_Lok (ld_aload_n_0 (x_dk dn_165_0_0_ok 11 rfl)))))))
  (e_Tok2
  (e_Tok2
  (e_Tok2
  (e_Lok (lk_8_54 ho_165 (x_dk dn_165_0_0_ok 12 rfl)))
  (e_Tok2
  (e_Lok (ld_aload_n_0 (x_dk dn_165_0_0_ok 13 rfl)))
  (e_Lok (lk_8_245 ho_165 (x_dk dn_165_0_0_ok 14 rfl)))))
  (e_Tok2
  (e_Lok (ld_aload_n_0 (x_dk dn_165_0_0_ok 15 rfl)))
  (e_Tok2
  (e_Lok (ps_bipush_17 (x_dk dn_165_0_0_ok 16 rfl)))
  (e_Lok (lk_8_180 ho_165 (x_dk dn_165_0_0_ok 17 rfl))))))
  (e_Tok2
  (e_Tok2
  (e_Lok (ld_aload_n_0 (x_dk dn_165_0_0_ok 18 rfl)))
  (e_Tok2
  (e_Lok (e_st (I := eI) (er_dup (x_dk dn_165_0_0_ok 19 rfl)) (nx_stk bf_dup)))
  (e_Lok (lk_8_42g ho_165 (x_dk dn_165_0_0_ok 20 rfl)))))
  (e_Tok2
  (e_Tok2
  (e_Lok (ps_iconst_1 (x_dk dn_165_0_0_ok 21 rfl)))
  (e_Lok (sm_isub (x_dk dn_165_0_0_ok 22 rfl))))
  (e_Tok2
  (e_Lok (lk_8_42p ho_165 (x_dk dn_165_0_0_ok 23 rfl)))
  (e_Lok (e_rt (I := eI) (k := 0) ⟨(x_dk dn_165_0_0_ok 24 rfl), rfl⟩)))))))
def te_165 : Nat → eE := te_165_0
theorem te_165_ok : ∀ pc, e_EOq eft cls elay eI n_165 pc (te_165 pc) := te_165_0_ok
theorem ho_166 : (xm_y n_166).cls = "RobotCellHouse$Reader" := rfl
def dn_166_0_0 : List (Nat × Instr × Nat) := [(0, .aload_n 0, 1), (1, .getfield 132, 3), (4, .bipush 16, 2), (6, .ishr, 1), (7, .istore_n 1, 1), (8, .iload_n 1, 1), (9, .ifCond .ne 19, 3), (12, .aload_n 0, 1), (13, .getfield 21, 3), (16, .iconst 0, 1), (17, .aload_n 0, 1), (18, .getfield 132, 3), (21, .invokevirtual 198, 3), (24, .pop, 1), (25, .goto 30, 3), (28, .aload_n 0, 1), (29, .getfield 21, 3), (32, .iconst 0, 1), (33, .iload_n 1, 1), (34, .invokevirtual 198, 3), (37, .pop, 1), (38, .aload_n 0, 1), (39, .getfield 21, 3), (42, .iconst 1, 1), (43, .aload_n 0, 1)]
set_option maxRecDepth 20000 in
theorem dn_166_0_0_ok : dn_166_0_0.all (fun q => decide (decode (xm_b n_166) q.1 = .ok (q.2.1, q.2.2))) = true := xa_g_ok (by decide +kernel)
def dn_166_0_1 : List (Nat × Instr × Nat) := [(44, .getfield 132, 3), (47, .ldc_w 281, 3), (50, .iand, 1), (51, .invokevirtual 198, 3), (54, .pop, 1), (55, .return_, 1)]
set_option maxRecDepth 20000 in
theorem dn_166_0_1_ok : dn_166_0_1.all (fun q => decide (decode (xm_b n_166) q.1 = .ok (q.2.1, q.2.2))) = true := xa_g_ok (by decide +kernel)
def te_166_0 : Nat → eE := (e_T 25 (e_T 9 (e_T 4 (e_T 0 (e_L 0 (0, ei_load 0 2 1, 0, 0)) (e_T 1 (e_L 1 (0, ei_getf eft elay 8 8 4, 0, 0)) (e_L 4 (0, ei_push (0, 16) 6, 0, 0)))) (e_T 7 (e_T 6 (e_L 6 (0, ei_bin (eB (fun x y => x >>> (y &&& 31))) 7, 0, 0)) (e_L 7 (0, ei_stor 1 0 8, 0, 0))) (e_T 8 (e_L 8 (0, ei_load 1 0 9, 0, 0)) (e_L 9 (0, ei_if1 1 28 12, 0, 0))))) (e_T 17 (e_T 13 (e_T 12 (e_L 12 (0, ei_load 0 2 13, 0, 0)) (e_L 13 (0, ei_getf eft elay 8 3 16, 0, 0))) (e_T 16 (e_L 16 (0, ei_push (0, 0) 17, 0, 0)) (e_L 17 (0, ei_load 0 2 18, 0, 0)))) (e_T 21 (e_T 18 (e_L 18 (0, ei_getf eft elay 8 8 21, 0, 0)) (e_L 21 (2, e_nof, 21, 3))) (e_T 24 (e_L 24 (0, ei_stk ef_pop 25, 0, 0)) (e_L 25 (0, ei_goto 55, 0, 0)))))) (e_T 39 (e_T 33 (e_T 29 (e_T 28 (e_L 28 (0, ei_load 0 2 29, 0, 0)) (e_L 29 (0, ei_getf eft elay 8 3 32, 0, 0))) (e_T 32 (e_L 32 (0, ei_push (0, 0) 33, 0, 0)) (e_L 33 (0, ei_load 1 0 34, 0, 0)))) (e_T 37 (e_T 34 (e_L 34 (2, e_nof, 21, 3)) (e_L 37 (0, ei_stk ef_pop 38, 0, 0))) (e_T 38 (e_L 38 (0, ei_load 0 2 39, 0, 0)) (e_L 39 (0, ei_getf eft elay 8 3 42, 0, 0))))) (e_T 47 (e_T 43 (e_T 42 (e_L 42 (0, ei_push (0, 1) 43, 0, 0)) (e_L 43 (0, ei_load 0 2 44, 0, 0))) (e_T 44 (e_L 44 (0, ei_getf eft elay 8 8 47, 0, 0)) (e_L 47 (0, ei_push (0, 65535) 50, 0, 0)))) (e_T 51 (e_T 50 (e_L 50 (0, ei_bin (eB (fun x y => x &&& y)) 51, 0, 0)) (e_L 51 (2, e_nof, 21, 3))) (e_T 54 (e_L 54 (0, ei_stk ef_pop 55, 0, 0)) (e_L 55 (1, e_nof, 0, 0)))))))
set_option maxRecDepth 20000 in
set_option maxHeartbeats 4000000 in
theorem te_166_0_ok : ∀ pc, e_EOq eft cls elay eI n_166 pc (te_166_0 pc) :=
  (e_Tok2
  (e_Tok2
  (e_Tok2
  (e_Tok2
  (e_Lok (ld_aload_n_0 (x_dk dn_166_0_0_ok 0 rfl)))
  (e_Tok2
  (e_Lok (lk_8_132g ho_166 (x_dk dn_166_0_0_ok 1 rfl)))
  (e_Lok (ps_bipush_16 (x_dk dn_166_0_0_ok 2 rfl)))))
  (e_Tok2
  (e_Tok2
  (e_Lok (e_st (I := eI) (er_ishr (x_dk dn_166_0_0_ok 3 rfl)) nx_bin))
  (e_Lok (e_st (I := eI) (er_istore_n (i := 1) (x_dk dn_166_0_0_ok 4 rfl) (by decide +kernel)) nx_stor)))
  (e_Tok2
  (e_Lok (ld_iload_n_1 (x_dk dn_166_0_0_ok 5 rfl)))
  (e_Lok (e_st (I := eI) (er_ifne (off := 19) (tg := 28) (x_dk dn_166_0_0_ok 6 rfl) (by decide)) nx_if1)))))
  (e_Tok2
  (e_Tok2
  (e_Tok2
  (e_Lok (ld_aload_n_0 (x_dk dn_166_0_0_ok 7 rfl)))
  (e_Lok (lk_8_21g ho_166 (x_dk dn_166_0_0_ok 8 rfl))))
  (e_Tok2
  (e_Lok (ps_iconst_0 (x_dk dn_166_0_0_ok 9 rfl)))
  (e_Lok (ld_aload_n_0 (x_dk dn_166_0_0_ok 10 rfl)))))
  (e_Tok2
  (e_Tok2
  (e_Lok (lk_8_132g ho_166 (x_dk dn_166_0_0_ok 11 rfl)))
  (e_Lok (lk_8_198 ho_166 (x_dk dn_166_0_0_ok 12 rfl))))
  (e_Tok2
  (e_Lok (e_st (I := eI) (er_pop (x_dk dn_166_0_0_ok 13 rfl)) (nx_stk bf_pop)))
  (e_Lok (e_st (I := eI) (er_goto (off := 30) (tg := 55) (x_dk dn_166_0_0_ok 14 rfl) (by decide)) nx_goto))))))
  (e_Tok2
  (e_Tok2
  (e_Tok2
  (e_Tok2
  (e_Lok (ld_aload_n_0 (x_dk dn_166_0_0_ok 15 rfl)))
  (e_Lok (lk_8_21g ho_166 (x_dk dn_166_0_0_ok 16 rfl))))
  (e_Tok2
  (e_Lok (ps_iconst_0 (x_dk dn_166_0_0_ok 17 rfl)))
  (e_Lok (ld_iload_n_1 (x_dk dn_166_0_0_ok 18 rfl)))))
  (e_Tok2
  (e_Tok2
  (e_Lok (lk_8_198 ho_166 (x_dk dn_166_0_0_ok 19 rfl)))
  (e_Lok (e_st (I := eI) (er_pop (x_dk dn_166_0_0_ok 20 rfl)) (nx_stk bf_pop))))
  (e_Tok2
  (e_Lok (ld_aload_n_0 (x_dk dn_166_0_0_ok 21 rfl)))
  (e_Lok (lk_8_21g ho_166 (x_dk dn_166_0_0_ok 22 rfl))))))
  (e_Tok2
  (e_Tok2
  (e_Tok2
  (e_Lok (ps_iconst_1 (x_dk dn_166_0_0_ok 23 rfl)))
  (e_Lok (ld_aload_n_0 (x_dk dn_166_0_0_ok 24 rfl))))
  (e_Tok2
  (e_Lok (lk_8_132g ho_166 (x_dk dn_166_0_1_ok 0 rfl)))
  (e_Lok (e_st (I := eI) (er_ldcw (ix := 281) (z := 65535) (v := 65535) (x_dk dn_166_0_1_ok 1 rfl) (in_t6 (List.mem_of_getElem? (i := 89) rfl) rfl) (by decide)) (nx_push (Or.inl rfl))))))
  (e_Tok2
  (e_Tok2
  (e_Lok (e_st (I := eI) (er_iand (x_dk dn_166_0_1_ok 2 rfl)) nx_bin))
  (e_Lok (lk_8_198 ho_166 (x_dk dn_166_0_1_ok 3 rfl))))
  (e_Tok2
  (e_Lok (e_st (I := eI) (er_pop (x_dk dn_166_0_1_ok 4 rfl)) (nx_stk bf_pop)))
  (e_Lok (e_rt (I := eI) (k := 0) ⟨(x_dk dn_166_0_1_ok 5 rfl), rfl⟩)))))))
def te_166 : Nat → eE := te_166_0
theorem te_166_ok : ∀ pc, e_EOq eft cls elay eI n_166 pc (te_166 pc) := te_166_0_ok
theorem ho_167 : (xm_y n_167).cls = "RobotCellHouse$Shapes" := rfl
def dn_167_0_0 : List (Nat × Instr × Nat) := [(0, .aload_n 0, 1), (1, .getfield 45, 3), (4, .bipush 16, 2), (6, .if_icmp .lt 6, 3), (9, .bipush (-3), 2), (11, .ireturn, 1), (12, .aload_n 0, 1), (13, .getfield 9, 3), (16, .aload_n 0, 1), (17, .getfield 45, 3), (20, .iload_n 1, 1), (21, .iastore, 1), (22, .aload_n 0, 1), (23, .getfield 15, 3), (26, .aload_n 0, 1), (27, .getfield 45, 3), (30, .iload_n 2, 1), (31, .iastore, 1), (32, .aload_n 0, 1), (33, .getfield 18, 3), (36, .aload_n 0, 1), (37, .getfield 45, 3), (40, .iload_n 3, 1), (41, .iastore, 1), (42, .aload_n 0, 1)]
set_option maxRecDepth 20000 in
theorem dn_167_0_0_ok : dn_167_0_0.all (fun q => decide (decode (xm_b n_167) q.1 = .ok (q.2.1, q.2.2))) = true := xa_g_ok (by decide +kernel)
def dn_167_0_1 : List (Nat × Instr × Nat) := [(43, .getfield 21, 3), (46, .aload_n 0, 1), (47, .getfield 45, 3), (50, .iload 4, 2), (52, .iastore, 1), (53, .aload_n 0, 1), (54, .getfield 24, 3), (57, .aload_n 0, 1), (58, .getfield 45, 3), (61, .iload 5, 2), (63, .iastore, 1), (64, .aload_n 0, 1), (65, .dup, 1), (66, .getfield 45, 3), (69, .iconst 1, 1), (70, .iadd, 1), (71, .putfield 45, 3), (74, .aload_n 0, 1), (75, .getfield 45, 3), (78, .iconst 1, 1), (79, .isub, 1), (80, .ireturn, 1)]
set_option maxRecDepth 20000 in
theorem dn_167_0_1_ok : dn_167_0_1.all (fun q => decide (decode (xm_b n_167) q.1 = .ok (q.2.1, q.2.2))) = true := xa_g_ok (by decide +kernel)
def te_167_0 : Nat → eE := (e_T 20 (e_T 9 (e_T 1 (e_T 0 (e_L 0 (0, ei_load 0 2 1, 0, 0)) (e_L 1 (0, ei_getf eft elay 9 0 4, 0, 0))) (e_T 4 (e_L 4 (0, ei_push (0, 16) 6, 0, 0)) (e_T 6 (e_L 6 (0, ei_if2 2 12 9, 0, 0)) (e_L 9 (0, ei_push (0, (-3)) 11, 0, 0))))) (e_T 13 (e_T 11 (e_L 11 (1, e_nof, 1, 0)) (e_T 12 (e_L 12 (0, ei_load 0 2 13, 0, 0)) (e_L 13 (0, ei_getf eft elay 9 2 16, 0, 0)))) (e_T 16 (e_L 16 (0, ei_load 0 2 17, 0, 0)) (e_T 17 (e_L 17 (0, ei_getf eft elay 9 0 20, 0, 0)) (e_L 20 (0, ei_load 1 0 21, 0, 0)))))) (e_T 30 (e_T 23 (e_T 21 (e_L 21 (0, ei_ast elay false 22, 0, 0)) (e_T 22 (e_L 22 (0, ei_load 0 2 23, 0, 0)) (e_L 23 (0, ei_getf eft elay 9 3 26, 0, 0)))) (e_T 26 (e_L 26 (0, ei_load 0 2 27, 0, 0)) (e_T 27 (e_L 27 (0, ei_getf eft elay 9 0 30, 0, 0)) (e_L 30 (0, ei_load 2 0 31, 0, 0))))) (e_T 33 (e_T 31 (e_L 31 (0, ei_ast elay false 32, 0, 0)) (e_T 32 (e_L 32 (0, ei_load 0 2 33, 0, 0)) (e_L 33 (0, ei_getf eft elay 9 4 36, 0, 0)))) (e_T 36 (e_L 36 (0, ei_load 0 2 37, 0, 0)) (e_T 37 (e_L 37 (0, ei_getf eft elay 9 0 40, 0, 0)) (e_L 40 (0, ei_load 3 0 41, 0, 0)))))))
set_option maxRecDepth 20000 in
set_option maxHeartbeats 4000000 in
theorem te_167_0_ok : ∀ pc, e_EOq eft cls elay eI n_167 pc (te_167_0 pc) :=
  (e_Tok2
  (e_Tok2
  (e_Tok2
  (e_Tok2
  (e_Lok (ld_aload_n_0 (x_dk dn_167_0_0_ok 0 rfl)))
  (e_Lok (lk_9_45g ho_167 (x_dk dn_167_0_0_ok 1 rfl))))
  (e_Tok2
  (e_Lok (ps_bipush_16 (x_dk dn_167_0_0_ok 2 rfl)))
  (e_Tok2
  (e_Lok (e_st (I := eI) (er_icmplt (off := 6) (tg := 12) (x_dk dn_167_0_0_ok 3 rfl) (by decide)) nx_if2))
  (e_Lok (ps_bipush_m3 (x_dk dn_167_0_0_ok 4 rfl))))))
  (e_Tok2
  (e_Tok2
  (e_Lok (e_rt (I := eI) (k := 1) ⟨(x_dk dn_167_0_0_ok 5 rfl), rfl⟩))
  (e_Tok2
  (e_Lok (ld_aload_n_0 (x_dk dn_167_0_0_ok 6 rfl)))
  (e_Lok (lk_9_9g ho_167 (x_dk dn_167_0_0_ok 7 rfl)))))
  (e_Tok2
  (e_Lok (ld_aload_n_0 (x_dk dn_167_0_0_ok 8 rfl)))
  (e_Tok2
  (e_Lok (lk_9_45g ho_167 (x_dk dn_167_0_0_ok 9 rfl)))
  (e_Lok (ld_iload_n_1 (x_dk dn_167_0_0_ok 10 rfl)))))))
  (e_Tok2
  (e_Tok2
  (e_Tok2
  (e_Lok (sm_iastore (x_dk dn_167_0_0_ok 11 rfl)))
  (e_Tok2
  (e_Lok (ld_aload_n_0 (x_dk dn_167_0_0_ok 12 rfl)))
  (e_Lok (lk_9_15g ho_167 (x_dk dn_167_0_0_ok 13 rfl)))))
  (e_Tok2
  (e_Lok (ld_aload_n_0 (x_dk dn_167_0_0_ok 14 rfl)))
  (e_Tok2
  (e_Lok (lk_9_45g ho_167 (x_dk dn_167_0_0_ok 15 rfl)))
  (e_Lok (ld_iload_n_2 (x_dk dn_167_0_0_ok 16 rfl))))))
  (e_Tok2
  (e_Tok2
  (e_Lok (sm_iastore (x_dk dn_167_0_0_ok 17 rfl)))
  (e_Tok2
  (e_Lok (ld_aload_n_0 (x_dk dn_167_0_0_ok 18 rfl)))
  (e_Lok (lk_9_18g ho_167 (x_dk dn_167_0_0_ok 19 rfl)))))
  (e_Tok2
  (e_Lok (ld_aload_n_0 (x_dk dn_167_0_0_ok 20 rfl)))
  (e_Tok2
  (e_Lok (lk_9_45g ho_167 (x_dk dn_167_0_0_ok 21 rfl)))
  (e_Lok (ld_iload_n_3 (x_dk dn_167_0_0_ok 22 rfl))))))))
def te_167_23 : Nat → eE := (e_T 61 (e_T 50 (e_T 43 (e_T 41 (e_L 41 (0, ei_ast elay false 42, 0, 0)) (e_T 42 (e_L 42 (0, ei_load 0 2 43, 0, 0)) (e_L 43 (0, ei_getf eft elay 9 5 46, 0, 0)))) (e_T 46 (e_L 46 (0, ei_load 0 2 47, 0, 0)) (e_T 47 (e_L 47 (0, ei_getf eft elay 9 0 50, 0, 0)) (e_L 50 (0, ei_load 4 0 52, 0, 0))))) (e_T 54 (e_T 52 (e_L 52 (0, ei_ast elay false 53, 0, 0)) (e_T 53 (e_L 53 (0, ei_load 0 2 54, 0, 0)) (e_L 54 (0, ei_getf eft elay 9 6 57, 0, 0)))) (e_T 57 (e_L 57 (0, ei_load 0 2 58, 0, 0)) (e_T 58 (e_L 58 (0, ei_getf eft elay 9 0 61, 0, 0)) (e_L 61 (0, ei_load 5 0 63, 0, 0)))))) (e_T 70 (e_T 65 (e_T 63 (e_L 63 (0, ei_ast elay false 64, 0, 0)) (e_T 64 (e_L 64 (0, ei_load 0 2 65, 0, 0)) (e_L 65 (0, ei_stk ef_dup 66, 0, 0)))) (e_T 66 (e_L 66 (0, ei_getf eft elay 9 0 69, 0, 0)) (e_T 69 (e_L 69 (0, ei_push (0, 1) 70, 0, 0)) (e_L 70 (0, ei_bin eF_add 71, 0, 0))))) (e_T 75 (e_T 71 (e_L 71 (0, ei_putf eft elay 9 0 0 74, 0, 0)) (e_T 74 (e_L 74 (0, ei_load 0 2 75, 0, 0)) (e_L 75 (0, ei_getf eft elay 9 0 78, 0, 0)))) (e_T 78 (e_L 78 (0, ei_push (0, 1) 79, 0, 0)) (e_T 79 (e_L 79 (0, ei_bin eF_sub 80, 0, 0)) (e_L 80 (1, e_nof, 1, 0)))))))
set_option maxRecDepth 20000 in
set_option maxHeartbeats 4000000 in
theorem te_167_23_ok : ∀ pc, e_EOq eft cls elay eI n_167 pc (te_167_23 pc) :=
  (e_Tok2
  (e_Tok2
  (e_Tok2
  (e_Tok2
  (e_Lok (sm_iastore (x_dk dn_167_0_0_ok 23 rfl)))
  (e_Tok2
  (e_Lok (ld_aload_n_0 (x_dk dn_167_0_0_ok 24 rfl)))
  (e_Lok (lk_9_21g ho_167 (x_dk dn_167_0_1_ok 0 rfl)))))
  (e_Tok2
  (e_Lok (ld_aload_n_0 (x_dk dn_167_0_1_ok 1 rfl)))
  (e_Tok2
  (e_Lok (lk_9_45g ho_167 (x_dk dn_167_0_1_ok 2 rfl)))
  (e_Lok (ld_iload_4 (x_dk dn_167_0_1_ok 3 rfl))))))
  (e_Tok2
  (e_Tok2
  (e_Lok (sm_iastore (x_dk dn_167_0_1_ok 4 rfl)))
  (e_Tok2
  (e_Lok (ld_aload_n_0 (x_dk dn_167_0_1_ok 5 rfl)))
  (e_Lok (lk_9_24g ho_167 (x_dk dn_167_0_1_ok 6 rfl)))))
  (e_Tok2
  (e_Lok (ld_aload_n_0 (x_dk dn_167_0_1_ok 7 rfl)))
  (e_Tok2
  (e_Lok (lk_9_45g ho_167 (x_dk dn_167_0_1_ok 8 rfl)))
  (e_Lok (ld_iload_5 (x_dk dn_167_0_1_ok 9 rfl)))))))
  (e_Tok2
  (e_Tok2
  (e_Tok2
  (e_Lok (sm_iastore (x_dk dn_167_0_1_ok 10 rfl)))
  (e_Tok2
  (e_Lok (ld_aload_n_0 (x_dk dn_167_0_1_ok 11 rfl)))
  (e_Lok (e_st (I := eI) (er_dup (x_dk dn_167_0_1_ok 12 rfl)) (nx_stk bf_dup)))))
  (e_Tok2
  (e_Lok (lk_9_45g ho_167 (x_dk dn_167_0_1_ok 13 rfl)))
  (e_Tok2
  (e_Lok (ps_iconst_1 (x_dk dn_167_0_1_ok 14 rfl)))
  (e_Lok (sm_iadd (x_dk dn_167_0_1_ok 15 rfl))))))
  (e_Tok2
  (e_Tok2
  (e_Lok (lk_9_45p ho_167 (x_dk dn_167_0_1_ok 16 rfl)))
  (e_Tok2
  (e_Lok (ld_aload_n_0 (x_dk dn_167_0_1_ok 17 rfl)))
  (e_Lok (lk_9_45g ho_167 (x_dk dn_167_0_1_ok 18 rfl)))))
  (e_Tok2
  (e_Lok (ps_iconst_1 (x_dk dn_167_0_1_ok 19 rfl)))
  (e_Tok2
  (e_Lok (sm_isub (x_dk dn_167_0_1_ok 20 rfl)))
  (e_Lok (e_rt (I := eI) (k := 1) ⟨(x_dk dn_167_0_1_ok 21 rfl), rfl⟩)))))))
def te_167 : Nat → eE := (e_T 40 te_167_0 te_167_23)
theorem te_167_ok : ∀ pc, e_EOq eft cls elay eI n_167 pc (te_167 pc) := (e_Tok2 (te_167_0_ok) (te_167_23_ok))
theorem ho_168 : (xm_y n_168).cls = "RobotCellHouse$Shapes" := rfl
def dn_168_0_0 : List (Nat × Instr × Nat) := [(0, .aload_n 0, 1), (1, .getfield 49, 3), (4, .bipush 8, 2), (6, .if_icmp .lt 6, 3), (9, .bipush (-3), 2), (11, .ireturn, 1), (12, .aload_n 0, 1), (13, .getfield 27, 3), (16, .aload_n 0, 1), (17, .getfield 49, 3), (20, .iload_n 1, 1), (21, .iastore, 1), (22, .aload_n 0, 1), (23, .getfield 33, 3), (26, .aload_n 0, 1), (27, .getfield 49, 3), (30, .iload_n 2, 1), (31, .iastore, 1), (32, .aload_n 0, 1), (33, .getfield 36, 3), (36, .aload_n 0, 1), (37, .getfield 49, 3), (40, .iload_n 3, 1), (41, .iastore, 1), (42, .aload_n 0, 1)]
set_option maxRecDepth 20000 in
theorem dn_168_0_0_ok : dn_168_0_0.all (fun q => decide (decode (xm_b n_168) q.1 = .ok (q.2.1, q.2.2))) = true := xa_g_ok (by decide +kernel)
def dn_168_0_1 : List (Nat × Instr × Nat) := [(43, .getfield 39, 3), (46, .aload_n 0, 1), (47, .getfield 49, 3), (50, .iload_n 2, 1), (51, .iload 4, 2), (53, .iadd, 1), (54, .iastore, 1), (55, .aload_n 0, 1), (56, .getfield 42, 3), (59, .aload_n 0, 1), (60, .getfield 49, 3), (63, .iload_n 3, 1), (64, .iload 5, 2), (66, .iadd, 1), (67, .iastore, 1), (68, .aload_n 0, 1), (69, .getfield 30, 3), (72, .aload_n 0, 1), (73, .getfield 49, 3), (76, .iconst (-1), 1), (77, .iastore, 1), (78, .aload_n 0, 1), (79, .dup, 1), (80, .getfield 49, 3), (83, .iconst 1, 1)]
set_option maxRecDepth 20000 in
theorem dn_168_0_1_ok : dn_168_0_1.all (fun q => decide (decode (xm_b n_168) q.1 = .ok (q.2.1, q.2.2))) = true := xa_g_ok (by decide +kernel)
def dn_168_0_2 : List (Nat × Instr × Nat) := [(84, .iadd, 1), (85, .putfield 49, 3), (88, .aload_n 0, 1), (89, .getfield 49, 3), (92, .iconst 1, 1), (93, .isub, 1), (94, .ireturn, 1)]
set_option maxRecDepth 20000 in
theorem dn_168_0_2_ok : dn_168_0_2.all (fun q => decide (decode (xm_b n_168) q.1 = .ok (q.2.1, q.2.2))) = true := xa_g_ok (by decide +kernel)
def te_168_0 : Nat → eE := (e_T 23 (e_T 12 (e_T 4 (e_T 0 (e_L 0 (0, ei_load 0 2 1, 0, 0)) (e_T 1 (e_L 1 (0, ei_getf eft elay 9 1 4, 0, 0)) (e_L 4 (0, ei_push (0, 8) 6, 0, 0)))) (e_T 9 (e_T 6 (e_L 6 (0, ei_if2 2 12 9, 0, 0)) (e_L 9 (0, ei_push (0, (-3)) 11, 0, 0))) (e_T 11 (e_L 11 (1, e_nof, 1, 0)) (e_L 12 (0, ei_load 0 2 13, 0, 0))))) (e_T 17 (e_T 13 (e_L 13 (0, ei_getf eft elay 9 7 16, 0, 0)) (e_T 16 (e_L 16 (0, ei_load 0 2 17, 0, 0)) (e_L 17 (0, ei_getf eft elay 9 1 20, 0, 0)))) (e_T 21 (e_T 20 (e_L 20 (0, ei_load 1 0 21, 0, 0)) (e_L 21 (0, ei_ast elay false 22, 0, 0))) (e_T 22 (e_L 22 (0, ei_load 0 2 23, 0, 0)) (e_L 23 (0, ei_getf eft elay 9 9 26, 0, 0)))))) (e_T 36 (e_T 30 (e_T 26 (e_L 26 (0, ei_load 0 2 27, 0, 0)) (e_T 27 (e_L 27 (0, ei_getf eft elay 9 1 30, 0, 0)) (e_L 30 (0, ei_load 2 0 31, 0, 0)))) (e_T 32 (e_T 31 (e_L 31 (0, ei_ast elay false 32, 0, 0)) (e_L 32 (0, ei_load 0 2 33, 0, 0))) (e_T 33 (e_L 33 (0, ei_getf eft elay 9 10 36, 0, 0)) (e_L 36 (0, ei_load 0 2 37, 0, 0))))) (e_T 41 (e_T 37 (e_L 37 (0, ei_getf eft elay 9 1 40, 0, 0)) (e_T 40 (e_L 40 (0, ei_load 3 0 41, 0, 0)) (e_L 41 (0, ei_ast elay false 42, 0, 0)))) (e_T 43 (e_T 42 (e_L 42 (0, ei_load 0 2 43, 0, 0)) (e_L 43 (0, ei_getf eft elay 9 11 46, 0, 0))) (e_T 46 (e_L 46 (0, ei_load 0 2 47, 0, 0)) (e_L 47 (0, ei_getf eft elay 9 1 50, 0, 0)))))))
set_option maxRecDepth 20000 in
set_option maxHeartbeats 4000000 in
theorem te_168_0_ok : ∀ pc, e_EOq eft cls elay eI n_168 pc (te_168_0 pc) :=
  (e_Tok2
  (e_Tok2
  (e_Tok2
  (e_Tok2
  (e_Lok (ld_aload_n_0 (x_dk dn_168_0_0_ok 0 rfl)))
  (e_Tok2
  (e_Lok (lk_9_49g ho_168 (x_dk dn_168_0_0_ok 1 rfl)))
  (e_Lok (ps_bipush_8 (x_dk dn_168_0_0_ok 2 rfl)))))
  (e_Tok2
  (e_Tok2
  (e_Lok (e_st (I := eI) (er_icmplt (off := 6) (tg := 12) (x_dk dn_168_0_0_ok 3 rfl) (by decide)) nx_if2))
  (e_Lok (ps_bipush_m3 (x_dk dn_168_0_0_ok 4 rfl))))
  (e_Tok2
  (e_Lok (e_rt (I := eI) (k := 1) ⟨(x_dk dn_168_0_0_ok 5 rfl), rfl⟩))
  (e_Lok (ld_aload_n_0 (x_dk dn_168_0_0_ok 6 rfl))))))
  (e_Tok2
  (e_Tok2
  (e_Lok (lk_9_27g ho_168 (x_dk dn_168_0_0_ok 7 rfl)))
  (e_Tok2
  (e_Lok (ld_aload_n_0 (x_dk dn_168_0_0_ok 8 rfl)))
  (e_Lok (lk_9_49g ho_168 (x_dk dn_168_0_0_ok 9 rfl)))))
  (e_Tok2
  (e_Tok2
  (e_Lok (ld_iload_n_1 (x_dk dn_168_0_0_ok 10 rfl)))
  (e_Lok (sm_iastore (x_dk dn_168_0_0_ok 11 rfl))))
  (e_Tok2
  (e_Lok (ld_aload_n_0 (x_dk dn_168_0_0_ok 12 rfl)))
  (e_Lok (lk_9_33g ho_168 (x_dk dn_168_0_0_ok 13 rfl)))))))
  (e_Tok2
  (e_Tok2
  (e_Tok2
  (e_Lok (ld_aload_n_0 (x_dk dn_168_0_0_ok 14 rfl)))
  (e_Tok2
  (e_Lok (lk_9_49g ho_168 (x_dk dn_168_0_0_ok 15 rfl)))
  (e_Lok (ld_iload_n_2 (x_dk dn_168_0_0_ok 16 rfl)))))
  (e_Tok2
  (e_Tok2
  (e_Lok (sm_iastore (x_dk dn_168_0_0_ok 17 rfl)))
  (e_Lok (ld_aload_n_0 (x_dk dn_168_0_0_ok 18 rfl))))
  (e_Tok2
  (e_Lok (lk_9_36g ho_168 (x_dk dn_168_0_0_ok 19 rfl)))
  (e_Lok (ld_aload_n_0 (x_dk dn_168_0_0_ok 20 rfl))))))
  (e_Tok2
  (e_Tok2
  (e_Lok (lk_9_49g ho_168 (x_dk dn_168_0_0_ok 21 rfl)))
  (e_Tok2
  (e_Lok (ld_iload_n_3 (x_dk dn_168_0_0_ok 22 rfl)))
  (e_Lok (sm_iastore (x_dk dn_168_0_0_ok 23 rfl)))))
  (e_Tok2
  (e_Tok2
  (e_Lok (ld_aload_n_0 (x_dk dn_168_0_0_ok 24 rfl)))
  (e_Lok (lk_9_39g ho_168 (x_dk dn_168_0_1_ok 0 rfl))))
  (e_Tok2
  (e_Lok (ld_aload_n_0 (x_dk dn_168_0_1_ok 1 rfl)))
  (e_Lok (lk_9_49g ho_168 (x_dk dn_168_0_1_ok 2 rfl))))))))
def te_168_28 : Nat → eE := (e_T 69 (e_T 59 (e_T 53 (e_T 50 (e_L 50 (0, ei_load 2 0 51, 0, 0)) (e_T 51 (e_L 51 (0, ei_load 4 0 53, 0, 0)) (e_L 53 (0, ei_bin eF_add 54, 0, 0)))) (e_T 55 (e_T 54 (e_L 54 (0, ei_ast elay false 55, 0, 0)) (e_L 55 (0, ei_load 0 2 56, 0, 0))) (e_T 56 (e_L 56 (0, ei_getf eft elay 9 12 59, 0, 0)) (e_L 59 (0, ei_load 0 2 60, 0, 0))))) (e_T 64 (e_T 60 (e_L 60 (0, ei_getf eft elay 9 1 63, 0, 0)) (e_T 63 (e_L 63 (0, ei_load 3 0 64, 0, 0)) (e_L 64 (0, ei_load 5 0 66, 0, 0)))) (e_T 67 (e_T 66 (e_L 66 (0, ei_bin eF_add 67, 0, 0)) (e_L 67 (0, ei_ast elay false 68, 0, 0))) (e_T 68 (e_L 68 (0, ei_load 0 2 69, 0, 0)) (e_L 69 (0, ei_getf eft elay 9 8 72, 0, 0)))))) (e_T 80 (e_T 76 (e_T 72 (e_L 72 (0, ei_load 0 2 73, 0, 0)) (e_T 73 (e_L 73 (0, ei_getf eft elay 9 1 76, 0, 0)) (e_L 76 (0, ei_push (0, (-1)) 77, 0, 0)))) (e_T 78 (e_T 77 (e_L 77 (0, ei_ast elay false 78, 0, 0)) (e_L 78 (0, ei_load 0 2 79, 0, 0))) (e_T 79 (e_L 79 (0, ei_stk ef_dup 80, 0, 0)) (e_L 80 (0, ei_getf eft elay 9 1 83, 0, 0))))) (e_T 88 (e_T 84 (e_T 83 (e_L 83 (0, ei_push (0, 1) 84, 0, 0)) (e_L 84 (0, ei_bin eF_add 85, 0, 0))) (e_T 85 (e_L 85 (0, ei_putf eft elay 9 1 0 88, 0, 0)) (e_L 88 (0, ei_load 0 2 89, 0, 0)))) (e_T 92 (e_T 89 (e_L 89 (0, ei_getf eft elay 9 1 92, 0, 0)) (e_L 92 (0, ei_push (0, 1) 93, 0, 0))) (e_T 93 (e_L 93 (0, ei_bin eF_sub 94, 0, 0)) (e_L 94 (1, e_nof, 1, 0)))))))
set_option maxRecDepth 20000 in
set_option maxHeartbeats 4000000 in
theorem te_168_28_ok : ∀ pc, e_EOq eft cls elay eI n_168 pc (te_168_28 pc) :=
  (e_Tok2
  (e_Tok2
  (e_Tok2
  (e_Tok2
  (e_Lok (ld_iload_n_2 (x_dk dn_168_0_1_ok 3 rfl)))
  (e_Tok2
  (e_Lok (ld_iload_4 (x_dk dn_168_0_1_ok 4 rfl)))
  (e_Lok (sm_iadd (x_dk dn_168_0_1_ok 5 rfl)))))
  (e_Tok2
  (e_Tok2
  (e_Lok (sm_iastore (x_dk dn_168_0_1_ok 6 rfl)))
  (e_Lok (ld_aload_n_0 (x_dk dn_168_0_1_ok 7 rfl))))
  (e_Tok2
  (e_Lok (lk_9_42g ho_168 (x_dk dn_168_0_1_ok 8 rfl)))
  (e_Lok (ld_aload_n_0 (x_dk dn_168_0_1_ok 9 rfl))))))
  (e_Tok2
  (e_Tok2
  (e_Lok (lk_9_49g ho_168 (x_dk dn_168_0_1_ok 10 rfl)))
  (e_Tok2
  (e_Lok (ld_iload_n_3 (x_dk dn_168_0_1_ok 11 rfl)))
  (e_Lok (ld_iload_5 (x_dk dn_168_0_1_ok 12 rfl)))))
  (e_Tok2
  (e_Tok2
  (e_Lok (sm_iadd (x_dk dn_168_0_1_ok 13 rfl)))
  (e_Lok (sm_iastore (x_dk dn_168_0_1_ok 14 rfl))))
  (e_Tok2
  (e_Lok (ld_aload_n_0 (x_dk dn_168_0_1_ok 15 rfl)))
  (e_Lok (lk_9_30g ho_168 (x_dk dn_168_0_1_ok 16 rfl)))))))
  (e_Tok2
  (e_Tok2
  (e_Tok2
  (e_Lok (ld_aload_n_0 (x_dk dn_168_0_1_ok 17 rfl)))
  (e_Tok2
  (e_Lok (lk_9_49g ho_168 (x_dk dn_168_0_1_ok 18 rfl)))
  (e_Lok (ps_iconst_m1 (x_dk dn_168_0_1_ok 19 rfl)))))
  (e_Tok2
  (e_Tok2
  (e_Lok (sm_iastore (x_dk dn_168_0_1_ok 20 rfl)))
  (e_Lok (ld_aload_n_0 (x_dk dn_168_0_1_ok 21 rfl))))
  (e_Tok2
  (e_Lok (e_st (I := eI) (er_dup (x_dk dn_168_0_1_ok 22 rfl)) (nx_stk bf_dup)))
  (e_Lok (lk_9_49g ho_168 (x_dk dn_168_0_1_ok 23 rfl))))))
  (e_Tok2
  (e_Tok2
  (e_Tok2
  (e_Lok (ps_iconst_1 (x_dk dn_168_0_1_ok 24 rfl)))
  (e_Lok (sm_iadd (x_dk dn_168_0_2_ok 0 rfl))))
  (e_Tok2
  (e_Lok (lk_9_49p ho_168 (x_dk dn_168_0_2_ok 1 rfl)))
  (e_Lok (ld_aload_n_0 (x_dk dn_168_0_2_ok 2 rfl)))))
  (e_Tok2
  (e_Tok2
  (e_Lok (lk_9_49g ho_168 (x_dk dn_168_0_2_ok 3 rfl)))
  (e_Lok (ps_iconst_1 (x_dk dn_168_0_2_ok 4 rfl))))
  (e_Tok2
  (e_Lok (sm_isub (x_dk dn_168_0_2_ok 5 rfl)))
  (e_Lok (e_rt (I := eI) (k := 1) ⟨(x_dk dn_168_0_2_ok 6 rfl), rfl⟩)))))))
def te_168 : Nat → eE := (e_T 47 te_168_0 te_168_28)
theorem te_168_ok : ∀ pc, e_EOq eft cls elay eI n_168 pc (te_168 pc) := (e_Tok2 (te_168_0_ok) (te_168_28_ok))
theorem ho_169 : (xm_y n_169).cls = "RobotCellHouse$Shapes" := rfl
def dn_169_0_0 : List (Nat × Instr × Nat) := [(0, .iconst 0, 1), (1, .istore_n 2, 1), (2, .iload_n 2, 1), (3, .aload_n 0, 1), (4, .getfield 49, 3), (7, .if_icmp .ge 49, 3), (10, .aload_n 1, 1), (11, .aload_n 0, 1), (12, .getfield 27, 3), (15, .iload_n 2, 1), (16, .iaload, 1), (17, .aaload, 1), (18, .astore_n 3, 1), (19, .iconst 1, 1), (20, .istore 4, 2), (22, .iload 4, 2), (24, .aload_n 3, 1), (25, .getfield 52, 3), (28, .if_icmp .gt 22, 3), (31, .aload_n 0, 1), (32, .iload_n 2, 1), (33, .aload_n 3, 1), (34, .iload 4, 2), (36, .invokevirtual 57, 3), (39, .ifCond .eq 5, 3)]
set_option maxRecDepth 20000 in
theorem dn_169_0_0_ok : dn_169_0_0.all (fun q => decide (decode (xm_b n_169) q.1 = .ok (q.2.1, q.2.2))) = true := xa_g_ok (by decide +kernel)
def dn_169_0_1 : List (Nat × Instr × Nat) := [(42, .iload_n 2, 1), (43, .ireturn, 1), (44, .iinc 4 1, 3), (47, .goto (-25), 3), (50, .iinc 2 1, 3), (53, .goto (-51), 3), (56, .iconst (-1), 1), (57, .ireturn, 1)]
set_option maxRecDepth 20000 in
theorem dn_169_0_1_ok : dn_169_0_1.all (fun q => decide (decode (xm_b n_169) q.1 = .ok (q.2.1, q.2.2))) = true := xa_g_ok (by decide +kernel)
def te_169_0 : Nat → eE := (e_T 22 (e_T 11 (e_T 3 (e_T 1 (e_T 0 (e_L 0 (0, ei_push (0, 0) 1, 0, 0)) (e_L 1 (0, ei_stor 2 0 2, 0, 0))) (e_T 2 (e_L 2 (0, ei_load 2 0 3, 0, 0)) (e_L 3 (0, ei_load 0 2 4, 0, 0)))) (e_T 7 (e_T 4 (e_L 4 (0, ei_getf eft elay 9 1 7, 0, 0)) (e_L 7 (0, ei_if2 3 56 10, 0, 0))) (e_T 10 (e_L 10 (0, ei_load 1 2 11, 0, 0)) (e_L 11 (0, ei_load 0 2 12, 0, 0))))) (e_T 17 (e_T 15 (e_T 12 (e_L 12 (0, ei_getf eft elay 9 7 15, 0, 0)) (e_L 15 (0, ei_load 2 0 16, 0, 0))) (e_T 16 (e_L 16 (0, ei_ald elay false 17, 0, 0)) (e_L 17 (0, ei_aald elay 18, 0, 0)))) (e_T 19 (e_T 18 (e_L 18 (0, ei_stor 3 2 19, 0, 0)) (e_L 19 (0, ei_push (0, 1) 20, 0, 0))) (e_T 20 (e_L 20 (0, ei_stor 4 0 22, 0, 0)) (e_L 22 (0, ei_load 4 0 24, 0, 0)))))) (e_T 36 (e_T 31 (e_T 25 (e_T 24 (e_L 24 (0, ei_load 3 2 25, 0, 0)) (e_L 25 (0, ei_getf eft elay 0 8 28, 0, 0))) (e_T 28 (e_L 28 (0, ei_if2 4 50 31, 0, 0)) (e_L 31 (0, ei_load 0 2 32, 0, 0)))) (e_T 33 (e_T 32 (e_L 32 (0, ei_load 2 0 33, 0, 0)) (e_L 33 (0, ei_load 3 2 34, 0, 0))) (e_T 34 (e_L 34 (0, ei_load 4 0 36, 0, 0)) (e_L 36 (2, e_nof, 170, 4))))) (e_T 44 (e_T 42 (e_T 39 (e_L 39 (0, ei_if1 0 44 42, 0, 0)) (e_L 42 (0, ei_load 2 0 43, 0, 0))) (e_T 43 (e_L 43 (1, e_nof, 1, 0)) (e_L 44 (0, ei_inc 4 1 47, 0, 0)))) (e_T 50 (e_T 47 (e_L 47 (0, ei_goto 22, 0, 0)) (e_L 50 (0, ei_inc 2 1 53, 0, 0))) (e_T 53 (e_L 53 (0, ei_goto 2, 0, 0)) (e_T 56 (e_L 56 (0, ei_push (0, (-1)) 57, 0, 0)) (e_L 57 (1, e_nof, 1, 0))))))))
set_option maxRecDepth 20000 in
set_option maxHeartbeats 4000000 in
theorem te_169_0_ok : ∀ pc, e_EOq eft cls elay eI n_169 pc (te_169_0 pc) :=
  (e_Tok2
  (e_Tok2
  (e_Tok2
  (e_Tok2
  (e_Tok2
  (e_Lok (ps_iconst_0 (x_dk dn_169_0_0_ok 0 rfl)))
  (e_Lok (e_st (I := eI) (er_istore_n (i := 2) (x_dk dn_169_0_0_ok 1 rfl) (by decide +kernel)) nx_stor)))
  (e_Tok2
  (e_Lok (ld_iload_n_2 (x_dk dn_169_0_0_ok 2 rfl)))
  (e_Lok (ld_aload_n_0 (x_dk dn_169_0_0_ok 3 rfl)))))
  (e_Tok2
  (e_Tok2
  (e_Lok (lk_9_49g ho_169 (x_dk dn_169_0_0_ok 4 rfl)))
  (e_Lok (e_st (I := eI) (er_icmpge (off := 49) (tg := 56) (x_dk dn_169_0_0_ok 5 rfl) (by decide)) nx_if2)))
  (e_Tok2
  (e_Lok (ld_aload_n_1 (x_dk dn_169_0_0_ok 6 rfl)))
  (e_Lok (ld_aload_n_0 (x_dk dn_169_0_0_ok 7 rfl))))))
  (e_Tok2
  (e_Tok2
  (e_Tok2
  (e_Lok (lk_9_27g ho_169 (x_dk dn_169_0_0_ok 8 rfl)))
  (e_Lok (ld_iload_n_2 (x_dk dn_169_0_0_ok 9 rfl))))
  (e_Tok2
  (e_Lok (sm_iaload (x_dk dn_169_0_0_ok 10 rfl)))
  (e_Lok (e_st (I := eI) (er_aaload (x_dk dn_169_0_0_ok 11 rfl)) nx_aald))))
  (e_Tok2
  (e_Tok2
  (e_Lok (e_st (I := eI) (er_astore_n (i := 3) (x_dk dn_169_0_0_ok 12 rfl) (by decide +kernel)) nx_stor))
  (e_Lok (ps_iconst_1 (x_dk dn_169_0_0_ok 13 rfl))))
  (e_Tok2
  (e_Lok (e_st (I := eI) (er_istore (i := 4) (x_dk dn_169_0_0_ok 14 rfl) (by decide +kernel)) nx_stor))
  (e_Lok (ld_iload_4 (x_dk dn_169_0_0_ok 15 rfl)))))))
  (e_Tok2
  (e_Tok2
  (e_Tok2
  (e_Tok2
  (e_Lok (ld_aload_n_3 (x_dk dn_169_0_0_ok 16 rfl)))
  (e_Lok (lk_9_52g ho_169 (x_dk dn_169_0_0_ok 17 rfl))))
  (e_Tok2
  (e_Lok (e_st (I := eI) (er_icmpgt (off := 22) (tg := 50) (x_dk dn_169_0_0_ok 18 rfl) (by decide)) nx_if2))
  (e_Lok (ld_aload_n_0 (x_dk dn_169_0_0_ok 19 rfl)))))
  (e_Tok2
  (e_Tok2
  (e_Lok (ld_iload_n_2 (x_dk dn_169_0_0_ok 20 rfl)))
  (e_Lok (ld_aload_n_3 (x_dk dn_169_0_0_ok 21 rfl))))
  (e_Tok2
  (e_Lok (ld_iload_4 (x_dk dn_169_0_0_ok 22 rfl)))
  (e_Lok (lk_9_57 ho_169 (x_dk dn_169_0_0_ok 23 rfl))))))
  (e_Tok2
  (e_Tok2
  (e_Tok2
  (e_Lok (e_st (I := eI) (er_ifeq (off := 5) (tg := 44) (x_dk dn_169_0_0_ok 24 rfl) (by decide)) nx_if1))
  (e_Lok (ld_iload_n_2 (x_dk dn_169_0_1_ok 0 rfl))))
  (e_Tok2
  (e_Lok (e_rt (I := eI) (k := 1) ⟨(x_dk dn_169_0_1_ok 1 rfl), rfl⟩))
  (e_Lok (e_st (I := eI) (er_iinc (i := 4) (n := 1) (x_dk dn_169_0_1_ok 2 rfl) (by decide +kernel) (by decide)) nx_inc))))
  (e_Tok2
  (e_Tok2
  (e_Lok (e_st (I := eI) (er_goto (off := (-25)) (tg := 22) (x_dk dn_169_0_1_ok 3 rfl) (by decide)) nx_goto))
  (e_Lok (e_st (I := eI) (er_iinc (i := 2) (n := 1) (x_dk dn_169_0_1_ok 4 rfl) (by decide +kernel) (by decide)) nx_inc)))
  (e_Tok2
  (e_Lok (e_st (I := eI) (er_goto (off := (-51)) (tg := 2) (x_dk dn_169_0_1_ok 5 rfl) (by decide)) nx_goto))
  (e_Tok2
  (e_Lok (ps_iconst_m1 (x_dk dn_169_0_1_ok 6 rfl)))
  (e_Lok (e_rt (I := eI) (k := 1) ⟨(x_dk dn_169_0_1_ok 7 rfl), rfl⟩))))))))
def te_169 : Nat → eE := te_169_0
theorem te_169_ok : ∀ pc, e_EOq eft cls elay eI n_169 pc (te_169 pc) := te_169_0_ok
end
end
-- part 41al
section
noncomputable section
theorem ho_170 : (xm_y n_170).cls = "RobotCellHouse$Shapes" := rfl
def dn_170_0_0 : List (Nat × Instr × Nat) := [(0, .aload_n 2, 1), (1, .getfield 61, 3), (4, .iload_n 3, 1), (5, .iaload, 1), (6, .aload_n 0, 1), (7, .getfield 33, 3), (10, .iload_n 1, 1), (11, .iaload, 1), (12, .aload_n 0, 1), (13, .getfield 39, 3), (16, .iload_n 1, 1), (17, .iaload, 1), (18, .invokestatic 62, 3), (21, .ifCond .eq 27, 3), (24, .aload_n 2, 1), (25, .getfield 66, 3), (28, .iload_n 3, 1), (29, .iaload, 1), (30, .aload_n 0, 1), (31, .getfield 36, 3), (34, .iload_n 1, 1), (35, .iaload, 1), (36, .aload_n 0, 1), (37, .getfield 42, 3), (40, .iload_n 1, 1)]
set_option maxRecDepth 20000 in
theorem dn_170_0_0_ok : dn_170_0_0.all (fun q => decide (decode (xm_b n_170) q.1 = .ok (q.2.1, q.2.2))) = true := xa_g_ok (by decide +kernel)
def dn_170_0_1 : List (Nat × Instr × Nat) := [(41, .iaload, 1), (42, .invokestatic 62, 3), (45, .ifCond .ne 5, 3), (48, .iconst 0, 1), (49, .ireturn, 1), (50, .aload_n 0, 1), (51, .getfield 30, 3), (54, .iload_n 1, 1), (55, .iaload, 1), (56, .ifCond .ge 5, 3), (59, .iconst 1, 1), (60, .ireturn, 1), (61, .aload_n 2, 1), (62, .getfield 61, 3), (65, .iload_n 3, 1), (66, .iaload, 1), (67, .aload_n 2, 1), (68, .getfield 67, 3), (71, .iload_n 3, 1), (72, .iaload, 1), (73, .isub, 1), (74, .aload_n 2, 1), (75, .getfield 66, 3), (78, .iload_n 3, 1), (79, .iaload, 1)]
set_option maxRecDepth 20000 in
theorem dn_170_0_1_ok : dn_170_0_1.all (fun q => decide (decode (xm_b n_170) q.1 = .ok (q.2.1, q.2.2))) = true := xa_g_ok (by decide +kernel)
def dn_170_0_2 : List (Nat × Instr × Nat) := [(80, .aload_n 2, 1), (81, .getfield 70, 3), (84, .iload_n 3, 1), (85, .iaload, 1), (86, .isub, 1), (87, .invokestatic 73, 3), (90, .lstore 4, 2), (92, .lload 4, 2), (94, .aload_n 0, 1), (95, .getfield 30, 3), (98, .iload_n 1, 1), (99, .iaload, 1), (100, .i2l, 1), (101, .aload_n 0, 1), (102, .getfield 30, 3), (105, .iload_n 1, 1), (106, .iaload, 1), (107, .i2l, 1), (108, .lmul, 1), (109, .lcmp, 1), (110, .ifCond .le 7, 3), (113, .iconst 1, 1), (114, .goto 4, 3), (117, .iconst 0, 1), (118, .ireturn, 1)]
set_option maxRecDepth 20000 in
theorem dn_170_0_2_ok : dn_170_0_2.all (fun q => decide (decode (xm_b n_170) q.1 = .ok (q.2.1, q.2.2))) = true := xa_g_ok (by decide +kernel)
def te_170_0 : Nat → eE := (e_T 29 (e_T 12 (e_T 5 (e_T 1 (e_T 0 (e_L 0 (0, ei_load 2 2 1, 0, 0)) (e_L 1 (0, ei_getf eft elay 0 1 4, 0, 0))) (e_T 4 (e_L 4 (0, ei_load 3 0 5, 0, 0)) (e_L 5 (0, ei_ald elay false 6, 0, 0)))) (e_T 7 (e_T 6 (e_L 6 (0, ei_load 0 2 7, 0, 0)) (e_L 7 (0, ei_getf eft elay 9 9 10, 0, 0))) (e_T 10 (e_L 10 (0, ei_load 1 0 11, 0, 0)) (e_T 11 (e_L 11 (0, ei_ald elay false 12, 0, 0)) (e_L 12 (0, ei_load 0 2 13, 0, 0)))))) (e_T 18 (e_T 16 (e_T 13 (e_L 13 (0, ei_getf eft elay 9 11 16, 0, 0)) (e_L 16 (0, ei_load 1 0 17, 0, 0))) (e_T 17 (e_L 17 (0, ei_ald elay false 18, 0, 0)) (e_L 18 (2, e_nof, 242, 3)))) (e_T 24 (e_T 21 (e_L 21 (0, ei_if1 0 48 24, 0, 0)) (e_L 24 (0, ei_load 2 2 25, 0, 0))) (e_T 25 (e_L 25 (0, ei_getf eft elay 0 2 28, 0, 0)) (e_T 28 (e_L 28 (0, ei_load 3 0 29, 0, 0)) (e_L 29 (0, ei_ald elay false 30, 0, 0))))))) (e_T 42 (e_T 35 (e_T 31 (e_T 30 (e_L 30 (0, ei_load 0 2 31, 0, 0)) (e_L 31 (0, ei_getf eft elay 9 10 34, 0, 0))) (e_T 34 (e_L 34 (0, ei_load 1 0 35, 0, 0)) (e_L 35 (0, ei_ald elay false 36, 0, 0)))) (e_T 37 (e_T 36 (e_L 36 (0, ei_load 0 2 37, 0, 0)) (e_L 37 (0, ei_getf eft elay 9 12 40, 0, 0))) (e_T 40 (e_L 40 (0, ei_load 1 0 41, 0, 0)) (e_T 41 (e_L 41 (0, ei_ald elay false 42, 0, 0)) (e_L 42 (2, e_nof, 242, 3)))))) (e_T 51 (e_T 48 (e_T 45 (e_L 45 (0, ei_if1 1 50 48, 0, 0)) (e_L 48 (0, ei_push (0, 0) 49, 0, 0))) (e_T 49 (e_L 49 (1, e_nof, 4, 0)) (e_T 50 (e_L 50 (0, ei_load 0 2 51, 0, 0)) (e_L 51 (0, ei_getf eft elay 9 8 54, 0, 0))))) (e_T 55 (e_T 54 (e_L 54 (0, ei_load 1 0 55, 0, 0)) (e_L 55 (0, ei_ald elay false 56, 0, 0))) (e_T 56 (e_L 56 (0, ei_if1 3 61 59, 0, 0)) (e_T 59 (e_L 59 (0, ei_push (0, 1) 60, 0, 0)) (e_L 60 (1, e_nof, 4, 0))))))))
set_option maxRecDepth 20000 in
set_option maxHeartbeats 4000000 in
theorem te_170_0_ok : ∀ pc, e_EOq eft cls elay eI n_170 pc (te_170_0 pc) :=
  (e_Tok2
  (e_Tok2
  (e_Tok2
  (e_Tok2
  (e_Tok2
  (e_Lok (ld_aload_n_2 (x_dk dn_170_0_0_ok 0 rfl)))
  (e_Lok (lk_9_61g ho_170 (x_dk dn_170_0_0_ok 1 rfl))))
  (e_Tok2
  (e_Lok (ld_iload_n_3 (x_dk dn_170_0_0_ok 2 rfl)))
  (e_Lok (sm_iaload (x_dk dn_170_0_0_ok 3 rfl)))))
  (e_Tok2
  (e_Tok2
  (e_Lok (ld_aload_n_0 (x_dk dn_170_0_0_ok 4 rfl)))
  (e_Lok (lk_9_33g ho_170 (x_dk dn_170_0_0_ok 5 rfl))))
  (e_Tok2
  (e_Lok (ld_iload_n_1 (x_dk dn_170_0_0_ok 6 rfl)))
  (e_Tok2
  (e_Lok (sm_iaload (x_dk dn_170_0_0_ok 7 rfl)))
  (e_Lok (ld_aload_n_0 (x_dk dn_170_0_0_ok 8 rfl)))))))
  (e_Tok2
  (e_Tok2
  (e_Tok2
  (e_Lok (lk_9_39g ho_170 (x_dk dn_170_0_0_ok 9 rfl)))
  (e_Lok (ld_iload_n_1 (x_dk dn_170_0_0_ok 10 rfl))))
  (e_Tok2
  (e_Lok (sm_iaload (x_dk dn_170_0_0_ok 11 rfl)))
  (e_Lok (lk_9_62 ho_170 (x_dk dn_170_0_0_ok 12 rfl)))))
  (e_Tok2
  (e_Tok2
  (e_Lok (e_st (I := eI) (er_ifeq (off := 27) (tg := 48) (x_dk dn_170_0_0_ok 13 rfl) (by decide)) nx_if1))
  (e_Lok (ld_aload_n_2 (x_dk dn_170_0_0_ok 14 rfl))))
  (e_Tok2
  (e_Lok (lk_9_66g ho_170 (x_dk dn_170_0_0_ok 15 rfl)))
  (e_Tok2
  (e_Lok (ld_iload_n_3 (x_dk dn_170_0_0_ok 16 rfl)))
  (e_Lok (sm_iaload (x_dk dn_170_0_0_ok 17 rfl))))))))
  (e_Tok2
  (e_Tok2
  (e_Tok2
  (e_Tok2
  (e_Lok (ld_aload_n_0 (x_dk dn_170_0_0_ok 18 rfl)))
  (e_Lok (lk_9_36g ho_170 (x_dk dn_170_0_0_ok 19 rfl))))
  (e_Tok2
  (e_Lok (ld_iload_n_1 (x_dk dn_170_0_0_ok 20 rfl)))
  (e_Lok (sm_iaload (x_dk dn_170_0_0_ok 21 rfl)))))
  (e_Tok2
  (e_Tok2
  (e_Lok (ld_aload_n_0 (x_dk dn_170_0_0_ok 22 rfl)))
  (e_Lok (lk_9_42g ho_170 (x_dk dn_170_0_0_ok 23 rfl))))
  (e_Tok2
  (e_Lok (ld_iload_n_1 (x_dk dn_170_0_0_ok 24 rfl)))
  (e_Tok2
  (e_Lok (sm_iaload (x_dk dn_170_0_1_ok 0 rfl)))
  (e_Lok (lk_9_62 ho_170 (x_dk dn_170_0_1_ok 1 rfl)))))))
  (e_Tok2
  (e_Tok2
  (e_Tok2
  (e_Lok (e_st (I := eI) (er_ifne (off := 5) (tg := 50) (x_dk dn_170_0_1_ok 2 rfl) (by decide)) nx_if1))
  (e_Lok (ps_iconst_0 (x_dk dn_170_0_1_ok 3 rfl))))
  (e_Tok2
  (e_Lok (e_rt (I := eI) (k := 4) ⟨(x_dk dn_170_0_1_ok 4 rfl), rfl⟩))
  (e_Tok2
  (e_Lok (ld_aload_n_0 (x_dk dn_170_0_1_ok 5 rfl)))
  (e_Lok (lk_9_30g ho_170 (x_dk dn_170_0_1_ok 6 rfl))))))
  (e_Tok2
  (e_Tok2
  (e_Lok (ld_iload_n_1 (x_dk dn_170_0_1_ok 7 rfl)))
  (e_Lok (sm_iaload (x_dk dn_170_0_1_ok 8 rfl))))
  (e_Tok2
  (e_Lok (e_st (I := eI) (er_ifge (off := 5) (tg := 61) (x_dk dn_170_0_1_ok 9 rfl) (by decide)) nx_if1))
  (e_Tok2
  (e_Lok (ps_iconst_1 (x_dk dn_170_0_1_ok 10 rfl)))
  (e_Lok (e_rt (I := eI) (k := 4) ⟨(x_dk dn_170_0_1_ok 11 rfl), rfl⟩))))))))
def te_170_37 : Nat → eE := (e_T 87 (e_T 73 (e_T 66 (e_T 62 (e_T 61 (e_L 61 (0, ei_load 2 2 62, 0, 0)) (e_L 62 (0, ei_getf eft elay 0 1 65, 0, 0))) (e_T 65 (e_L 65 (0, ei_load 3 0 66, 0, 0)) (e_L 66 (0, ei_ald elay false 67, 0, 0)))) (e_T 68 (e_T 67 (e_L 67 (0, ei_load 2 2 68, 0, 0)) (e_L 68 (0, ei_getf eft elay 0 3 71, 0, 0))) (e_T 71 (e_L 71 (0, ei_load 3 0 72, 0, 0)) (e_T 72 (e_L 72 (0, ei_ald elay false 73, 0, 0)) (e_L 73 (0, ei_bin eF_sub 74, 0, 0)))))) (e_T 80 (e_T 75 (e_T 74 (e_L 74 (0, ei_load 2 2 75, 0, 0)) (e_L 75 (0, ei_getf eft elay 0 2 78, 0, 0))) (e_T 78 (e_L 78 (0, ei_load 3 0 79, 0, 0)) (e_T 79 (e_L 79 (0, ei_ald elay false 80, 0, 0)) (e_L 80 (0, ei_load 2 2 81, 0, 0))))) (e_T 84 (e_T 81 (e_L 81 (0, ei_getf eft elay 0 4 84, 0, 0)) (e_L 84 (0, ei_load 3 0 85, 0, 0))) (e_T 85 (e_L 85 (0, ei_ald elay false 86, 0, 0)) (e_T 86 (e_L 86 (0, ei_bin eF_sub 87, 0, 0)) (e_L 87 (2, e_nof, 178, 2))))))) (e_T 102 (e_T 95 (e_T 92 (e_T 90 (e_L 90 (0, ei_stor 4 1 92, 0, 0)) (e_L 92 (0, ei_load 4 1 94, 0, 0))) (e_T 94 (e_L 94 (0, ei_load 0 2 95, 0, 0)) (e_L 95 (0, ei_getf eft elay 9 8 98, 0, 0)))) (e_T 99 (e_T 98 (e_L 98 (0, ei_load 1 0 99, 0, 0)) (e_L 99 (0, ei_ald elay false 100, 0, 0))) (e_T 100 (e_L 100 (0, ei_un (fun x => (4, x)) 101, 0, 0)) (e_T 101 (e_L 101 (0, ei_load 0 2 102, 0, 0)) (e_L 102 (0, ei_getf eft elay 9 8 105, 0, 0)))))) (e_T 109 (e_T 106 (e_T 105 (e_L 105 (0, ei_load 1 0 106, 0, 0)) (e_L 106 (0, ei_ald elay false 107, 0, 0))) (e_T 107 (e_L 107 (0, ei_un (fun x => (4, x)) 108, 0, 0)) (e_T 108 (e_L 108 (0, ei_binL eG_mul 109, 0, 0)) (e_L 109 (0, ei_binL eG_cmp 110, 0, 0))))) (e_T 113 (e_T 110 (e_L 110 (0, ei_if1 5 117 113, 0, 0)) (e_L 113 (0, ei_push (0, 1) 114, 0, 0))) (e_T 114 (e_L 114 (0, ei_goto 118, 0, 0)) (e_T 117 (e_L 117 (0, ei_push (0, 0) 118, 0, 0)) (e_L 118 (1, e_nof, 4, 0))))))))
set_option maxRecDepth 20000 in
set_option maxHeartbeats 4000000 in
theorem te_170_37_ok : ∀ pc, e_EOq eft cls elay eI n_170 pc (te_170_37 pc) :=
  (e_Tok2
  (e_Tok2
  (e_Tok2
  (e_Tok2
  (e_Tok2
  (e_Lok (ld_aload_n_2 (x_dk dn_170_0_1_ok 12 rfl)))
  (e_Lok (lk_9_61g ho_170 (x_dk dn_170_0_1_ok 13 rfl))))
  (e_Tok2
  (e_Lok (ld_iload_n_3 (x_dk dn_170_0_1_ok 14 rfl)))
  (e_Lok (sm_iaload (x_dk dn_170_0_1_ok 15 rfl)))))
  (e_Tok2
  (e_Tok2
  (e_Lok (ld_aload_n_2 (x_dk dn_170_0_1_ok 16 rfl)))
  (e_Lok (lk_9_67g ho_170 (x_dk dn_170_0_1_ok 17 rfl))))
  (e_Tok2
  (e_Lok (ld_iload_n_3 (x_dk dn_170_0_1_ok 18 rfl)))
  (e_Tok2
  (e_Lok (sm_iaload (x_dk dn_170_0_1_ok 19 rfl)))
  (e_Lok (sm_isub (x_dk dn_170_0_1_ok 20 rfl)))))))
  (e_Tok2
  (e_Tok2
  (e_Tok2
  (e_Lok (ld_aload_n_2 (x_dk dn_170_0_1_ok 21 rfl)))
  (e_Lok (lk_9_66g ho_170 (x_dk dn_170_0_1_ok 22 rfl))))
  (e_Tok2
  (e_Lok (ld_iload_n_3 (x_dk dn_170_0_1_ok 23 rfl)))
  (e_Tok2
  (e_Lok (sm_iaload (x_dk dn_170_0_1_ok 24 rfl)))
  (e_Lok (ld_aload_n_2 (x_dk dn_170_0_2_ok 0 rfl))))))
  (e_Tok2
  (e_Tok2
  (e_Lok (lk_9_70g ho_170 (x_dk dn_170_0_2_ok 1 rfl)))
  (e_Lok (ld_iload_n_3 (x_dk dn_170_0_2_ok 2 rfl))))
  (e_Tok2
  (e_Lok (sm_iaload (x_dk dn_170_0_2_ok 3 rfl)))
  (e_Tok2
  (e_Lok (sm_isub (x_dk dn_170_0_2_ok 4 rfl)))
  (e_Lok (lk_9_73 ho_170 (x_dk dn_170_0_2_ok 5 rfl))))))))
  (e_Tok2
  (e_Tok2
  (e_Tok2
  (e_Tok2
  (e_Lok (e_st (I := eI) (er_lstore (i := 4) (x_dk dn_170_0_2_ok 6 rfl) (by decide +kernel)) nx_stor))
  (e_Lok (ld_lload_4 (x_dk dn_170_0_2_ok 7 rfl))))
  (e_Tok2
  (e_Lok (ld_aload_n_0 (x_dk dn_170_0_2_ok 8 rfl)))
  (e_Lok (lk_9_30g ho_170 (x_dk dn_170_0_2_ok 9 rfl)))))
  (e_Tok2
  (e_Tok2
  (e_Lok (ld_iload_n_1 (x_dk dn_170_0_2_ok 10 rfl)))
  (e_Lok (sm_iaload (x_dk dn_170_0_2_ok 11 rfl))))
  (e_Tok2
  (e_Lok (e_st (I := eI) (er_i2l (x_dk dn_170_0_2_ok 12 rfl)) (nx_un (fun _ => rfl))))
  (e_Tok2
  (e_Lok (ld_aload_n_0 (x_dk dn_170_0_2_ok 13 rfl)))
  (e_Lok (lk_9_30g ho_170 (x_dk dn_170_0_2_ok 14 rfl)))))))
  (e_Tok2
  (e_Tok2
  (e_Tok2
  (e_Lok (ld_iload_n_1 (x_dk dn_170_0_2_ok 15 rfl)))
  (e_Lok (sm_iaload (x_dk dn_170_0_2_ok 16 rfl))))
  (e_Tok2
  (e_Lok (e_st (I := eI) (er_i2l (x_dk dn_170_0_2_ok 17 rfl)) (nx_un (fun _ => rfl))))
  (e_Tok2
  (e_Lok (e_st (I := eI) (er_lmul (x_dk dn_170_0_2_ok 18 rfl)) (nx_binL bG_lmul)))
  (e_Lok (e_st (I := eI) (er_lcmp (x_dk dn_170_0_2_ok 19 rfl)) (nx_binL bG_lcmp))))))
  (e_Tok2
  (e_Tok2
  (e_Lok (e_st (I := eI) (er_ifle (off := 7) (tg := 117) (x_dk dn_170_0_2_ok 20 rfl) (by decide)) nx_if1))
  (e_Lok (ps_iconst_1 (x_dk dn_170_0_2_ok 21 rfl))))
  (e_Tok2
  (e_Lok (e_st (I := eI) (er_goto (off := 4) (tg := 118) (x_dk dn_170_0_2_ok 22 rfl) (by decide)) nx_goto))
  (e_Tok2
  (e_Lok (ps_iconst_0 (x_dk dn_170_0_2_ok 23 rfl)))
  (e_Lok (e_rt (I := eI) (k := 4) ⟨(x_dk dn_170_0_2_ok 24 rfl), rfl⟩))))))))
def te_170 : Nat → eE := (e_T 60 te_170_0 te_170_37)
theorem te_170_ok : ∀ pc, e_EOq eft cls elay eI n_170 pc (te_170 pc) := (e_Tok2 (te_170_0_ok) (te_170_37_ok))
theorem ho_171 : (xm_y n_171).cls = "RobotCellHouse$Shapes" := rfl
def dn_171_0_0 : List (Nat × Instr × Nat) := [(0, .aload_n 1, 1), (1, .iload_n 3, 1), (2, .aaload, 1), (3, .astore 6, 2), (5, .aload 6, 2), (7, .invokevirtual 77, 3), (10, .istore 7, 2), (12, .iconst 0, 1), (13, .istore 8, 2), (15, .iload 8, 2), (17, .iload 7, 2), (19, .if_icmp .ge 171, 3), (22, .aload_n 0, 1), (23, .aload 6, 2), (25, .getfield 61, 3), (28, .iload 8, 2), (30, .iaload, 1), (31, .putfield 81, 3), (34, .aload_n 0, 1), (35, .aload 6, 2), (37, .getfield 66, 3), (40, .iload 8, 2), (42, .iaload, 1), (43, .putfield 84, 3), (46, .aload_n 0, 1)]
set_option maxRecDepth 20000 in
theorem dn_171_0_0_ok : dn_171_0_0.all (fun q => decide (decode (xm_b n_171) q.1 = .ok (q.2.1, q.2.2))) = true := xa_g_ok (by decide +kernel)
def dn_171_0_1 : List (Nat × Instr × Nat) := [(47, .aload 6, 2), (49, .getfield 61, 3), (52, .iload 8, 2), (54, .iconst 1, 1), (55, .iadd, 1), (56, .iaload, 1), (57, .putfield 87, 3), (60, .aload_n 0, 1), (61, .aload 6, 2), (63, .getfield 66, 3), (66, .iload 8, 2), (68, .iconst 1, 1), (69, .iadd, 1), (70, .iaload, 1), (71, .putfield 90, 3), (74, .aload 6, 2), (76, .iload 8, 2), (78, .invokevirtual 93, 3), (81, .iload 5, 2), (83, .iadd, 1), (84, .istore 9, 2), (86, .aload_n 0, 1), (87, .aload 6, 2), (89, .iload 8, 2), (91, .iconst 2, 1)]
set_option maxRecDepth 20000 in
theorem dn_171_0_1_ok : dn_171_0_1.all (fun q => decide (decode (xm_b n_171) q.1 = .ok (q.2.1, q.2.2))) = true := xa_g_ok (by decide +kernel)
def dn_171_0_2 : List (Nat × Instr × Nat) := [(92, .iadd, 1), (93, .iload 9, 2), (95, .invokevirtual 97, 3), (98, .ifCond .eq 5, 3), (101, .iconst 1, 1), (102, .ireturn, 1), (103, .iconst 0, 1), (104, .istore 10, 2), (106, .iload 10, 2), (108, .aload_n 0, 1), (109, .getfield 45, 3), (112, .if_icmp .ge 34, 3), (115, .aload 6, 2), (117, .iload 8, 2), (119, .iload 10, 2), (121, .invokevirtual 101, 3), (124, .ifCond .ne 16, 3), (127, .aload_n 0, 1), (128, .iload 10, 2), (130, .iload 9, 2), (132, .invokevirtual 105, 3), (135, .ifCond .eq 5, 3), (138, .iconst 1, 1), (139, .ireturn, 1), (140, .iinc 10 1, 3)]
set_option maxRecDepth 20000 in
theorem dn_171_0_2_ok : dn_171_0_2.all (fun q => decide (decode (xm_b n_171) q.1 = .ok (q.2.1, q.2.2))) = true := xa_g_ok (by decide +kernel)
def dn_171_0_3 : List (Nat × Instr × Nat) := [(143, .goto (-37), 3), (146, .iload 4, 2), (148, .istore 10, 2), (150, .iload 10, 2), (152, .iload_n 2, 1), (153, .if_icmp .ge 31, 3), (156, .iload 10, 2), (158, .iload_n 3, 1), (159, .if_icmp .eq 19, 3), (162, .aload_n 0, 1), (163, .aload_n 1, 1), (164, .iload 10, 2), (166, .aaload, 1), (167, .iconst 0, 1), (168, .iload 9, 2), (170, .invokevirtual 97, 3), (173, .ifCond .eq 5, 3), (176, .iconst 1, 1), (177, .ireturn, 1), (178, .iinc 10 1, 3), (181, .goto (-31), 3), (184, .iinc 8 1, 3), (187, .goto (-172), 3), (190, .iconst 0, 1), (191, .ireturn, 1)]
set_option maxRecDepth 20000 in
theorem dn_171_0_3_ok : dn_171_0_3.all (fun q => decide (decode (xm_b n_171) q.1 = .ok (q.2.1, q.2.2))) = true := xa_g_ok (by decide +kernel)
def te_171_0 : Nat → eE := (e_T 19 (e_T 7 (e_T 2 (e_T 0 (e_L 0 (0, ei_load 1 2 1, 0, 0)) (e_T 1 (e_L 1 (0, ei_load 3 0 2, 0, 0)) (e_L 2 (0, ei_aald elay 3, 0, 0)))) (e_T 3 (e_L 3 (0, ei_stor 6 2 5, 0, 0)) (e_T 5 (e_L 5 (0, ei_load 6 2 7, 0, 0)) (e_L 7 (2, e_nof, 7, 1))))) (e_T 13 (e_T 10 (e_L 10 (0, ei_stor 7 0 12, 0, 0)) (e_T 12 (e_L 12 (0, ei_push (0, 0) 13, 0, 0)) (e_L 13 (0, ei_stor 8 0 15, 0, 0)))) (e_T 15 (e_L 15 (0, ei_load 8 0 17, 0, 0)) (e_T 17 (e_L 17 (0, ei_load 7 0 19, 0, 0)) (e_L 19 (0, ei_if2 3 190 22, 0, 0)))))) (e_T 31 (e_T 25 (e_T 22 (e_L 22 (0, ei_load 0 2 23, 0, 0)) (e_T 23 (e_L 23 (0, ei_load 6 2 25, 0, 0)) (e_L 25 (0, ei_getf eft elay 0 1 28, 0, 0)))) (e_T 28 (e_L 28 (0, ei_load 8 0 30, 0, 0)) (e_T 30 (e_L 30 (0, ei_ald elay false 31, 0, 0)) (e_L 31 (0, ei_putf eft elay 9 13 0 34, 0, 0))))) (e_T 37 (e_T 34 (e_L 34 (0, ei_load 0 2 35, 0, 0)) (e_T 35 (e_L 35 (0, ei_load 6 2 37, 0, 0)) (e_L 37 (0, ei_getf eft elay 0 2 40, 0, 0)))) (e_T 42 (e_T 40 (e_L 40 (0, ei_load 8 0 42, 0, 0)) (e_L 42 (0, ei_ald elay false 43, 0, 0))) (e_T 43 (e_L 43 (0, ei_putf eft elay 9 14 0 46, 0, 0)) (e_L 46 (0, ei_load 0 2 47, 0, 0)))))))
set_option maxRecDepth 20000 in
set_option maxHeartbeats 4000000 in
theorem te_171_0_ok : ∀ pc, e_EOq eft cls elay eI n_171 pc (te_171_0 pc) :=
  (e_Tok2
  (e_Tok2
  (e_Tok2
  (e_Tok2
  (e_Lok (ld_aload_n_1 (x_dk dn_171_0_0_ok 0 rfl)))
  (e_Tok2
  (e_Lok (ld_iload_n_3 (x_dk dn_171_0_0_ok 1 rfl)))
  (e_Lok (e_st (I := eI) (er_aaload (x_dk dn_171_0_0_ok 2 rfl)) nx_aald))))
  (e_Tok2
  (e_Lok (e_st (I := eI) (er_astore (i := 6) (x_dk dn_171_0_0_ok 3 rfl) (by decide +kernel)) nx_stor))
  (e_Tok2
  (e_Lok (ld_aload_6 (x_dk dn_171_0_0_ok 4 rfl)))
  (e_Lok (lk_9_77 ho_171 (x_dk dn_171_0_0_ok 5 rfl))))))
  (e_Tok2
  (e_Tok2
  (e_Lok (e_st (I := eI) (er_istore (i := 7) (x_dk dn_171_0_0_ok 6 rfl) (by decide +kernel)) nx_stor))
  (e_Tok2
  (e_Lok (ps_iconst_0 (x_dk dn_171_0_0_ok 7 rfl)))
  (e_Lok (e_st (I := eI) (er_istore (i := 8) (x_dk dn_171_0_0_ok 8 rfl) (by decide +kernel)) nx_stor))))
  (e_Tok2
  (e_Lok (ld_iload_8 (x_dk dn_171_0_0_ok 9 rfl)))
  (e_Tok2
  (e_Lok (ld_iload_7 (x_dk dn_171_0_0_ok 10 rfl)))
  (e_Lok (e_st (I := eI) (er_icmpge (off := 171) (tg := 190) (x_dk dn_171_0_0_ok 11 rfl) (by decide)) nx_if2))))))
  (e_Tok2
  (e_Tok2
  (e_Tok2
  (e_Lok (ld_aload_n_0 (x_dk dn_171_0_0_ok 12 rfl)))
  (e_Tok2
  (e_Lok (ld_aload_6 (x_dk dn_171_0_0_ok 13 rfl)))
  (e_Lok (lk_9_61g ho_171 (x_dk dn_171_0_0_ok 14 rfl)))))
  (e_Tok2
  (e_Lok (ld_iload_8 (x_dk dn_171_0_0_ok 15 rfl)))
  (e_Tok2
  (e_Lok (sm_iaload (x_dk dn_171_0_0_ok 16 rfl)))
  (e_Lok (lk_9_81p ho_171 (x_dk dn_171_0_0_ok 17 rfl))))))
  (e_Tok2
  (e_Tok2
  (e_Lok (ld_aload_n_0 (x_dk dn_171_0_0_ok 18 rfl)))
  (e_Tok2
  (e_Lok (ld_aload_6 (x_dk dn_171_0_0_ok 19 rfl)))
  (e_Lok (lk_9_66g ho_171 (x_dk dn_171_0_0_ok 20 rfl)))))
  (e_Tok2
  (e_Tok2
  (e_Lok (ld_iload_8 (x_dk dn_171_0_0_ok 21 rfl)))
  (e_Lok (sm_iaload (x_dk dn_171_0_0_ok 22 rfl))))
  (e_Tok2
  (e_Lok (lk_9_84p ho_171 (x_dk dn_171_0_0_ok 23 rfl)))
  (e_Lok (ld_aload_n_0 (x_dk dn_171_0_0_ok 24 rfl))))))))
def te_171_25 : Nat → eE := (e_T 68 (e_T 56 (e_T 52 (e_T 47 (e_L 47 (0, ei_load 6 2 49, 0, 0)) (e_T 49 (e_L 49 (0, ei_getf eft elay 0 1 52, 0, 0)) (e_L 52 (0, ei_load 8 0 54, 0, 0)))) (e_T 54 (e_L 54 (0, ei_push (0, 1) 55, 0, 0)) (e_T 55 (e_L 55 (0, ei_bin eF_add 56, 0, 0)) (e_L 56 (0, ei_ald elay false 57, 0, 0))))) (e_T 61 (e_T 57 (e_L 57 (0, ei_putf eft elay 9 15 0 60, 0, 0)) (e_T 60 (e_L 60 (0, ei_load 0 2 61, 0, 0)) (e_L 61 (0, ei_load 6 2 63, 0, 0)))) (e_T 63 (e_L 63 (0, ei_getf eft elay 0 2 66, 0, 0)) (e_T 66 (e_L 66 (0, ei_load 8 0 68, 0, 0)) (e_L 68 (0, ei_push (0, 1) 69, 0, 0)))))) (e_T 78 (e_T 71 (e_T 69 (e_L 69 (0, ei_bin eF_add 70, 0, 0)) (e_T 70 (e_L 70 (0, ei_ald elay false 71, 0, 0)) (e_L 71 (0, ei_putf eft elay 9 16 0 74, 0, 0)))) (e_T 74 (e_L 74 (0, ei_load 6 2 76, 0, 0)) (e_T 76 (e_L 76 (0, ei_load 8 0 78, 0, 0)) (e_L 78 (2, e_nof, 8, 2))))) (e_T 84 (e_T 81 (e_L 81 (0, ei_load 5 0 83, 0, 0)) (e_T 83 (e_L 83 (0, ei_bin eF_add 84, 0, 0)) (e_L 84 (0, ei_stor 9 0 86, 0, 0)))) (e_T 87 (e_T 86 (e_L 86 (0, ei_load 0 2 87, 0, 0)) (e_L 87 (0, ei_load 6 2 89, 0, 0))) (e_T 89 (e_L 89 (0, ei_load 8 0 91, 0, 0)) (e_L 91 (0, ei_push (0, 2) 92, 0, 0)))))))
set_option maxRecDepth 20000 in
set_option maxHeartbeats 4000000 in
theorem te_171_25_ok : ∀ pc, e_EOq eft cls elay eI n_171 pc (te_171_25 pc) :=
  (e_Tok2
  (e_Tok2
  (e_Tok2
  (e_Tok2
  (e_Lok (ld_aload_6 (x_dk dn_171_0_1_ok 0 rfl)))
  (e_Tok2
  (e_Lok (lk_9_61g ho_171 (x_dk dn_171_0_1_ok 1 rfl)))
  (e_Lok (ld_iload_8 (x_dk dn_171_0_1_ok 2 rfl)))))
  (e_Tok2
  (e_Lok (ps_iconst_1 (x_dk dn_171_0_1_ok 3 rfl)))
  (e_Tok2
  (e_Lok (sm_iadd (x_dk dn_171_0_1_ok 4 rfl)))
  (e_Lok (sm_iaload (x_dk dn_171_0_1_ok 5 rfl))))))
  (e_Tok2
  (e_Tok2
  (e_Lok (lk_9_87p ho_171 (x_dk dn_171_0_1_ok 6 rfl)))
  (e_Tok2
  (e_Lok (ld_aload_n_0 (x_dk dn_171_0_1_ok 7 rfl)))
  (e_Lok (ld_aload_6 (x_dk dn_171_0_1_ok 8 rfl)))))
  (e_Tok2
  (e_Lok (lk_9_66g ho_171 (x_dk dn_171_0_1_ok 9 rfl)))
  (e_Tok2
  (e_Lok (ld_iload_8 (x_dk dn_171_0_1_ok 10 rfl)))
  (e_Lok (ps_iconst_1 (x_dk dn_171_0_1_ok 11 rfl)))))))
  (e_Tok2
  (e_Tok2
  (e_Tok2
  (e_Lok (sm_iadd (x_dk dn_171_0_1_ok 12 rfl)))
  (e_Tok2
  (e_Lok (sm_iaload (x_dk dn_171_0_1_ok 13 rfl)))
  (e_Lok (lk_9_90p ho_171 (x_dk dn_171_0_1_ok 14 rfl)))))
  (e_Tok2
  (e_Lok (ld_aload_6 (x_dk dn_171_0_1_ok 15 rfl)))
  (e_Tok2
  (e_Lok (ld_iload_8 (x_dk dn_171_0_1_ok 16 rfl)))
  (e_Lok (lk_9_93 ho_171 (x_dk dn_171_0_1_ok 17 rfl))))))
  (e_Tok2
  (e_Tok2
  (e_Lok (ld_iload_5 (x_dk dn_171_0_1_ok 18 rfl)))
  (e_Tok2
  (e_Lok (sm_iadd (x_dk dn_171_0_1_ok 19 rfl)))
  (e_Lok (e_st (I := eI) (er_istore (i := 9) (x_dk dn_171_0_1_ok 20 rfl) (by decide +kernel)) nx_stor))))
  (e_Tok2
  (e_Tok2
  (e_Lok (ld_aload_n_0 (x_dk dn_171_0_1_ok 21 rfl)))
  (e_Lok (ld_aload_6 (x_dk dn_171_0_1_ok 22 rfl))))
  (e_Tok2
  (e_Lok (ld_iload_8 (x_dk dn_171_0_1_ok 23 rfl)))
  (e_Lok (ps_iconst_2 (x_dk dn_171_0_1_ok 24 rfl))))))))
def te_171_50 : Nat → eE := (e_T 112 (e_T 102 (e_T 95 (e_T 92 (e_L 92 (0, ei_bin eF_add 93, 0, 0)) (e_T 93 (e_L 93 (0, ei_load 9 0 95, 0, 0)) (e_L 95 (2, e_nof, 172, 4)))) (e_T 98 (e_L 98 (0, ei_if1 0 103 101, 0, 0)) (e_T 101 (e_L 101 (0, ei_push (0, 1) 102, 0, 0)) (e_L 102 (1, e_nof, 4, 0))))) (e_T 106 (e_T 103 (e_L 103 (0, ei_push (0, 0) 104, 0, 0)) (e_T 104 (e_L 104 (0, ei_stor 10 0 106, 0, 0)) (e_L 106 (0, ei_load 10 0 108, 0, 0)))) (e_T 108 (e_L 108 (0, ei_load 0 2 109, 0, 0)) (e_T 109 (e_L 109 (0, ei_getf eft elay 9 0 112, 0, 0)) (e_L 112 (0, ei_if2 3 146 115, 0, 0)))))) (e_T 127 (e_T 119 (e_T 115 (e_L 115 (0, ei_load 6 2 117, 0, 0)) (e_T 117 (e_L 117 (0, ei_load 8 0 119, 0, 0)) (e_L 119 (0, ei_load 10 0 121, 0, 0)))) (e_T 121 (e_L 121 (2, e_nof, 6, 3)) (e_T 124 (e_L 124 (0, ei_if1 1 140 127, 0, 0)) (e_L 127 (0, ei_load 0 2 128, 0, 0))))) (e_T 132 (e_T 128 (e_L 128 (0, ei_load 10 0 130, 0, 0)) (e_T 130 (e_L 130 (0, ei_load 9 0 132, 0, 0)) (e_L 132 (2, e_nof, 173, 3)))) (e_T 138 (e_T 135 (e_L 135 (0, ei_if1 0 140 138, 0, 0)) (e_L 138 (0, ei_push (0, 1) 139, 0, 0))) (e_T 139 (e_L 139 (1, e_nof, 4, 0)) (e_L 140 (0, ei_inc 10 1 143, 0, 0)))))))
set_option maxRecDepth 20000 in
set_option maxHeartbeats 4000000 in
theorem te_171_50_ok : ∀ pc, e_EOq eft cls elay eI n_171 pc (te_171_50 pc) :=
  (e_Tok2
  (e_Tok2
  (e_Tok2
  (e_Tok2
  (e_Lok (sm_iadd (x_dk dn_171_0_2_ok 0 rfl)))
  (e_Tok2
  (e_Lok (ld_iload_9 (x_dk dn_171_0_2_ok 1 rfl)))
  (e_Lok (lk_9_97 ho_171 (x_dk dn_171_0_2_ok 2 rfl)))))
  (e_Tok2
  (e_Lok (e_st (I := eI) (er_ifeq (off := 5) (tg := 103) (x_dk dn_171_0_2_ok 3 rfl) (by decide)) nx_if1))
  (e_Tok2
  (e_Lok (ps_iconst_1 (x_dk dn_171_0_2_ok 4 rfl)))
  (e_Lok (e_rt (I := eI) (k := 4) ⟨(x_dk dn_171_0_2_ok 5 rfl), rfl⟩)))))
  (e_Tok2
  (e_Tok2
  (e_Lok (ps_iconst_0 (x_dk dn_171_0_2_ok 6 rfl)))
  (e_Tok2
  (e_Lok (e_st (I := eI) (er_istore (i := 10) (x_dk dn_171_0_2_ok 7 rfl) (by decide +kernel)) nx_stor))
  (e_Lok (ld_iload_10 (x_dk dn_171_0_2_ok 8 rfl)))))
  (e_Tok2
  (e_Lok (ld_aload_n_0 (x_dk dn_171_0_2_ok 9 rfl)))
  (e_Tok2
  (e_Lok (lk_9_45g ho_171 (x_dk dn_171_0_2_ok 10 rfl)))
  (e_Lok (e_st (I := eI) (er_icmpge (off := 34) (tg := 146) (x_dk dn_171_0_2_ok 11 rfl) (by decide)) nx_if2))))))
  (e_Tok2
  (e_Tok2
  (e_Tok2
  (e_Lok (ld_aload_6 (x_dk dn_171_0_2_ok 12 rfl)))
  (e_Tok2
  (e_Lok (ld_iload_8 (x_dk dn_171_0_2_ok 13 rfl)))
  (e_Lok (ld_iload_10 (x_dk dn_171_0_2_ok 14 rfl)))))
  (e_Tok2
  (e_Lok (lk_9_101 ho_171 (x_dk dn_171_0_2_ok 15 rfl)))
  (e_Tok2
  (e_Lok (e_st (I := eI) (er_ifne (off := 16) (tg := 140) (x_dk dn_171_0_2_ok 16 rfl) (by decide)) nx_if1))
  (e_Lok (ld_aload_n_0 (x_dk dn_171_0_2_ok 17 rfl))))))
  (e_Tok2
  (e_Tok2
  (e_Lok (ld_iload_10 (x_dk dn_171_0_2_ok 18 rfl)))
  (e_Tok2
  (e_Lok (ld_iload_9 (x_dk dn_171_0_2_ok 19 rfl)))
  (e_Lok (lk_9_105 ho_171 (x_dk dn_171_0_2_ok 20 rfl)))))
  (e_Tok2
  (e_Tok2
  (e_Lok (e_st (I := eI) (er_ifeq (off := 5) (tg := 140) (x_dk dn_171_0_2_ok 21 rfl) (by decide)) nx_if1))
  (e_Lok (ps_iconst_1 (x_dk dn_171_0_2_ok 22 rfl))))
  (e_Tok2
  (e_Lok (e_rt (I := eI) (k := 4) ⟨(x_dk dn_171_0_2_ok 23 rfl), rfl⟩))
  (e_Lok (e_st (I := eI) (er_iinc (i := 10) (n := 1) (x_dk dn_171_0_2_ok 24 rfl) (by decide +kernel) (by decide)) nx_inc)))))))
def te_171_75 : Nat → eE := (e_T 164 (e_T 153 (e_T 148 (e_T 143 (e_L 143 (0, ei_goto 106, 0, 0)) (e_T 146 (e_L 146 (0, ei_load 4 0 148, 0, 0)) (e_L 148 (0, ei_stor 10 0 150, 0, 0)))) (e_T 150 (e_L 150 (0, ei_load 10 0 152, 0, 0)) (e_T 152 (e_L 152 (0, ei_load 2 0 153, 0, 0)) (e_L 153 (0, ei_if2 3 184 156, 0, 0))))) (e_T 159 (e_T 156 (e_L 156 (0, ei_load 10 0 158, 0, 0)) (e_T 158 (e_L 158 (0, ei_load 3 0 159, 0, 0)) (e_L 159 (0, ei_if2 0 178 162, 0, 0)))) (e_T 162 (e_L 162 (0, ei_load 0 2 163, 0, 0)) (e_T 163 (e_L 163 (0, ei_load 1 2 164, 0, 0)) (e_L 164 (0, ei_load 10 0 166, 0, 0)))))) (e_T 176 (e_T 168 (e_T 166 (e_L 166 (0, ei_aald elay 167, 0, 0)) (e_T 167 (e_L 167 (0, ei_push (0, 0) 168, 0, 0)) (e_L 168 (0, ei_load 9 0 170, 0, 0)))) (e_T 170 (e_L 170 (2, e_nof, 172, 4)) (e_T 173 (e_L 173 (0, ei_if1 0 178 176, 0, 0)) (e_L 176 (0, ei_push (0, 1) 177, 0, 0))))) (e_T 181 (e_T 177 (e_L 177 (1, e_nof, 4, 0)) (e_T 178 (e_L 178 (0, ei_inc 10 1 181, 0, 0)) (e_L 181 (0, ei_goto 150, 0, 0)))) (e_T 187 (e_T 184 (e_L 184 (0, ei_inc 8 1 187, 0, 0)) (e_L 187 (0, ei_goto 15, 0, 0))) (e_T 190 (e_L 190 (0, ei_push (0, 0) 191, 0, 0)) (e_L 191 (1, e_nof, 4, 0)))))))
set_option maxRecDepth 20000 in
set_option maxHeartbeats 4000000 in
theorem te_171_75_ok : ∀ pc, e_EOq eft cls elay eI n_171 pc (te_171_75 pc) :=
  (e_Tok2
  (e_Tok2
  (e_Tok2
  (e_Tok2
  (e_Lok (e_st (I := eI) (er_goto (off := (-37)) (tg := 106) (x_dk dn_171_0_3_ok 0 rfl) (by decide)) nx_goto))
  (e_Tok2
  (e_Lok (ld_iload_4 (x_dk dn_171_0_3_ok 1 rfl)))
  (e_Lok (e_st (I := eI) (er_istore (i := 10) (x_dk dn_171_0_3_ok 2 rfl) (by decide +kernel)) nx_stor))))
  (e_Tok2
  (e_Lok (ld_iload_10 (x_dk dn_171_0_3_ok 3 rfl)))
  (e_Tok2
  (e_Lok (ld_iload_n_2 (x_dk dn_171_0_3_ok 4 rfl)))
  (e_Lok (e_st (I := eI) (er_icmpge (off := 31) (tg := 184) (x_dk dn_171_0_3_ok 5 rfl) (by decide)) nx_if2)))))
  (e_Tok2
  (e_Tok2
  (e_Lok (ld_iload_10 (x_dk dn_171_0_3_ok 6 rfl)))
  (e_Tok2
  (e_Lok (ld_iload_n_3 (x_dk dn_171_0_3_ok 7 rfl)))
  (e_Lok (e_st (I := eI) (er_icmpeq (off := 19) (tg := 178) (x_dk dn_171_0_3_ok 8 rfl) (by decide)) nx_if2))))
  (e_Tok2
  (e_Lok (ld_aload_n_0 (x_dk dn_171_0_3_ok 9 rfl)))
  (e_Tok2
  (e_Lok (ld_aload_n_1 (x_dk dn_171_0_3_ok 10 rfl)))
  (e_Lok (ld_iload_10 (x_dk dn_171_0_3_ok 11 rfl)))))))
  (e_Tok2
  (e_Tok2
  (e_Tok2
  (e_Lok (e_st (I := eI) (er_aaload (x_dk dn_171_0_3_ok 12 rfl)) nx_aald))
  (e_Tok2
  (e_Lok (ps_iconst_0 (x_dk dn_171_0_3_ok 13 rfl)))
  (e_Lok (ld_iload_9 (x_dk dn_171_0_3_ok 14 rfl)))))
  (e_Tok2
  (e_Lok (lk_9_97 ho_171 (x_dk dn_171_0_3_ok 15 rfl)))
  (e_Tok2
  (e_Lok (e_st (I := eI) (er_ifeq (off := 5) (tg := 178) (x_dk dn_171_0_3_ok 16 rfl) (by decide)) nx_if1))
  (e_Lok (ps_iconst_1 (x_dk dn_171_0_3_ok 17 rfl))))))
  (e_Tok2
  (e_Tok2
  (e_Lok (e_rt (I := eI) (k := 4) ⟨(x_dk dn_171_0_3_ok 18 rfl), rfl⟩))
  (e_Tok2
  (e_Lok (e_st (I := eI) (er_iinc (i := 10) (n := 1) (x_dk dn_171_0_3_ok 19 rfl) (by decide +kernel) (by decide)) nx_inc))
  (e_Lok (e_st (I := eI) (er_goto (off := (-31)) (tg := 150) (x_dk dn_171_0_3_ok 20 rfl) (by decide)) nx_goto))))
  (e_Tok2
  (e_Tok2
  (e_Lok (e_st (I := eI) (er_iinc (i := 8) (n := 1) (x_dk dn_171_0_3_ok 21 rfl) (by decide +kernel) (by decide)) nx_inc))
  (e_Lok (e_st (I := eI) (er_goto (off := (-172)) (tg := 15) (x_dk dn_171_0_3_ok 22 rfl) (by decide)) nx_goto)))
  (e_Tok2
  (e_Lok (ps_iconst_0 (x_dk dn_171_0_3_ok 23 rfl)))
  (e_Lok (e_rt (I := eI) (k := 4) ⟨(x_dk dn_171_0_3_ok 24 rfl), rfl⟩)))))))
def te_171 : Nat → eE := (e_T 91 (e_T 46 te_171_0 te_171_25) (e_T 140 te_171_50 te_171_75))
theorem te_171_ok : ∀ pc, e_EOq eft cls elay eI n_171 pc (te_171 pc) := (e_Tok2 ((e_Tok2 (te_171_0_ok) (te_171_25_ok))) ((e_Tok2 (te_171_50_ok) (te_171_75_ok))))
theorem ho_172 : (xm_y n_172).cls = "RobotCellHouse$Shapes" := rfl
def dn_172_0_0 : List (Nat × Instr × Nat) := [(0, .iload_n 2, 1), (1, .istore 4, 2), (3, .iload 4, 2), (5, .aload_n 1, 1), (6, .invokevirtual 77, 3), (9, .if_icmp .ge 62, 3), (12, .iload_n 3, 1), (13, .aload_n 1, 1), (14, .iload 4, 2), (16, .invokevirtual 93, 3), (19, .iadd, 1), (20, .istore 5, 2), (22, .aload_n 0, 1), (23, .aload_n 1, 1), (24, .getfield 61, 3), (27, .iload 4, 2), (29, .iaload, 1), (30, .aload_n 1, 1), (31, .getfield 66, 3), (34, .iload 4, 2), (36, .iaload, 1), (37, .aload_n 1, 1), (38, .getfield 61, 3), (41, .iload 4, 2), (43, .iconst 1, 1)]
set_option maxRecDepth 20000 in
theorem dn_172_0_0_ok : dn_172_0_0.all (fun q => decide (decode (xm_b n_172) q.1 = .ok (q.2.1, q.2.2))) = true := xa_g_ok (by decide +kernel)
def dn_172_0_1 : List (Nat × Instr × Nat) := [(44, .iadd, 1), (45, .iaload, 1), (46, .aload_n 1, 1), (47, .getfield 66, 3), (50, .iload 4, 2), (52, .iconst 1, 1), (53, .iadd, 1), (54, .iaload, 1), (55, .iload 5, 2), (57, .invokevirtual 108, 3), (60, .ifCond .eq 5, 3), (63, .iconst 1, 1), (64, .ireturn, 1), (65, .iinc 4 1, 3), (68, .goto (-65), 3), (71, .iconst 0, 1), (72, .ireturn, 1)]
set_option maxRecDepth 20000 in
theorem dn_172_0_1_ok : dn_172_0_1.all (fun q => decide (decode (xm_b n_172) q.1 = .ok (q.2.1, q.2.2))) = true := xa_g_ok (by decide +kernel)
def te_172_0 : Nat → eE := (e_T 16 (e_T 6 (e_T 1 (e_T 0 (e_L 0 (0, ei_load 2 0 1, 0, 0)) (e_L 1 (0, ei_stor 4 0 3, 0, 0))) (e_T 3 (e_L 3 (0, ei_load 4 0 5, 0, 0)) (e_T 5 (e_L 5 (0, ei_load 1 2 6, 0, 0)) (e_L 6 (2, e_nof, 7, 1))))) (e_T 12 (e_T 9 (e_L 9 (0, ei_if2 3 71 12, 0, 0)) (e_L 12 (0, ei_load 3 0 13, 0, 0))) (e_T 13 (e_L 13 (0, ei_load 1 2 14, 0, 0)) (e_T 14 (e_L 14 (0, ei_load 4 0 16, 0, 0)) (e_L 16 (2, e_nof, 8, 2)))))) (e_T 24 (e_T 20 (e_T 19 (e_L 19 (0, ei_bin eF_add 20, 0, 0)) (e_L 20 (0, ei_stor 5 0 22, 0, 0))) (e_T 22 (e_L 22 (0, ei_load 0 2 23, 0, 0)) (e_T 23 (e_L 23 (0, ei_load 1 2 24, 0, 0)) (e_L 24 (0, ei_getf eft elay 0 1 27, 0, 0))))) (e_T 30 (e_T 27 (e_L 27 (0, ei_load 4 0 29, 0, 0)) (e_T 29 (e_L 29 (0, ei_ald elay false 30, 0, 0)) (e_L 30 (0, ei_load 1 2 31, 0, 0)))) (e_T 31 (e_L 31 (0, ei_getf eft elay 0 2 34, 0, 0)) (e_T 34 (e_L 34 (0, ei_load 4 0 36, 0, 0)) (e_L 36 (0, ei_ald elay false 37, 0, 0)))))))
set_option maxRecDepth 20000 in
set_option maxHeartbeats 4000000 in
theorem te_172_0_ok : ∀ pc, e_EOq eft cls elay eI n_172 pc (te_172_0 pc) :=
  (e_Tok2
  (e_Tok2
  (e_Tok2
  (e_Tok2
  (e_Lok (ld_iload_n_2 (x_dk dn_172_0_0_ok 0 rfl)))
  (e_Lok (e_st (I := eI) (er_istore (i := 4) (x_dk dn_172_0_0_ok 1 rfl) (by decide +kernel)) nx_stor)))
  (e_Tok2
  (e_Lok (ld_iload_4 (x_dk dn_172_0_0_ok 2 rfl)))
  (e_Tok2
  (e_Lok (ld_aload_n_1 (x_dk dn_172_0_0_ok 3 rfl)))
  (e_Lok (lk_9_77 ho_172 (x_dk dn_172_0_0_ok 4 rfl))))))
  (e_Tok2
  (e_Tok2
  (e_Lok (e_st (I := eI) (er_icmpge (off := 62) (tg := 71) (x_dk dn_172_0_0_ok 5 rfl) (by decide)) nx_if2))
  (e_Lok (ld_iload_n_3 (x_dk dn_172_0_0_ok 6 rfl))))
  (e_Tok2
  (e_Lok (ld_aload_n_1 (x_dk dn_172_0_0_ok 7 rfl)))
  (e_Tok2
  (e_Lok (ld_iload_4 (x_dk dn_172_0_0_ok 8 rfl)))
  (e_Lok (lk_9_93 ho_172 (x_dk dn_172_0_0_ok 9 rfl)))))))
  (e_Tok2
  (e_Tok2
  (e_Tok2
  (e_Lok (sm_iadd (x_dk dn_172_0_0_ok 10 rfl)))
  (e_Lok (e_st (I := eI) (er_istore (i := 5) (x_dk dn_172_0_0_ok 11 rfl) (by decide +kernel)) nx_stor)))
  (e_Tok2
  (e_Lok (ld_aload_n_0 (x_dk dn_172_0_0_ok 12 rfl)))
  (e_Tok2
  (e_Lok (ld_aload_n_1 (x_dk dn_172_0_0_ok 13 rfl)))
  (e_Lok (lk_9_61g ho_172 (x_dk dn_172_0_0_ok 14 rfl))))))
  (e_Tok2
  (e_Tok2
  (e_Lok (ld_iload_4 (x_dk dn_172_0_0_ok 15 rfl)))
  (e_Tok2
  (e_Lok (sm_iaload (x_dk dn_172_0_0_ok 16 rfl)))
  (e_Lok (ld_aload_n_1 (x_dk dn_172_0_0_ok 17 rfl)))))
  (e_Tok2
  (e_Lok (lk_9_66g ho_172 (x_dk dn_172_0_0_ok 18 rfl)))
  (e_Tok2
  (e_Lok (ld_iload_4 (x_dk dn_172_0_0_ok 19 rfl)))
  (e_Lok (sm_iaload (x_dk dn_172_0_0_ok 20 rfl))))))))
def te_172_21 : Nat → eE := (e_T 52 (e_T 44 (e_T 38 (e_T 37 (e_L 37 (0, ei_load 1 2 38, 0, 0)) (e_L 38 (0, ei_getf eft elay 0 1 41, 0, 0))) (e_T 41 (e_L 41 (0, ei_load 4 0 43, 0, 0)) (e_T 43 (e_L 43 (0, ei_push (0, 1) 44, 0, 0)) (e_L 44 (0, ei_bin eF_add 45, 0, 0))))) (e_T 46 (e_T 45 (e_L 45 (0, ei_ald elay false 46, 0, 0)) (e_L 46 (0, ei_load 1 2 47, 0, 0))) (e_T 47 (e_L 47 (0, ei_getf eft elay 0 2 50, 0, 0)) (e_T 50 (e_L 50 (0, ei_load 4 0 52, 0, 0)) (e_L 52 (0, ei_push (0, 1) 53, 0, 0)))))) (e_T 60 (e_T 54 (e_T 53 (e_L 53 (0, ei_bin eF_add 54, 0, 0)) (e_L 54 (0, ei_ald elay false 55, 0, 0))) (e_T 55 (e_L 55 (0, ei_load 5 0 57, 0, 0)) (e_T 57 (e_L 57 (2, e_nof, 175, 6)) (e_L 60 (0, ei_if1 0 65 63, 0, 0))))) (e_T 65 (e_T 63 (e_L 63 (0, ei_push (0, 1) 64, 0, 0)) (e_T 64 (e_L 64 (1, e_nof, 4, 0)) (e_L 65 (0, ei_inc 4 1 68, 0, 0)))) (e_T 68 (e_L 68 (0, ei_goto 3, 0, 0)) (e_T 71 (e_L 71 (0, ei_push (0, 0) 72, 0, 0)) (e_L 72 (1, e_nof, 4, 0)))))))
set_option maxRecDepth 20000 in
set_option maxHeartbeats 4000000 in
theorem te_172_21_ok : ∀ pc, e_EOq eft cls elay eI n_172 pc (te_172_21 pc) :=
  (e_Tok2
  (e_Tok2
  (e_Tok2
  (e_Tok2
  (e_Lok (ld_aload_n_1 (x_dk dn_172_0_0_ok 21 rfl)))
  (e_Lok (lk_9_61g ho_172 (x_dk dn_172_0_0_ok 22 rfl))))
  (e_Tok2
  (e_Lok (ld_iload_4 (x_dk dn_172_0_0_ok 23 rfl)))
  (e_Tok2
  (e_Lok (ps_iconst_1 (x_dk dn_172_0_0_ok 24 rfl)))
  (e_Lok (sm_iadd (x_dk dn_172_0_1_ok 0 rfl))))))
  (e_Tok2
  (e_Tok2
  (e_Lok (sm_iaload (x_dk dn_172_0_1_ok 1 rfl)))
  (e_Lok (ld_aload_n_1 (x_dk dn_172_0_1_ok 2 rfl))))
  (e_Tok2
  (e_Lok (lk_9_66g ho_172 (x_dk dn_172_0_1_ok 3 rfl)))
  (e_Tok2
  (e_Lok (ld_iload_4 (x_dk dn_172_0_1_ok 4 rfl)))
  (e_Lok (ps_iconst_1 (x_dk dn_172_0_1_ok 5 rfl)))))))
  (e_Tok2
  (e_Tok2
  (e_Tok2
  (e_Lok (sm_iadd (x_dk dn_172_0_1_ok 6 rfl)))
  (e_Lok (sm_iaload (x_dk dn_172_0_1_ok 7 rfl))))
  (e_Tok2
  (e_Lok (ld_iload_5 (x_dk dn_172_0_1_ok 8 rfl)))
  (e_Tok2
  (e_Lok (lk_9_108 ho_172 (x_dk dn_172_0_1_ok 9 rfl)))
  (e_Lok (e_st (I := eI) (er_ifeq (off := 5) (tg := 65) (x_dk dn_172_0_1_ok 10 rfl) (by decide)) nx_if1)))))
  (e_Tok2
  (e_Tok2
  (e_Lok (ps_iconst_1 (x_dk dn_172_0_1_ok 11 rfl)))
  (e_Tok2
  (e_Lok (e_rt (I := eI) (k := 4) ⟨(x_dk dn_172_0_1_ok 12 rfl), rfl⟩))
  (e_Lok (e_st (I := eI) (er_iinc (i := 4) (n := 1) (x_dk dn_172_0_1_ok 13 rfl) (by decide +kernel) (by decide)) nx_inc))))
  (e_Tok2
  (e_Lok (e_st (I := eI) (er_goto (off := (-65)) (tg := 3) (x_dk dn_172_0_1_ok 14 rfl) (by decide)) nx_goto))
  (e_Tok2
  (e_Lok (ps_iconst_0 (x_dk dn_172_0_1_ok 15 rfl)))
  (e_Lok (e_rt (I := eI) (k := 4) ⟨(x_dk dn_172_0_1_ok 16 rfl), rfl⟩)))))))
def te_172 : Nat → eE := (e_T 36 te_172_0 te_172_21)
theorem te_172_ok : ∀ pc, e_EOq eft cls elay eI n_172 pc (te_172 pc) := (e_Tok2 (te_172_0_ok) (te_172_21_ok))
theorem ho_173 : (xm_y n_173).cls = "RobotCellHouse$Shapes" := rfl
def dn_173_0_0 : List (Nat × Instr × Nat) := [(0, .aload_n 0, 1), (1, .getfield 9, 3), (4, .iload_n 1, 1), (5, .iaload, 1), (6, .istore_n 3, 1), (7, .aload_n 0, 1), (8, .getfield 15, 3), (11, .iload_n 1, 1), (12, .iaload, 1), (13, .istore 4, 2), (15, .aload_n 0, 1), (16, .getfield 24, 3), (19, .iload_n 1, 1), (20, .iaload, 1), (21, .iconst (-1), 1), (22, .if_icmp .eq 22, 3), (25, .aload_n 0, 1), (26, .iload_n 3, 1), (27, .iload 4, 2), (29, .iload_n 3, 1), (30, .iload 4, 2), (32, .iload_n 2, 1), (33, .aload_n 0, 1), (34, .getfield 24, 3), (37, .iload_n 1, 1)]
set_option maxRecDepth 20000 in
theorem dn_173_0_0_ok : dn_173_0_0.all (fun q => decide (decode (xm_b n_173) q.1 = .ok (q.2.1, q.2.2))) = true := xa_g_ok (by decide +kernel)
def dn_173_0_1 : List (Nat × Instr × Nat) := [(38, .iaload, 1), (39, .iadd, 1), (40, .invokevirtual 108, 3), (43, .ireturn, 1), (44, .iload_n 3, 1), (45, .aload_n 0, 1), (46, .getfield 18, 3), (49, .iload_n 1, 1), (50, .iaload, 1), (51, .iadd, 1), (52, .istore 5, 2), (54, .iload 4, 2), (56, .aload_n 0, 1), (57, .getfield 21, 3), (60, .iload_n 1, 1), (61, .iaload, 1), (62, .iadd, 1), (63, .istore 6, 2), (65, .aload_n 0, 1), (66, .iload_n 3, 1), (67, .iload 4, 2), (69, .iload 5, 2), (71, .iload 6, 2), (73, .iload_n 2, 1), (74, .invokevirtual 112, 3)]
set_option maxRecDepth 20000 in
theorem dn_173_0_1_ok : dn_173_0_1.all (fun q => decide (decode (xm_b n_173) q.1 = .ok (q.2.1, q.2.2))) = true := xa_g_ok (by decide +kernel)
def dn_173_0_2 : List (Nat × Instr × Nat) := [(77, .ifCond .eq 5, 3), (80, .iconst 0, 1), (81, .ireturn, 1), (82, .aload_n 0, 1), (83, .getfield 81, 3), (86, .iload_n 3, 1), (87, .iload 5, 2), (89, .invokestatic 62, 3), (92, .ifCond .eq 19, 3), (95, .aload_n 0, 1), (96, .getfield 84, 3), (99, .iload 4, 2), (101, .iload 6, 2), (103, .invokestatic 62, 3), (106, .ifCond .eq 5, 3), (109, .iconst 1, 1), (110, .ireturn, 1), (111, .aload_n 0, 1), (112, .iload_n 3, 1), (113, .iload 4, 2), (115, .iload 5, 2), (117, .iload 4, 2), (119, .iload_n 2, 1), (120, .invokevirtual 108, 3), (123, .ifCond .ne 48, 3)]
set_option maxRecDepth 20000 in
theorem dn_173_0_2_ok : dn_173_0_2.all (fun q => decide (decode (xm_b n_173) q.1 = .ok (q.2.1, q.2.2))) = true := xa_g_ok (by decide +kernel)
def dn_173_0_3 : List (Nat × Instr × Nat) := [(126, .aload_n 0, 1), (127, .iload_n 3, 1), (128, .iload 6, 2), (130, .iload 5, 2), (132, .iload 6, 2), (134, .iload_n 2, 1), (135, .invokevirtual 108, 3), (138, .ifCond .ne 33, 3), (141, .aload_n 0, 1), (142, .iload_n 3, 1), (143, .iload 4, 2), (145, .iload_n 3, 1), (146, .iload 6, 2), (148, .iload_n 2, 1), (149, .invokevirtual 108, 3), (152, .ifCond .ne 19, 3), (155, .aload_n 0, 1), (156, .iload 5, 2), (158, .iload 4, 2), (160, .iload 5, 2), (162, .iload 6, 2), (164, .iload_n 2, 1), (165, .invokevirtual 108, 3), (168, .ifCond .eq 7, 3), (171, .iconst 1, 1)]
set_option maxRecDepth 20000 in
theorem dn_173_0_3_ok : dn_173_0_3.all (fun q => decide (decode (xm_b n_173) q.1 = .ok (q.2.1, q.2.2))) = true := xa_g_ok (by decide +kernel)
def dn_173_1_0 : List (Nat × Instr × Nat) := [(172, .goto 4, 3), (175, .iconst 0, 1), (176, .ireturn, 1)]
set_option maxRecDepth 20000 in
theorem dn_173_1_0_ok : dn_173_1_0.all (fun q => decide (decode (xm_b n_173) q.1 = .ok (q.2.1, q.2.2))) = true := xa_g_ok (by decide +kernel)
def te_173_0 : Nat → eE := (e_T 16 (e_T 7 (e_T 4 (e_T 0 (e_L 0 (0, ei_load 0 2 1, 0, 0)) (e_T 1 (e_L 1 (0, ei_getf eft elay 9 2 4, 0, 0)) (e_L 4 (0, ei_load 1 0 5, 0, 0)))) (e_T 5 (e_L 5 (0, ei_ald elay false 6, 0, 0)) (e_T 6 (e_L 6 (0, ei_stor 3 0 7, 0, 0)) (e_L 7 (0, ei_load 0 2 8, 0, 0))))) (e_T 12 (e_T 8 (e_L 8 (0, ei_getf eft elay 9 3 11, 0, 0)) (e_T 11 (e_L 11 (0, ei_load 1 0 12, 0, 0)) (e_L 12 (0, ei_ald elay false 13, 0, 0)))) (e_T 13 (e_L 13 (0, ei_stor 4 0 15, 0, 0)) (e_T 15 (e_L 15 (0, ei_load 0 2 16, 0, 0)) (e_L 16 (0, ei_getf eft elay 9 6 19, 0, 0)))))) (e_T 26 (e_T 21 (e_T 19 (e_L 19 (0, ei_load 1 0 20, 0, 0)) (e_T 20 (e_L 20 (0, ei_ald elay false 21, 0, 0)) (e_L 21 (0, ei_push (0, (-1)) 22, 0, 0)))) (e_T 22 (e_L 22 (0, ei_if2 0 44 25, 0, 0)) (e_T 25 (e_L 25 (0, ei_load 0 2 26, 0, 0)) (e_L 26 (0, ei_load 3 0 27, 0, 0))))) (e_T 30 (e_T 27 (e_L 27 (0, ei_load 4 0 29, 0, 0)) (e_T 29 (e_L 29 (0, ei_load 3 0 30, 0, 0)) (e_L 30 (0, ei_load 4 0 32, 0, 0)))) (e_T 33 (e_T 32 (e_L 32 (0, ei_load 2 0 33, 0, 0)) (e_L 33 (0, ei_load 0 2 34, 0, 0))) (e_T 34 (e_L 34 (0, ei_getf eft elay 9 6 37, 0, 0)) (e_L 37 (0, ei_load 1 0 38, 0, 0)))))))
set_option maxRecDepth 20000 in
set_option maxHeartbeats 4000000 in
theorem te_173_0_ok : ∀ pc, e_EOq eft cls elay eI n_173 pc (te_173_0 pc) :=
  (e_Tok2
  (e_Tok2
  (e_Tok2
  (e_Tok2
  (e_Lok (ld_aload_n_0 (x_dk dn_173_0_0_ok 0 rfl)))
  (e_Tok2
  (e_Lok (lk_9_9g ho_173 (x_dk dn_173_0_0_ok 1 rfl)))
  (e_Lok (ld_iload_n_1 (x_dk dn_173_0_0_ok 2 rfl)))))
  (e_Tok2
  (e_Lok (sm_iaload (x_dk dn_173_0_0_ok 3 rfl)))
  (e_Tok2
  (e_Lok (e_st (I := eI) (er_istore_n (i := 3) (x_dk dn_173_0_0_ok 4 rfl) (by decide +kernel)) nx_stor))
  (e_Lok (ld_aload_n_0 (x_dk dn_173_0_0_ok 5 rfl))))))
  (e_Tok2
  (e_Tok2
  (e_Lok (lk_9_15g ho_173 (x_dk dn_173_0_0_ok 6 rfl)))
  (e_Tok2
  (e_Lok (ld_iload_n_1 (x_dk dn_173_0_0_ok 7 rfl)))
  (e_Lok (sm_iaload (x_dk dn_173_0_0_ok 8 rfl)))))
  (e_Tok2
  (e_Lok (e_st (I := eI) (er_istore (i := 4) (x_dk dn_173_0_0_ok 9 rfl) (by decide +kernel)) nx_stor))
  (e_Tok2
  (e_Lok (ld_aload_n_0 (x_dk dn_173_0_0_ok 10 rfl)))
  (e_Lok (lk_9_24g ho_173 (x_dk dn_173_0_0_ok 11 rfl)))))))
  (e_Tok2
  (e_Tok2
  (e_Tok2
  (e_Lok (ld_iload_n_1 (x_dk dn_173_0_0_ok 12 rfl)))
  (e_Tok2
  (e_Lok (sm_iaload (x_dk dn_173_0_0_ok 13 rfl)))
  (e_Lok (ps_iconst_m1 (x_dk dn_173_0_0_ok 14 rfl)))))
  (e_Tok2
  (e_Lok (e_st (I := eI) (er_icmpeq (off := 22) (tg := 44) (x_dk dn_173_0_0_ok 15 rfl) (by decide)) nx_if2))
  (e_Tok2
  (e_Lok (ld_aload_n_0 (x_dk dn_173_0_0_ok 16 rfl)))
  (e_Lok (ld_iload_n_3 (x_dk dn_173_0_0_ok 17 rfl))))))
  (e_Tok2
  (e_Tok2
  (e_Lok (ld_iload_4 (x_dk dn_173_0_0_ok 18 rfl)))
  (e_Tok2
  (e_Lok (ld_iload_n_3 (x_dk dn_173_0_0_ok 19 rfl)))
  (e_Lok (ld_iload_4 (x_dk dn_173_0_0_ok 20 rfl)))))
  (e_Tok2
  (e_Tok2
  (e_Lok (ld_iload_n_2 (x_dk dn_173_0_0_ok 21 rfl)))
  (e_Lok (ld_aload_n_0 (x_dk dn_173_0_0_ok 22 rfl))))
  (e_Tok2
  (e_Lok (lk_9_24g ho_173 (x_dk dn_173_0_0_ok 23 rfl)))
  (e_Lok (ld_iload_n_1 (x_dk dn_173_0_0_ok 24 rfl))))))))
def te_173_25 : Nat → eE := (e_T 56 (e_T 45 (e_T 40 (e_T 38 (e_L 38 (0, ei_ald elay false 39, 0, 0)) (e_T 39 (e_L 39 (0, ei_bin eF_add 40, 0, 0)) (e_L 40 (2, e_nof, 175, 6)))) (e_T 43 (e_L 43 (1, e_nof, 4, 0)) (e_T 44 (e_L 44 (0, ei_load 3 0 45, 0, 0)) (e_L 45 (0, ei_load 0 2 46, 0, 0))))) (e_T 50 (e_T 46 (e_L 46 (0, ei_getf eft elay 9 4 49, 0, 0)) (e_T 49 (e_L 49 (0, ei_load 1 0 50, 0, 0)) (e_L 50 (0, ei_ald elay false 51, 0, 0)))) (e_T 52 (e_T 51 (e_L 51 (0, ei_bin eF_add 52, 0, 0)) (e_L 52 (0, ei_stor 5 0 54, 0, 0))) (e_T 54 (e_L 54 (0, ei_load 4 0 56, 0, 0)) (e_L 56 (0, ei_load 0 2 57, 0, 0)))))) (e_T 65 (e_T 61 (e_T 57 (e_L 57 (0, ei_getf eft elay 9 5 60, 0, 0)) (e_T 60 (e_L 60 (0, ei_load 1 0 61, 0, 0)) (e_L 61 (0, ei_ald elay false 62, 0, 0)))) (e_T 62 (e_L 62 (0, ei_bin eF_add 63, 0, 0)) (e_T 63 (e_L 63 (0, ei_stor 6 0 65, 0, 0)) (e_L 65 (0, ei_load 0 2 66, 0, 0))))) (e_T 69 (e_T 66 (e_L 66 (0, ei_load 3 0 67, 0, 0)) (e_T 67 (e_L 67 (0, ei_load 4 0 69, 0, 0)) (e_L 69 (0, ei_load 5 0 71, 0, 0)))) (e_T 73 (e_T 71 (e_L 71 (0, ei_load 6 0 73, 0, 0)) (e_L 73 (0, ei_load 2 0 74, 0, 0))) (e_T 74 (e_L 74 (2, e_nof, 174, 6)) (e_L 77 (0, ei_if1 0 82 80, 0, 0)))))))
set_option maxRecDepth 20000 in
set_option maxHeartbeats 4000000 in
theorem te_173_25_ok : ∀ pc, e_EOq eft cls elay eI n_173 pc (te_173_25 pc) :=
  (e_Tok2
  (e_Tok2
  (e_Tok2
  (e_Tok2
  (e_Lok (sm_iaload (x_dk dn_173_0_1_ok 0 rfl)))
  (e_Tok2
  (e_Lok (sm_iadd (x_dk dn_173_0_1_ok 1 rfl)))
  (e_Lok (lk_9_108 ho_173 (x_dk dn_173_0_1_ok 2 rfl)))))
  (e_Tok2
  (e_Lok (e_rt (I := eI) (k := 4) ⟨(x_dk dn_173_0_1_ok 3 rfl), rfl⟩))
  (e_Tok2
  (e_Lok (ld_iload_n_3 (x_dk dn_173_0_1_ok 4 rfl)))
  (e_Lok (ld_aload_n_0 (x_dk dn_173_0_1_ok 5 rfl))))))
  (e_Tok2
  (e_Tok2
  (e_Lok (lk_9_18g ho_173 (x_dk dn_173_0_1_ok 6 rfl)))
  (e_Tok2
  (e_Lok (ld_iload_n_1 (x_dk dn_173_0_1_ok 7 rfl)))
  (e_Lok (sm_iaload (x_dk dn_173_0_1_ok 8 rfl)))))
  (e_Tok2
  (e_Tok2
  (e_Lok (sm_iadd (x_dk dn_173_0_1_ok 9 rfl)))
  (e_Lok (e_st (I := eI) (er_istore (i := 5) (x_dk dn_173_0_1_ok 10 rfl) (by decide +kernel)) nx_stor)))
  (e_Tok2
  (e_Lok (ld_iload_4 (x_dk dn_173_0_1_ok 11 rfl)))
  (e_Lok (ld_aload_n_0 (x_dk dn_173_0_1_ok 12 rfl)))))))
  (e_Tok2
  (e_Tok2
  (e_Tok2
  (e_Lok (lk_9_21g ho_173 (x_dk dn_173_0_1_ok 13 rfl)))
  (e_Tok2
  (e_Lok (ld_iload_n_1 (x_dk dn_173_0_1_ok 14 rfl)))
  (e_Lok (sm_iaload (x_dk dn_173_0_1_ok 15 rfl)))))
  (e_Tok2
  (e_Lok (sm_iadd (x_dk dn_173_0_1_ok 16 rfl)))
  (e_Tok2
  (e_Lok (e_st (I := eI) (er_istore (i := 6) (x_dk dn_173_0_1_ok 17 rfl) (by decide +kernel)) nx_stor))
  (e_Lok (ld_aload_n_0 (x_dk dn_173_0_1_ok 18 rfl))))))
  (e_Tok2
  (e_Tok2
  (e_Lok (ld_iload_n_3 (x_dk dn_173_0_1_ok 19 rfl)))
  (e_Tok2
  (e_Lok (ld_iload_4 (x_dk dn_173_0_1_ok 20 rfl)))
  (e_Lok (ld_iload_5 (x_dk dn_173_0_1_ok 21 rfl)))))
  (e_Tok2
  (e_Tok2
  (e_Lok (ld_iload_6 (x_dk dn_173_0_1_ok 22 rfl)))
  (e_Lok (ld_iload_n_2 (x_dk dn_173_0_1_ok 23 rfl))))
  (e_Tok2
  (e_Lok (lk_9_112 ho_173 (x_dk dn_173_0_1_ok 24 rfl)))
  (e_Lok (e_st (I := eI) (er_ifeq (off := 5) (tg := 82) (x_dk dn_173_0_2_ok 0 rfl) (by decide)) nx_if1)))))))
def te_173_51 : Nat → eE := (e_T 103 (e_T 87 (e_T 82 (e_T 80 (e_L 80 (0, ei_push (0, 0) 81, 0, 0)) (e_T 81 (e_L 81 (1, e_nof, 4, 0)) (e_L 82 (0, ei_load 0 2 83, 0, 0)))) (e_T 83 (e_L 83 (0, ei_getf eft elay 9 13 86, 0, 0)) (e_T 86 (e_L 86 (0, ei_load 3 0 87, 0, 0)) (e_L 87 (0, ei_load 5 0 89, 0, 0))))) (e_T 95 (e_T 89 (e_L 89 (2, e_nof, 242, 3)) (e_T 92 (e_L 92 (0, ei_if1 0 111 95, 0, 0)) (e_L 95 (0, ei_load 0 2 96, 0, 0)))) (e_T 99 (e_T 96 (e_L 96 (0, ei_getf eft elay 9 14 99, 0, 0)) (e_L 99 (0, ei_load 4 0 101, 0, 0))) (e_T 101 (e_L 101 (0, ei_load 6 0 103, 0, 0)) (e_L 103 (2, e_nof, 242, 3)))))) (e_T 113 (e_T 110 (e_T 106 (e_L 106 (0, ei_if1 0 111 109, 0, 0)) (e_T 109 (e_L 109 (0, ei_push (0, 1) 110, 0, 0)) (e_L 110 (1, e_nof, 4, 0)))) (e_T 111 (e_L 111 (0, ei_load 0 2 112, 0, 0)) (e_T 112 (e_L 112 (0, ei_load 3 0 113, 0, 0)) (e_L 113 (0, ei_load 4 0 115, 0, 0))))) (e_T 119 (e_T 115 (e_L 115 (0, ei_load 5 0 117, 0, 0)) (e_T 117 (e_L 117 (0, ei_load 4 0 119, 0, 0)) (e_L 119 (0, ei_load 2 0 120, 0, 0)))) (e_T 123 (e_T 120 (e_L 120 (2, e_nof, 175, 6)) (e_L 123 (0, ei_if1 1 171 126, 0, 0))) (e_T 126 (e_L 126 (0, ei_load 0 2 127, 0, 0)) (e_L 127 (0, ei_load 3 0 128, 0, 0)))))))
set_option maxRecDepth 20000 in
set_option maxHeartbeats 4000000 in
theorem te_173_51_ok : ∀ pc, e_EOq eft cls elay eI n_173 pc (te_173_51 pc) :=
  (e_Tok2
  (e_Tok2
  (e_Tok2
  (e_Tok2
  (e_Lok (ps_iconst_0 (x_dk dn_173_0_2_ok 1 rfl)))
  (e_Tok2
  (e_Lok (e_rt (I := eI) (k := 4) ⟨(x_dk dn_173_0_2_ok 2 rfl), rfl⟩))
  (e_Lok (ld_aload_n_0 (x_dk dn_173_0_2_ok 3 rfl)))))
  (e_Tok2
  (e_Lok (lk_9_81g ho_173 (x_dk dn_173_0_2_ok 4 rfl)))
  (e_Tok2
  (e_Lok (ld_iload_n_3 (x_dk dn_173_0_2_ok 5 rfl)))
  (e_Lok (ld_iload_5 (x_dk dn_173_0_2_ok 6 rfl))))))
  (e_Tok2
  (e_Tok2
  (e_Lok (lk_9_62 ho_173 (x_dk dn_173_0_2_ok 7 rfl)))
  (e_Tok2
  (e_Lok (e_st (I := eI) (er_ifeq (off := 19) (tg := 111) (x_dk dn_173_0_2_ok 8 rfl) (by decide)) nx_if1))
  (e_Lok (ld_aload_n_0 (x_dk dn_173_0_2_ok 9 rfl)))))
  (e_Tok2
  (e_Tok2
  (e_Lok (lk_9_84g ho_173 (x_dk dn_173_0_2_ok 10 rfl)))
  (e_Lok (ld_iload_4 (x_dk dn_173_0_2_ok 11 rfl))))
  (e_Tok2
  (e_Lok (ld_iload_6 (x_dk dn_173_0_2_ok 12 rfl)))
  (e_Lok (lk_9_62 ho_173 (x_dk dn_173_0_2_ok 13 rfl)))))))
  (e_Tok2
  (e_Tok2
  (e_Tok2
  (e_Lok (e_st (I := eI) (er_ifeq (off := 5) (tg := 111) (x_dk dn_173_0_2_ok 14 rfl) (by decide)) nx_if1))
  (e_Tok2
  (e_Lok (ps_iconst_1 (x_dk dn_173_0_2_ok 15 rfl)))
  (e_Lok (e_rt (I := eI) (k := 4) ⟨(x_dk dn_173_0_2_ok 16 rfl), rfl⟩))))
  (e_Tok2
  (e_Lok (ld_aload_n_0 (x_dk dn_173_0_2_ok 17 rfl)))
  (e_Tok2
  (e_Lok (ld_iload_n_3 (x_dk dn_173_0_2_ok 18 rfl)))
  (e_Lok (ld_iload_4 (x_dk dn_173_0_2_ok 19 rfl))))))
  (e_Tok2
  (e_Tok2
  (e_Lok (ld_iload_5 (x_dk dn_173_0_2_ok 20 rfl)))
  (e_Tok2
  (e_Lok (ld_iload_4 (x_dk dn_173_0_2_ok 21 rfl)))
  (e_Lok (ld_iload_n_2 (x_dk dn_173_0_2_ok 22 rfl)))))
  (e_Tok2
  (e_Tok2
  (e_Lok (lk_9_108 ho_173 (x_dk dn_173_0_2_ok 23 rfl)))
  (e_Lok (e_st (I := eI) (er_ifne (off := 48) (tg := 171) (x_dk dn_173_0_2_ok 24 rfl) (by decide)) nx_if1)))
  (e_Tok2
  (e_Lok (ld_aload_n_0 (x_dk dn_173_0_3_ok 0 rfl)))
  (e_Lok (ld_iload_n_3 (x_dk dn_173_0_3_ok 1 rfl))))))))
def te_173_77 : Nat → eE := (e_T 149 (e_T 138 (e_T 132 (e_T 128 (e_L 128 (0, ei_load 6 0 130, 0, 0)) (e_T 130 (e_L 130 (0, ei_load 5 0 132, 0, 0)) (e_L 132 (0, ei_load 6 0 134, 0, 0)))) (e_T 134 (e_L 134 (0, ei_load 2 0 135, 0, 0)) (e_T 135 (e_L 135 (2, e_nof, 175, 6)) (e_L 138 (0, ei_if1 1 171 141, 0, 0))))) (e_T 143 (e_T 141 (e_L 141 (0, ei_load 0 2 142, 0, 0)) (e_T 142 (e_L 142 (0, ei_load 3 0 143, 0, 0)) (e_L 143 (0, ei_load 4 0 145, 0, 0)))) (e_T 146 (e_T 145 (e_L 145 (0, ei_load 3 0 146, 0, 0)) (e_L 146 (0, ei_load 6 0 148, 0, 0))) (e_T 148 (e_L 148 (0, ei_load 2 0 149, 0, 0)) (e_L 149 (2, e_nof, 175, 6)))))) (e_T 162 (e_T 156 (e_T 152 (e_L 152 (0, ei_if1 1 171 155, 0, 0)) (e_T 155 (e_L 155 (0, ei_load 0 2 156, 0, 0)) (e_L 156 (0, ei_load 5 0 158, 0, 0)))) (e_T 158 (e_L 158 (0, ei_load 4 0 160, 0, 0)) (e_T 160 (e_L 160 (0, ei_load 5 0 162, 0, 0)) (e_L 162 (0, ei_load 6 0 164, 0, 0))))) (e_T 168 (e_T 164 (e_L 164 (0, ei_load 2 0 165, 0, 0)) (e_T 165 (e_L 165 (2, e_nof, 175, 6)) (e_L 168 (0, ei_if1 0 175 171, 0, 0)))) (e_T 172 (e_T 171 (e_L 171 (0, ei_push (0, 1) 172, 0, 0)) (e_L 172 (0, ei_goto 176, 0, 0))) (e_T 175 (e_L 175 (0, ei_push (0, 0) 176, 0, 0)) (e_L 176 (1, e_nof, 4, 0)))))))
set_option maxRecDepth 20000 in
set_option maxHeartbeats 4000000 in
theorem te_173_77_ok : ∀ pc, e_EOq eft cls elay eI n_173 pc (te_173_77 pc) :=
  (e_Tok2
  (e_Tok2
  (e_Tok2
  (e_Tok2
  (e_Lok (ld_iload_6 (x_dk dn_173_0_3_ok 2 rfl)))
  (e_Tok2
  (e_Lok (ld_iload_5 (x_dk dn_173_0_3_ok 3 rfl)))
  (e_Lok (ld_iload_6 (x_dk dn_173_0_3_ok 4 rfl)))))
  (e_Tok2
  (e_Lok (ld_iload_n_2 (x_dk dn_173_0_3_ok 5 rfl)))
  (e_Tok2
  (e_Lok (lk_9_108 ho_173 (x_dk dn_173_0_3_ok 6 rfl)))
  (e_Lok (e_st (I := eI) (er_ifne (off := 33) (tg := 171) (x_dk dn_173_0_3_ok 7 rfl) (by decide)) nx_if1)))))
  (e_Tok2
  (e_Tok2
  (e_Lok (ld_aload_n_0 (x_dk dn_173_0_3_ok 8 rfl)))
  (e_Tok2
  (e_Lok (ld_iload_n_3 (x_dk dn_173_0_3_ok 9 rfl)))
  (e_Lok (ld_iload_4 (x_dk dn_173_0_3_ok 10 rfl)))))
  (e_Tok2
  (e_Tok2
  (e_Lok (ld_iload_n_3 (x_dk dn_173_0_3_ok 11 rfl)))
  (e_Lok (ld_iload_6 (x_dk dn_173_0_3_ok 12 rfl))))
  (e_Tok2
  (e_Lok (ld_iload_n_2 (x_dk dn_173_0_3_ok 13 rfl)))
  (e_Lok (lk_9_108 ho_173 (x_dk dn_173_0_3_ok 14 rfl)))))))
  (e_Tok2
  (e_Tok2
  (e_Tok2
  (e_Lok (e_st (I := eI) (er_ifne (off := 19) (tg := 171) (x_dk dn_173_0_3_ok 15 rfl) (by decide)) nx_if1))
  (e_Tok2
  (e_Lok (ld_aload_n_0 (x_dk dn_173_0_3_ok 16 rfl)))
  (e_Lok (ld_iload_5 (x_dk dn_173_0_3_ok 17 rfl)))))
  (e_Tok2
  (e_Lok (ld_iload_4 (x_dk dn_173_0_3_ok 18 rfl)))
  (e_Tok2
  (e_Lok (ld_iload_5 (x_dk dn_173_0_3_ok 19 rfl)))
  (e_Lok (ld_iload_6 (x_dk dn_173_0_3_ok 20 rfl))))))
  (e_Tok2
  (e_Tok2
  (e_Lok (ld_iload_n_2 (x_dk dn_173_0_3_ok 21 rfl)))
  (e_Tok2
  (e_Lok (lk_9_108 ho_173 (x_dk dn_173_0_3_ok 22 rfl)))
  (e_Lok (e_st (I := eI) (er_ifeq (off := 7) (tg := 175) (x_dk dn_173_0_3_ok 23 rfl) (by decide)) nx_if1))))
  (e_Tok2
  (e_Tok2
  (e_Lok (ps_iconst_1 (x_dk dn_173_0_3_ok 24 rfl)))
  (e_Lok (e_st (I := eI) (er_goto (off := 4) (tg := 176) (x_dk dn_173_1_0_ok 0 rfl) (by decide)) nx_goto)))
  (e_Tok2
  (e_Lok (ps_iconst_0 (x_dk dn_173_1_0_ok 1 rfl)))
  (e_Lok (e_rt (I := eI) (k := 4) ⟨(x_dk dn_173_1_0_ok 2 rfl), rfl⟩)))))))
def te_173 : Nat → eE := (e_T 77 (e_T 37 te_173_0 te_173_25) (e_T 127 te_173_51 te_173_77))
theorem te_173_ok : ∀ pc, e_EOq eft cls elay eI n_173 pc (te_173 pc) := (e_Tok2 ((e_Tok2 (te_173_0_ok) (te_173_25_ok))) ((e_Tok2 (te_173_51_ok) (te_173_77_ok))))
theorem ho_174 : (xm_y n_174).cls = "RobotCellHouse$Shapes" := rfl
def dn_174_0_0 : List (Nat × Instr × Nat) := [(0, .aload_n 0, 1), (1, .getfield 81, 3), (4, .aload_n 0, 1), (5, .getfield 87, 3), (8, .invokestatic 115, 3), (11, .iload 5, 2), (13, .iadd, 1), (14, .iload_n 1, 1), (15, .iload_n 3, 1), (16, .invokestatic 121, 3), (19, .if_icmp .lt 71, 3), (22, .iload_n 1, 1), (23, .iload_n 3, 1), (24, .invokestatic 115, 3), (27, .iload 5, 2), (29, .iadd, 1), (30, .aload_n 0, 1), (31, .getfield 81, 3), (34, .aload_n 0, 1), (35, .getfield 87, 3), (38, .invokestatic 121, 3), (41, .if_icmp .lt 49, 3), (44, .aload_n 0, 1), (45, .getfield 84, 3), (48, .aload_n 0, 1)]
set_option maxRecDepth 20000 in
theorem dn_174_0_0_ok : dn_174_0_0.all (fun q => decide (decode (xm_b n_174) q.1 = .ok (q.2.1, q.2.2))) = true := xa_g_ok (by decide +kernel)
def dn_174_0_1 : List (Nat × Instr × Nat) := [(49, .getfield 90, 3), (52, .invokestatic 115, 3), (55, .iload 5, 2), (57, .iadd, 1), (58, .iload_n 2, 1), (59, .iload 4, 2), (61, .invokestatic 121, 3), (64, .if_icmp .lt 26, 3), (67, .iload_n 2, 1), (68, .iload 4, 2), (70, .invokestatic 115, 3), (73, .iload 5, 2), (75, .iadd, 1), (76, .aload_n 0, 1), (77, .getfield 84, 3), (80, .aload_n 0, 1), (81, .getfield 90, 3), (84, .invokestatic 121, 3), (87, .if_icmp .ge 7, 3), (90, .iconst 1, 1), (91, .goto 4, 3), (94, .iconst 0, 1), (95, .ireturn, 1)]
set_option maxRecDepth 20000 in
theorem dn_174_0_1_ok : dn_174_0_1.all (fun q => decide (decode (xm_b n_174) q.1 = .ok (q.2.1, q.2.2))) = true := xa_g_ok (by decide +kernel)
def te_174_0 : Nat → eE := (e_T 22 (e_T 11 (e_T 4 (e_T 0 (e_L 0 (0, ei_load 0 2 1, 0, 0)) (e_T 1 (e_L 1 (0, ei_getf eft elay 9 13 4, 0, 0)) (e_L 4 (0, ei_load 0 2 5, 0, 0)))) (e_T 5 (e_L 5 (0, ei_getf eft elay 9 15 8, 0, 0)) (e_T 8 (e_L 8 (0, ei_m2 eM_max 11, 0, 0)) (e_L 11 (0, ei_load 5 0 13, 0, 0))))) (e_T 15 (e_T 13 (e_L 13 (0, ei_bin eF_add 14, 0, 0)) (e_T 14 (e_L 14 (0, ei_load 1 0 15, 0, 0)) (e_L 15 (0, ei_load 3 0 16, 0, 0)))) (e_T 16 (e_L 16 (0, ei_m2 eM_min 19, 0, 0)) (e_T 19 (e_L 19 (0, ei_if2 2 90 22, 0, 0)) (e_L 22 (0, ei_load 1 0 23, 0, 0)))))) (e_T 31 (e_T 27 (e_T 23 (e_L 23 (0, ei_load 3 0 24, 0, 0)) (e_T 24 (e_L 24 (0, ei_m2 eM_max 27, 0, 0)) (e_L 27 (0, ei_load 5 0 29, 0, 0)))) (e_T 29 (e_L 29 (0, ei_bin eF_add 30, 0, 0)) (e_T 30 (e_L 30 (0, ei_load 0 2 31, 0, 0)) (e_L 31 (0, ei_getf eft elay 9 13 34, 0, 0))))) (e_T 38 (e_T 34 (e_L 34 (0, ei_load 0 2 35, 0, 0)) (e_T 35 (e_L 35 (0, ei_getf eft elay 9 15 38, 0, 0)) (e_L 38 (0, ei_m2 eM_min 41, 0, 0)))) (e_T 41 (e_L 41 (0, ei_if2 2 90 44, 0, 0)) (e_T 44 (e_L 44 (0, ei_load 0 2 45, 0, 0)) (e_L 45 (0, ei_getf eft elay 9 14 48, 0, 0)))))))
set_option maxRecDepth 20000 in
set_option maxHeartbeats 4000000 in
theorem te_174_0_ok : ∀ pc, e_EOq eft cls elay eI n_174 pc (te_174_0 pc) :=
  (e_Tok2
  (e_Tok2
  (e_Tok2
  (e_Tok2
  (e_Lok (ld_aload_n_0 (x_dk dn_174_0_0_ok 0 rfl)))
  (e_Tok2
  (e_Lok (lk_9_81g ho_174 (x_dk dn_174_0_0_ok 1 rfl)))
  (e_Lok (ld_aload_n_0 (x_dk dn_174_0_0_ok 2 rfl)))))
  (e_Tok2
  (e_Lok (lk_9_87g ho_174 (x_dk dn_174_0_0_ok 3 rfl)))
  (e_Tok2
  (e_Lok (e_st (I := eI) (er_max (ix := 115) (in_t8 (List.mem_of_getElem? (i := 112) rfl) rfl) (in_t5 (List.mem_of_getElem? (i := 184) rfl) rfl) (in_t1 (List.mem_of_getElem? (i := 15) rfl) rfl) (in_t5 (List.mem_of_getElem? (i := 185) rfl) rfl) (x_dk dn_174_0_0_ok 4 rfl)) nx_m2))
  (e_Lok (ld_iload_5 (x_dk dn_174_0_0_ok 5 rfl))))))
  (e_Tok2
  (e_Tok2
  (e_Lok (sm_iadd (x_dk dn_174_0_0_ok 6 rfl)))
  (e_Tok2
  (e_Lok (ld_iload_n_1 (x_dk dn_174_0_0_ok 7 rfl)))
  (e_Lok (ld_iload_n_3 (x_dk dn_174_0_0_ok 8 rfl)))))
  (e_Tok2
  (e_Lok (e_st (I := eI) (er_min (ix := 121) (in_t8 (List.mem_of_getElem? (i := 113) rfl) rfl) (in_t5 (List.mem_of_getElem? (i := 187) rfl) rfl) (in_t1 (List.mem_of_getElem? (i := 15) rfl) rfl) (in_t5 (List.mem_of_getElem? (i := 188) rfl) rfl) (x_dk dn_174_0_0_ok 9 rfl)) nx_m2))
  (e_Tok2
  (e_Lok (e_st (I := eI) (er_icmplt (off := 71) (tg := 90) (x_dk dn_174_0_0_ok 10 rfl) (by decide)) nx_if2))
  (e_Lok (ld_iload_n_1 (x_dk dn_174_0_0_ok 11 rfl)))))))
  (e_Tok2
  (e_Tok2
  (e_Tok2
  (e_Lok (ld_iload_n_3 (x_dk dn_174_0_0_ok 12 rfl)))
  (e_Tok2
  (e_Lok (e_st (I := eI) (er_max (ix := 115) (in_t8 (List.mem_of_getElem? (i := 112) rfl) rfl) (in_t5 (List.mem_of_getElem? (i := 184) rfl) rfl) (in_t1 (List.mem_of_getElem? (i := 15) rfl) rfl) (in_t5 (List.mem_of_getElem? (i := 185) rfl) rfl) (x_dk dn_174_0_0_ok 13 rfl)) nx_m2))
  (e_Lok (ld_iload_5 (x_dk dn_174_0_0_ok 14 rfl)))))
  (e_Tok2
  (e_Lok (sm_iadd (x_dk dn_174_0_0_ok 15 rfl)))
  (e_Tok2
  (e_Lok (ld_aload_n_0 (x_dk dn_174_0_0_ok 16 rfl)))
  (e_Lok (lk_9_81g ho_174 (x_dk dn_174_0_0_ok 17 rfl))))))
  (e_Tok2
  (e_Tok2
  (e_Lok (ld_aload_n_0 (x_dk dn_174_0_0_ok 18 rfl)))
  (e_Tok2
  (e_Lok (lk_9_87g ho_174 (x_dk dn_174_0_0_ok 19 rfl)))
  (e_Lok (e_st (I := eI) (er_min (ix := 121) (in_t8 (List.mem_of_getElem? (i := 113) rfl) rfl) (in_t5 (List.mem_of_getElem? (i := 187) rfl) rfl) (in_t1 (List.mem_of_getElem? (i := 15) rfl) rfl) (in_t5 (List.mem_of_getElem? (i := 188) rfl) rfl) (x_dk dn_174_0_0_ok 20 rfl)) nx_m2))))
  (e_Tok2
  (e_Lok (e_st (I := eI) (er_icmplt (off := 49) (tg := 90) (x_dk dn_174_0_0_ok 21 rfl) (by decide)) nx_if2))
  (e_Tok2
  (e_Lok (ld_aload_n_0 (x_dk dn_174_0_0_ok 22 rfl)))
  (e_Lok (lk_9_84g ho_174 (x_dk dn_174_0_0_ok 23 rfl))))))))
def te_174_24 : Nat → eE := (e_T 70 (e_T 58 (e_T 52 (e_T 48 (e_L 48 (0, ei_load 0 2 49, 0, 0)) (e_T 49 (e_L 49 (0, ei_getf eft elay 9 16 52, 0, 0)) (e_L 52 (0, ei_m2 eM_max 55, 0, 0)))) (e_T 55 (e_L 55 (0, ei_load 5 0 57, 0, 0)) (e_T 57 (e_L 57 (0, ei_bin eF_add 58, 0, 0)) (e_L 58 (0, ei_load 2 0 59, 0, 0))))) (e_T 64 (e_T 59 (e_L 59 (0, ei_load 4 0 61, 0, 0)) (e_T 61 (e_L 61 (0, ei_m2 eM_min 64, 0, 0)) (e_L 64 (0, ei_if2 2 90 67, 0, 0)))) (e_T 67 (e_L 67 (0, ei_load 2 0 68, 0, 0)) (e_T 68 (e_L 68 (0, ei_load 4 0 70, 0, 0)) (e_L 70 (0, ei_m2 eM_max 73, 0, 0)))))) (e_T 81 (e_T 76 (e_T 73 (e_L 73 (0, ei_load 5 0 75, 0, 0)) (e_T 75 (e_L 75 (0, ei_bin eF_add 76, 0, 0)) (e_L 76 (0, ei_load 0 2 77, 0, 0)))) (e_T 77 (e_L 77 (0, ei_getf eft elay 9 14 80, 0, 0)) (e_T 80 (e_L 80 (0, ei_load 0 2 81, 0, 0)) (e_L 81 (0, ei_getf eft elay 9 16 84, 0, 0))))) (e_T 90 (e_T 84 (e_L 84 (0, ei_m2 eM_min 87, 0, 0)) (e_T 87 (e_L 87 (0, ei_if2 3 94 90, 0, 0)) (e_L 90 (0, ei_push (0, 1) 91, 0, 0)))) (e_T 91 (e_L 91 (0, ei_goto 95, 0, 0)) (e_T 94 (e_L 94 (0, ei_push (0, 0) 95, 0, 0)) (e_L 95 (1, e_nof, 4, 0)))))))
set_option maxRecDepth 20000 in
set_option maxHeartbeats 4000000 in
theorem te_174_24_ok : ∀ pc, e_EOq eft cls elay eI n_174 pc (te_174_24 pc) :=
  (e_Tok2
  (e_Tok2
  (e_Tok2
  (e_Tok2
  (e_Lok (ld_aload_n_0 (x_dk dn_174_0_0_ok 24 rfl)))
  (e_Tok2
  (e_Lok (lk_9_90g ho_174 (x_dk dn_174_0_1_ok 0 rfl)))
  (e_Lok (e_st (I := eI) (er_max (ix := 115) (in_t8 (List.mem_of_getElem? (i := 112) rfl) rfl) (in_t5 (List.mem_of_getElem? (i := 184) rfl) rfl) (in_t1 (List.mem_of_getElem? (i := 15) rfl) rfl) (in_t5 (List.mem_of_getElem? (i := 185) rfl) rfl) (x_dk dn_174_0_1_ok 1 rfl)) nx_m2))))
  (e_Tok2
  (e_Lok (ld_iload_5 (x_dk dn_174_0_1_ok 2 rfl)))
  (e_Tok2
  (e_Lok (sm_iadd (x_dk dn_174_0_1_ok 3 rfl)))
  (e_Lok (ld_iload_n_2 (x_dk dn_174_0_1_ok 4 rfl))))))
  (e_Tok2
  (e_Tok2
  (e_Lok (ld_iload_4 (x_dk dn_174_0_1_ok 5 rfl)))
  (e_Tok2
  (e_Lok (e_st (I := eI) (er_min (ix := 121) (in_t8 (List.mem_of_getElem? (i := 113) rfl) rfl) (in_t5 (List.mem_of_getElem? (i := 187) rfl) rfl) (in_t1 (List.mem_of_getElem? (i := 15) rfl) rfl) (in_t5 (List.mem_of_getElem? (i := 188) rfl) rfl) (x_dk dn_174_0_1_ok 6 rfl)) nx_m2))
  (e_Lok (e_st (I := eI) (er_icmplt (off := 26) (tg := 90) (x_dk dn_174_0_1_ok 7 rfl) (by decide)) nx_if2))))
  (e_Tok2
  (e_Lok (ld_iload_n_2 (x_dk dn_174_0_1_ok 8 rfl)))
  (e_Tok2
  (e_Lok (ld_iload_4 (x_dk dn_174_0_1_ok 9 rfl)))
  (e_Lok (e_st (I := eI) (er_max (ix := 115) (in_t8 (List.mem_of_getElem? (i := 112) rfl) rfl) (in_t5 (List.mem_of_getElem? (i := 184) rfl) rfl) (in_t1 (List.mem_of_getElem? (i := 15) rfl) rfl) (in_t5 (List.mem_of_getElem? (i := 185) rfl) rfl) (x_dk dn_174_0_1_ok 10 rfl)) nx_m2))))))
  (e_Tok2
  (e_Tok2
  (e_Tok2
  (e_Lok (ld_iload_5 (x_dk dn_174_0_1_ok 11 rfl)))
  (e_Tok2
  (e_Lok (sm_iadd (x_dk dn_174_0_1_ok 12 rfl)))
  (e_Lok (ld_aload_n_0 (x_dk dn_174_0_1_ok 13 rfl)))))
  (e_Tok2
  (e_Lok (lk_9_84g ho_174 (x_dk dn_174_0_1_ok 14 rfl)))
  (e_Tok2
  (e_Lok (ld_aload_n_0 (x_dk dn_174_0_1_ok 15 rfl)))
  (e_Lok (lk_9_90g ho_174 (x_dk dn_174_0_1_ok 16 rfl))))))
  (e_Tok2
  (e_Tok2
  (e_Lok (e_st (I := eI) (er_min (ix := 121) (in_t8 (List.mem_of_getElem? (i := 113) rfl) rfl) (in_t5 (List.mem_of_getElem? (i := 187) rfl) rfl) (in_t1 (List.mem_of_getElem? (i := 15) rfl) rfl) (in_t5 (List.mem_of_getElem? (i := 188) rfl) rfl) (x_dk dn_174_0_1_ok 17 rfl)) nx_m2))
  (e_Tok2
  (e_Lok (e_st (I := eI) (er_icmpge (off := 7) (tg := 94) (x_dk dn_174_0_1_ok 18 rfl) (by decide)) nx_if2))
  (e_Lok (ps_iconst_1 (x_dk dn_174_0_1_ok 19 rfl)))))
  (e_Tok2
  (e_Lok (e_st (I := eI) (er_goto (off := 4) (tg := 95) (x_dk dn_174_0_1_ok 20 rfl) (by decide)) nx_goto))
  (e_Tok2
  (e_Lok (ps_iconst_0 (x_dk dn_174_0_1_ok 21 rfl)))
  (e_Lok (e_rt (I := eI) (k := 4) ⟨(x_dk dn_174_0_1_ok 22 rfl), rfl⟩)))))))
def te_174 : Nat → eE := (e_T 45 te_174_0 te_174_24)
theorem te_174_ok : ∀ pc, e_EOq eft cls elay eI n_174 pc (te_174 pc) := (e_Tok2 (te_174_0_ok) (te_174_24_ok))
theorem ho_175 : (xm_y n_175).cls = "RobotCellHouse$Shapes" := rfl
def dn_175_0_0 : List (Nat × Instr × Nat) := [(0, .aload_n 0, 1), (1, .iload_n 1, 1), (2, .iload_n 2, 1), (3, .iload_n 3, 1), (4, .iload 4, 2), (6, .iload 5, 2), (8, .invokevirtual 112, 3), (11, .ifCond .eq 5, 3), (14, .iconst 0, 1), (15, .ireturn, 1), (16, .aload_n 0, 1), (17, .getfield 87, 3), (20, .aload_n 0, 1), (21, .getfield 81, 3), (24, .isub, 1), (25, .aload_n 0, 1), (26, .getfield 90, 3), (29, .aload_n 0, 1), (30, .getfield 84, 3), (33, .isub, 1), (34, .iload_n 1, 1), (35, .aload_n 0, 1), (36, .getfield 81, 3), (39, .isub, 1), (40, .iload_n 2, 1)]
set_option maxRecDepth 20000 in
theorem dn_175_0_0_ok : dn_175_0_0.all (fun q => decide (decode (xm_b n_175) q.1 = .ok (q.2.1, q.2.2))) = true := xa_g_ok (by decide +kernel)
def dn_175_0_1 : List (Nat × Instr × Nat) := [(41, .aload_n 0, 1), (42, .getfield 84, 3), (45, .isub, 1), (46, .invokestatic 124, 3), (49, .lstore 6, 2), (51, .aload_n 0, 1), (52, .getfield 87, 3), (55, .aload_n 0, 1), (56, .getfield 81, 3), (59, .isub, 1), (60, .aload_n 0, 1), (61, .getfield 90, 3), (64, .aload_n 0, 1), (65, .getfield 84, 3), (68, .isub, 1), (69, .iload_n 3, 1), (70, .aload_n 0, 1), (71, .getfield 81, 3), (74, .isub, 1), (75, .iload 4, 2), (77, .aload_n 0, 1), (78, .getfield 84, 3), (81, .isub, 1), (82, .invokestatic 124, 3), (85, .lstore 8, 2)]
set_option maxRecDepth 20000 in
theorem dn_175_0_1_ok : dn_175_0_1.all (fun q => decide (decode (xm_b n_175) q.1 = .ok (q.2.1, q.2.2))) = true := xa_g_ok (by decide +kernel)
def dn_175_0_2 : List (Nat × Instr × Nat) := [(87, .iload_n 3, 1), (88, .iload_n 1, 1), (89, .isub, 1), (90, .iload 4, 2), (92, .iload_n 2, 1), (93, .isub, 1), (94, .aload_n 0, 1), (95, .getfield 81, 3), (98, .iload_n 1, 1), (99, .isub, 1), (100, .aload_n 0, 1), (101, .getfield 84, 3), (104, .iload_n 2, 1), (105, .isub, 1), (106, .invokestatic 124, 3), (109, .lstore 10, 2), (111, .iload_n 3, 1), (112, .iload_n 1, 1), (113, .isub, 1), (114, .iload 4, 2), (116, .iload_n 2, 1), (117, .isub, 1), (118, .aload_n 0, 1), (119, .getfield 87, 3), (122, .iload_n 1, 1)]
set_option maxRecDepth 20000 in
theorem dn_175_0_2_ok : dn_175_0_2.all (fun q => decide (decode (xm_b n_175) q.1 = .ok (q.2.1, q.2.2))) = true := xa_g_ok (by decide +kernel)
def dn_175_0_3 : List (Nat × Instr × Nat) := [(123, .isub, 1), (124, .aload_n 0, 1), (125, .getfield 90, 3), (128, .iload_n 2, 1), (129, .isub, 1), (130, .invokestatic 124, 3), (133, .lstore 12, 2), (135, .lload 6, 2), (137, .lconst 0, 1), (138, .lcmp, 1), (139, .ifCond .ge 10, 3), (142, .lload 8, 2), (144, .lconst 0, 1), (145, .lcmp, 1), (146, .ifCond .gt 17, 3), (149, .lload 6, 2), (151, .lconst 0, 1), (152, .lcmp, 1), (153, .ifCond .le 40, 3), (156, .lload 8, 2), (158, .lconst 0, 1), (159, .lcmp, 1), (160, .ifCond .ge 33, 3), (163, .lload 10, 2), (165, .lconst 0, 1)]
set_option maxRecDepth 20000 in
theorem dn_175_0_3_ok : dn_175_0_3.all (fun q => decide (decode (xm_b n_175) q.1 = .ok (q.2.1, q.2.2))) = true := xa_g_ok (by decide +kernel)
def dn_175_1_0 : List (Nat × Instr × Nat) := [(166, .lcmp, 1), (167, .ifCond .ge 10, 3), (170, .lload 12, 2), (172, .lconst 0, 1), (173, .lcmp, 1), (174, .ifCond .gt 17, 3), (177, .lload 10, 2), (179, .lconst 0, 1), (180, .lcmp, 1), (181, .ifCond .le 12, 3), (184, .lload 12, 2), (186, .lconst 0, 1), (187, .lcmp, 1), (188, .ifCond .ge 5, 3), (191, .iconst 1, 1), (192, .ireturn, 1), (193, .aload_n 0, 1), (194, .getfield 87, 3), (197, .aload_n 0, 1), (198, .getfield 81, 3), (201, .isub, 1), (202, .aload_n 0, 1), (203, .getfield 90, 3), (206, .aload_n 0, 1), (207, .getfield 84, 3)]
set_option maxRecDepth 20000 in
theorem dn_175_1_0_ok : dn_175_1_0.all (fun q => decide (decode (xm_b n_175) q.1 = .ok (q.2.1, q.2.2))) = true := xa_g_ok (by decide +kernel)
def dn_175_1_1 : List (Nat × Instr × Nat) := [(210, .isub, 1), (211, .iload_n 1, 1), (212, .aload_n 0, 1), (213, .getfield 81, 3), (216, .isub, 1), (217, .iload_n 2, 1), (218, .aload_n 0, 1), (219, .getfield 84, 3), (222, .isub, 1), (223, .iload 5, 2), (225, .invokestatic 128, 3), (228, .ifCond .ne 96, 3), (231, .aload_n 0, 1), (232, .getfield 87, 3), (235, .aload_n 0, 1), (236, .getfield 81, 3), (239, .isub, 1), (240, .aload_n 0, 1), (241, .getfield 90, 3), (244, .aload_n 0, 1), (245, .getfield 84, 3), (248, .isub, 1), (249, .iload_n 3, 1), (250, .aload_n 0, 1), (251, .getfield 81, 3)]
set_option maxRecDepth 20000 in
theorem dn_175_1_1_ok : dn_175_1_1.all (fun q => decide (decode (xm_b n_175) q.1 = .ok (q.2.1, q.2.2))) = true := xa_g_ok (by decide +kernel)
def dn_175_1_2 : List (Nat × Instr × Nat) := [(254, .isub, 1), (255, .iload 4, 2), (257, .aload_n 0, 1), (258, .getfield 84, 3), (261, .isub, 1), (262, .iload 5, 2), (264, .invokestatic 128, 3), (267, .ifCond .ne 57, 3), (270, .iload_n 3, 1), (271, .iload_n 1, 1), (272, .isub, 1), (273, .iload 4, 2), (275, .iload_n 2, 1), (276, .isub, 1), (277, .aload_n 0, 1), (278, .getfield 81, 3), (281, .iload_n 1, 1), (282, .isub, 1), (283, .aload_n 0, 1), (284, .getfield 84, 3), (287, .iload_n 2, 1), (288, .isub, 1), (289, .iload 5, 2), (291, .invokestatic 128, 3), (294, .ifCond .ne 30, 3)]
set_option maxRecDepth 20000 in
theorem dn_175_1_2_ok : dn_175_1_2.all (fun q => decide (decode (xm_b n_175) q.1 = .ok (q.2.1, q.2.2))) = true := xa_g_ok (by decide +kernel)
def dn_175_1_3 : List (Nat × Instr × Nat) := [(297, .iload_n 3, 1), (298, .iload_n 1, 1), (299, .isub, 1), (300, .iload 4, 2), (302, .iload_n 2, 1), (303, .isub, 1), (304, .aload_n 0, 1), (305, .getfield 87, 3), (308, .iload_n 1, 1), (309, .isub, 1), (310, .aload_n 0, 1), (311, .getfield 90, 3), (314, .iload_n 2, 1), (315, .isub, 1), (316, .iload 5, 2), (318, .invokestatic 128, 3), (321, .ifCond .eq 7, 3), (324, .iconst 1, 1), (325, .goto 4, 3), (328, .iconst 0, 1), (329, .ireturn, 1)]
set_option maxRecDepth 20000 in
theorem dn_175_1_3_ok : dn_175_1_3.all (fun q => decide (decode (xm_b n_175) q.1 = .ok (q.2.1, q.2.2))) = true := xa_g_ok (by decide +kernel)
def te_175_0 : Nat → eE := (e_T 17 (e_T 6 (e_T 2 (e_T 0 (e_L 0 (0, ei_load 0 2 1, 0, 0)) (e_T 1 (e_L 1 (0, ei_load 1 0 2, 0, 0)) (e_L 2 (0, ei_load 2 0 3, 0, 0)))) (e_T 3 (e_L 3 (0, ei_load 3 0 4, 0, 0)) (e_T 4 (e_L 4 (0, ei_load 4 0 6, 0, 0)) (e_L 6 (0, ei_load 5 0 8, 0, 0))))) (e_T 14 (e_T 8 (e_L 8 (2, e_nof, 174, 6)) (e_T 11 (e_L 11 (0, ei_if1 0 16 14, 0, 0)) (e_L 14 (0, ei_push (0, 0) 15, 0, 0)))) (e_T 15 (e_L 15 (1, e_nof, 4, 0)) (e_T 16 (e_L 16 (0, ei_load 0 2 17, 0, 0)) (e_L 17 (0, ei_getf eft elay 9 15 20, 0, 0)))))) (e_T 29 (e_T 24 (e_T 20 (e_L 20 (0, ei_load 0 2 21, 0, 0)) (e_T 21 (e_L 21 (0, ei_getf eft elay 9 13 24, 0, 0)) (e_L 24 (0, ei_bin eF_sub 25, 0, 0)))) (e_T 25 (e_L 25 (0, ei_load 0 2 26, 0, 0)) (e_T 26 (e_L 26 (0, ei_getf eft elay 9 16 29, 0, 0)) (e_L 29 (0, ei_load 0 2 30, 0, 0))))) (e_T 34 (e_T 30 (e_L 30 (0, ei_getf eft elay 9 14 33, 0, 0)) (e_T 33 (e_L 33 (0, ei_bin eF_sub 34, 0, 0)) (e_L 34 (0, ei_load 1 0 35, 0, 0)))) (e_T 35 (e_L 35 (0, ei_load 0 2 36, 0, 0)) (e_T 36 (e_L 36 (0, ei_getf eft elay 9 13 39, 0, 0)) (e_L 39 (0, ei_bin eF_sub 40, 0, 0)))))))
set_option maxRecDepth 20000 in
set_option maxHeartbeats 4000000 in
theorem te_175_0_ok : ∀ pc, e_EOq eft cls elay eI n_175 pc (te_175_0 pc) :=
  (e_Tok2
  (e_Tok2
  (e_Tok2
  (e_Tok2
  (e_Lok (ld_aload_n_0 (x_dk dn_175_0_0_ok 0 rfl)))
  (e_Tok2
  (e_Lok (ld_iload_n_1 (x_dk dn_175_0_0_ok 1 rfl)))
  (e_Lok (ld_iload_n_2 (x_dk dn_175_0_0_ok 2 rfl)))))
  (e_Tok2
  (e_Lok (ld_iload_n_3 (x_dk dn_175_0_0_ok 3 rfl)))
  (e_Tok2
  (e_Lok (ld_iload_4 (x_dk dn_175_0_0_ok 4 rfl)))
  (e_Lok (ld_iload_5 (x_dk dn_175_0_0_ok 5 rfl))))))
  (e_Tok2
  (e_Tok2
  (e_Lok (lk_9_112 ho_175 (x_dk dn_175_0_0_ok 6 rfl)))
  (e_Tok2
  (e_Lok (e_st (I := eI) (er_ifeq (off := 5) (tg := 16) (x_dk dn_175_0_0_ok 7 rfl) (by decide)) nx_if1))
  (e_Lok (ps_iconst_0 (x_dk dn_175_0_0_ok 8 rfl)))))
  (e_Tok2
  (e_Lok (e_rt (I := eI) (k := 4) ⟨(x_dk dn_175_0_0_ok 9 rfl), rfl⟩))
  (e_Tok2
  (e_Lok (ld_aload_n_0 (x_dk dn_175_0_0_ok 10 rfl)))
  (e_Lok (lk_9_87g ho_175 (x_dk dn_175_0_0_ok 11 rfl)))))))
  (e_Tok2
  (e_Tok2
  (e_Tok2
  (e_Lok (ld_aload_n_0 (x_dk dn_175_0_0_ok 12 rfl)))
  (e_Tok2
  (e_Lok (lk_9_81g ho_175 (x_dk dn_175_0_0_ok 13 rfl)))
  (e_Lok (sm_isub (x_dk dn_175_0_0_ok 14 rfl)))))
  (e_Tok2
  (e_Lok (ld_aload_n_0 (x_dk dn_175_0_0_ok 15 rfl)))
  (e_Tok2
  (e_Lok (lk_9_90g ho_175 (x_dk dn_175_0_0_ok 16 rfl)))
  (e_Lok (ld_aload_n_0 (x_dk dn_175_0_0_ok 17 rfl))))))
  (e_Tok2
  (e_Tok2
  (e_Lok (lk_9_84g ho_175 (x_dk dn_175_0_0_ok 18 rfl)))
  (e_Tok2
  (e_Lok (sm_isub (x_dk dn_175_0_0_ok 19 rfl)))
  (e_Lok (ld_iload_n_1 (x_dk dn_175_0_0_ok 20 rfl)))))
  (e_Tok2
  (e_Lok (ld_aload_n_0 (x_dk dn_175_0_0_ok 21 rfl)))
  (e_Tok2
  (e_Lok (lk_9_81g ho_175 (x_dk dn_175_0_0_ok 22 rfl)))
  (e_Lok (sm_isub (x_dk dn_175_0_0_ok 23 rfl))))))))
def te_175_24 : Nat → eE := (e_T 60 (e_T 49 (e_T 42 (e_T 40 (e_L 40 (0, ei_load 2 0 41, 0, 0)) (e_T 41 (e_L 41 (0, ei_load 0 2 42, 0, 0)) (e_L 42 (0, ei_getf eft elay 9 14 45, 0, 0)))) (e_T 45 (e_L 45 (0, ei_bin eF_sub 46, 0, 0)) (e_T 46 (e_L 46 (2, e_nof, 177, 4)) (e_L 49 (0, ei_stor 6 1 51, 0, 0))))) (e_T 55 (e_T 51 (e_L 51 (0, ei_load 0 2 52, 0, 0)) (e_T 52 (e_L 52 (0, ei_getf eft elay 9 15 55, 0, 0)) (e_L 55 (0, ei_load 0 2 56, 0, 0)))) (e_T 56 (e_L 56 (0, ei_getf eft elay 9 13 59, 0, 0)) (e_T 59 (e_L 59 (0, ei_bin eF_sub 60, 0, 0)) (e_L 60 (0, ei_load 0 2 61, 0, 0)))))) (e_T 70 (e_T 65 (e_T 61 (e_L 61 (0, ei_getf eft elay 9 16 64, 0, 0)) (e_T 64 (e_L 64 (0, ei_load 0 2 65, 0, 0)) (e_L 65 (0, ei_getf eft elay 9 14 68, 0, 0)))) (e_T 68 (e_L 68 (0, ei_bin eF_sub 69, 0, 0)) (e_T 69 (e_L 69 (0, ei_load 3 0 70, 0, 0)) (e_L 70 (0, ei_load 0 2 71, 0, 0))))) (e_T 75 (e_T 71 (e_L 71 (0, ei_getf eft elay 9 13 74, 0, 0)) (e_T 74 (e_L 74 (0, ei_bin eF_sub 75, 0, 0)) (e_L 75 (0, ei_load 4 0 77, 0, 0)))) (e_T 78 (e_T 77 (e_L 77 (0, ei_load 0 2 78, 0, 0)) (e_L 78 (0, ei_getf eft elay 9 14 81, 0, 0))) (e_T 81 (e_L 81 (0, ei_bin eF_sub 82, 0, 0)) (e_L 82 (2, e_nof, 177, 4)))))))
set_option maxRecDepth 20000 in
set_option maxHeartbeats 4000000 in
theorem te_175_24_ok : ∀ pc, e_EOq eft cls elay eI n_175 pc (te_175_24 pc) :=
  (e_Tok2
  (e_Tok2
  (e_Tok2
  (e_Tok2
  (e_Lok (ld_iload_n_2 (x_dk dn_175_0_0_ok 24 rfl)))
  (e_Tok2
  (e_Lok (ld_aload_n_0 (x_dk dn_175_0_1_ok 0 rfl)))
  (e_Lok (lk_9_84g ho_175 (x_dk dn_175_0_1_ok 1 rfl)))))
  (e_Tok2
  (e_Lok (sm_isub (x_dk dn_175_0_1_ok 2 rfl)))
  (e_Tok2
  (e_Lok (lk_9_124 ho_175 (x_dk dn_175_0_1_ok 3 rfl)))
  (e_Lok (e_st (I := eI) (er_lstore (i := 6) (x_dk dn_175_0_1_ok 4 rfl) (by decide +kernel)) nx_stor)))))
  (e_Tok2
  (e_Tok2
  (e_Lok (ld_aload_n_0 (x_dk dn_175_0_1_ok 5 rfl)))
  (e_Tok2
  (e_Lok (lk_9_87g ho_175 (x_dk dn_175_0_1_ok 6 rfl)))
  (e_Lok (ld_aload_n_0 (x_dk dn_175_0_1_ok 7 rfl)))))
  (e_Tok2
  (e_Lok (lk_9_81g ho_175 (x_dk dn_175_0_1_ok 8 rfl)))
  (e_Tok2
  (e_Lok (sm_isub (x_dk dn_175_0_1_ok 9 rfl)))
  (e_Lok (ld_aload_n_0 (x_dk dn_175_0_1_ok 10 rfl)))))))
  (e_Tok2
  (e_Tok2
  (e_Tok2
  (e_Lok (lk_9_90g ho_175 (x_dk dn_175_0_1_ok 11 rfl)))
  (e_Tok2
  (e_Lok (ld_aload_n_0 (x_dk dn_175_0_1_ok 12 rfl)))
  (e_Lok (lk_9_84g ho_175 (x_dk dn_175_0_1_ok 13 rfl)))))
  (e_Tok2
  (e_Lok (sm_isub (x_dk dn_175_0_1_ok 14 rfl)))
  (e_Tok2
  (e_Lok (ld_iload_n_3 (x_dk dn_175_0_1_ok 15 rfl)))
  (e_Lok (ld_aload_n_0 (x_dk dn_175_0_1_ok 16 rfl))))))
  (e_Tok2
  (e_Tok2
  (e_Lok (lk_9_81g ho_175 (x_dk dn_175_0_1_ok 17 rfl)))
  (e_Tok2
  (e_Lok (sm_isub (x_dk dn_175_0_1_ok 18 rfl)))
  (e_Lok (ld_iload_4 (x_dk dn_175_0_1_ok 19 rfl)))))
  (e_Tok2
  (e_Tok2
  (e_Lok (ld_aload_n_0 (x_dk dn_175_0_1_ok 20 rfl)))
  (e_Lok (lk_9_84g ho_175 (x_dk dn_175_0_1_ok 21 rfl))))
  (e_Tok2
  (e_Lok (sm_isub (x_dk dn_175_0_1_ok 22 rfl)))
  (e_Lok (lk_9_124 ho_175 (x_dk dn_175_0_1_ok 23 rfl))))))))
def te_175_49 : Nat → eE := (e_T 100 (e_T 92 (e_T 88 (e_T 85 (e_L 85 (0, ei_stor 8 1 87, 0, 0)) (e_T 87 (e_L 87 (0, ei_load 3 0 88, 0, 0)) (e_L 88 (0, ei_load 1 0 89, 0, 0)))) (e_T 89 (e_L 89 (0, ei_bin eF_sub 90, 0, 0)) (e_T 90 (e_L 90 (0, ei_load 4 0 92, 0, 0)) (e_L 92 (0, ei_load 2 0 93, 0, 0))))) (e_T 95 (e_T 93 (e_L 93 (0, ei_bin eF_sub 94, 0, 0)) (e_T 94 (e_L 94 (0, ei_load 0 2 95, 0, 0)) (e_L 95 (0, ei_getf eft elay 9 13 98, 0, 0)))) (e_T 98 (e_L 98 (0, ei_load 1 0 99, 0, 0)) (e_T 99 (e_L 99 (0, ei_bin eF_sub 100, 0, 0)) (e_L 100 (0, ei_load 0 2 101, 0, 0)))))) (e_T 111 (e_T 105 (e_T 101 (e_L 101 (0, ei_getf eft elay 9 14 104, 0, 0)) (e_T 104 (e_L 104 (0, ei_load 2 0 105, 0, 0)) (e_L 105 (0, ei_bin eF_sub 106, 0, 0)))) (e_T 106 (e_L 106 (2, e_nof, 177, 4)) (e_T 109 (e_L 109 (0, ei_stor 10 1 111, 0, 0)) (e_L 111 (0, ei_load 3 0 112, 0, 0))))) (e_T 114 (e_T 112 (e_L 112 (0, ei_load 1 0 113, 0, 0)) (e_T 113 (e_L 113 (0, ei_bin eF_sub 114, 0, 0)) (e_L 114 (0, ei_load 4 0 116, 0, 0)))) (e_T 116 (e_L 116 (0, ei_load 2 0 117, 0, 0)) (e_T 117 (e_L 117 (0, ei_bin eF_sub 118, 0, 0)) (e_L 118 (0, ei_load 0 2 119, 0, 0)))))))
set_option maxRecDepth 20000 in
set_option maxHeartbeats 4000000 in
theorem te_175_49_ok : ∀ pc, e_EOq eft cls elay eI n_175 pc (te_175_49 pc) :=
  (e_Tok2
  (e_Tok2
  (e_Tok2
  (e_Tok2
  (e_Lok (e_st (I := eI) (er_lstore (i := 8) (x_dk dn_175_0_1_ok 24 rfl) (by decide +kernel)) nx_stor))
  (e_Tok2
  (e_Lok (ld_iload_n_3 (x_dk dn_175_0_2_ok 0 rfl)))
  (e_Lok (ld_iload_n_1 (x_dk dn_175_0_2_ok 1 rfl)))))
  (e_Tok2
  (e_Lok (sm_isub (x_dk dn_175_0_2_ok 2 rfl)))
  (e_Tok2
  (e_Lok (ld_iload_4 (x_dk dn_175_0_2_ok 3 rfl)))
  (e_Lok (ld_iload_n_2 (x_dk dn_175_0_2_ok 4 rfl))))))
  (e_Tok2
  (e_Tok2
  (e_Lok (sm_isub (x_dk dn_175_0_2_ok 5 rfl)))
  (e_Tok2
  (e_Lok (ld_aload_n_0 (x_dk dn_175_0_2_ok 6 rfl)))
  (e_Lok (lk_9_81g ho_175 (x_dk dn_175_0_2_ok 7 rfl)))))
  (e_Tok2
  (e_Lok (ld_iload_n_1 (x_dk dn_175_0_2_ok 8 rfl)))
  (e_Tok2
  (e_Lok (sm_isub (x_dk dn_175_0_2_ok 9 rfl)))
  (e_Lok (ld_aload_n_0 (x_dk dn_175_0_2_ok 10 rfl)))))))
  (e_Tok2
  (e_Tok2
  (e_Tok2
  (e_Lok (lk_9_84g ho_175 (x_dk dn_175_0_2_ok 11 rfl)))
  (e_Tok2
  (e_Lok (ld_iload_n_2 (x_dk dn_175_0_2_ok 12 rfl)))
  (e_Lok (sm_isub (x_dk dn_175_0_2_ok 13 rfl)))))
  (e_Tok2
  (e_Lok (lk_9_124 ho_175 (x_dk dn_175_0_2_ok 14 rfl)))
  (e_Tok2
  (e_Lok (e_st (I := eI) (er_lstore (i := 10) (x_dk dn_175_0_2_ok 15 rfl) (by decide +kernel)) nx_stor))
  (e_Lok (ld_iload_n_3 (x_dk dn_175_0_2_ok 16 rfl))))))
  (e_Tok2
  (e_Tok2
  (e_Lok (ld_iload_n_1 (x_dk dn_175_0_2_ok 17 rfl)))
  (e_Tok2
  (e_Lok (sm_isub (x_dk dn_175_0_2_ok 18 rfl)))
  (e_Lok (ld_iload_4 (x_dk dn_175_0_2_ok 19 rfl)))))
  (e_Tok2
  (e_Lok (ld_iload_n_2 (x_dk dn_175_0_2_ok 20 rfl)))
  (e_Tok2
  (e_Lok (sm_isub (x_dk dn_175_0_2_ok 21 rfl)))
  (e_Lok (ld_aload_n_0 (x_dk dn_175_0_2_ok 22 rfl))))))))
def te_175_73 : Nat → eE := (e_T 138 (e_T 128 (e_T 123 (e_T 119 (e_L 119 (0, ei_getf eft elay 9 15 122, 0, 0)) (e_T 122 (e_L 122 (0, ei_load 1 0 123, 0, 0)) (e_L 123 (0, ei_bin eF_sub 124, 0, 0)))) (e_T 124 (e_L 124 (0, ei_load 0 2 125, 0, 0)) (e_T 125 (e_L 125 (0, ei_getf eft elay 9 16 128, 0, 0)) (e_L 128 (0, ei_load 2 0 129, 0, 0))))) (e_T 133 (e_T 129 (e_L 129 (0, ei_bin eF_sub 130, 0, 0)) (e_T 130 (e_L 130 (2, e_nof, 177, 4)) (e_L 133 (0, ei_stor 12 1 135, 0, 0)))) (e_T 135 (e_L 135 (0, ei_load 6 1 137, 0, 0)) (e_T 137 (e_L 137 (0, ei_push (4, 0) 138, 0, 0)) (e_L 138 (0, ei_binL eG_cmp 139, 0, 0)))))) (e_T 149 (e_T 144 (e_T 139 (e_L 139 (0, ei_if1 3 149 142, 0, 0)) (e_T 142 (e_L 142 (0, ei_load 8 1 144, 0, 0)) (e_L 144 (0, ei_push (4, 0) 145, 0, 0)))) (e_T 145 (e_L 145 (0, ei_binL eG_cmp 146, 0, 0)) (e_T 146 (e_L 146 (0, ei_if1 4 163 149, 0, 0)) (e_L 149 (0, ei_load 6 1 151, 0, 0))))) (e_T 153 (e_T 151 (e_L 151 (0, ei_push (4, 0) 152, 0, 0)) (e_T 152 (e_L 152 (0, ei_binL eG_cmp 153, 0, 0)) (e_L 153 (0, ei_if1 5 193 156, 0, 0)))) (e_T 158 (e_T 156 (e_L 156 (0, ei_load 8 1 158, 0, 0)) (e_L 158 (0, ei_push (4, 0) 159, 0, 0))) (e_T 159 (e_L 159 (0, ei_binL eG_cmp 160, 0, 0)) (e_L 160 (0, ei_if1 3 193 163, 0, 0)))))))
set_option maxRecDepth 20000 in
set_option maxHeartbeats 4000000 in
theorem te_175_73_ok : ∀ pc, e_EOq eft cls elay eI n_175 pc (te_175_73 pc) :=
  (e_Tok2
  (e_Tok2
  (e_Tok2
  (e_Tok2
  (e_Lok (lk_9_87g ho_175 (x_dk dn_175_0_2_ok 23 rfl)))
  (e_Tok2
  (e_Lok (ld_iload_n_1 (x_dk dn_175_0_2_ok 24 rfl)))
  (e_Lok (sm_isub (x_dk dn_175_0_3_ok 0 rfl)))))
  (e_Tok2
  (e_Lok (ld_aload_n_0 (x_dk dn_175_0_3_ok 1 rfl)))
  (e_Tok2
  (e_Lok (lk_9_90g ho_175 (x_dk dn_175_0_3_ok 2 rfl)))
  (e_Lok (ld_iload_n_2 (x_dk dn_175_0_3_ok 3 rfl))))))
  (e_Tok2
  (e_Tok2
  (e_Lok (sm_isub (x_dk dn_175_0_3_ok 4 rfl)))
  (e_Tok2
  (e_Lok (lk_9_124 ho_175 (x_dk dn_175_0_3_ok 5 rfl)))
  (e_Lok (e_st (I := eI) (er_lstore (i := 12) (x_dk dn_175_0_3_ok 6 rfl) (by decide +kernel)) nx_stor))))
  (e_Tok2
  (e_Lok (ld_lload_6 (x_dk dn_175_0_3_ok 7 rfl)))
  (e_Tok2
  (e_Lok (ps_lconst_0 (x_dk dn_175_0_3_ok 8 rfl)))
  (e_Lok (e_st (I := eI) (er_lcmp (x_dk dn_175_0_3_ok 9 rfl)) (nx_binL bG_lcmp)))))))
  (e_Tok2
  (e_Tok2
  (e_Tok2
  (e_Lok (e_st (I := eI) (er_ifge (off := 10) (tg := 149) (x_dk dn_175_0_3_ok 10 rfl) (by decide)) nx_if1))
  (e_Tok2
  (e_Lok (ld_lload_8 (x_dk dn_175_0_3_ok 11 rfl)))
  (e_Lok (ps_lconst_0 (x_dk dn_175_0_3_ok 12 rfl)))))
  (e_Tok2
  (e_Lok (e_st (I := eI) (er_lcmp (x_dk dn_175_0_3_ok 13 rfl)) (nx_binL bG_lcmp)))
  (e_Tok2
  (e_Lok (e_st (I := eI) (er_ifgt (off := 17) (tg := 163) (x_dk dn_175_0_3_ok 14 rfl) (by decide)) nx_if1))
  (e_Lok (ld_lload_6 (x_dk dn_175_0_3_ok 15 rfl))))))
  (e_Tok2
  (e_Tok2
  (e_Lok (ps_lconst_0 (x_dk dn_175_0_3_ok 16 rfl)))
  (e_Tok2
  (e_Lok (e_st (I := eI) (er_lcmp (x_dk dn_175_0_3_ok 17 rfl)) (nx_binL bG_lcmp)))
  (e_Lok (e_st (I := eI) (er_ifle (off := 40) (tg := 193) (x_dk dn_175_0_3_ok 18 rfl) (by decide)) nx_if1))))
  (e_Tok2
  (e_Tok2
  (e_Lok (ld_lload_8 (x_dk dn_175_0_3_ok 19 rfl)))
  (e_Lok (ps_lconst_0 (x_dk dn_175_0_3_ok 20 rfl))))
  (e_Tok2
  (e_Lok (e_st (I := eI) (er_lcmp (x_dk dn_175_0_3_ok 21 rfl)) (nx_binL bG_lcmp)))
  (e_Lok (e_st (I := eI) (er_ifge (off := 33) (tg := 193) (x_dk dn_175_0_3_ok 22 rfl) (by decide)) nx_if1)))))))
def te_175_98 : Nat → eE := (e_T 181 (e_T 172 (e_T 166 (e_T 163 (e_L 163 (0, ei_load 10 1 165, 0, 0)) (e_T 165 (e_L 165 (0, ei_push (4, 0) 166, 0, 0)) (e_L 166 (0, ei_binL eG_cmp 167, 0, 0)))) (e_T 167 (e_L 167 (0, ei_if1 3 177 170, 0, 0)) (e_T 170 (e_L 170 (0, ei_load 12 1 172, 0, 0)) (e_L 172 (0, ei_push (4, 0) 173, 0, 0))))) (e_T 177 (e_T 173 (e_L 173 (0, ei_binL eG_cmp 174, 0, 0)) (e_T 174 (e_L 174 (0, ei_if1 4 191 177, 0, 0)) (e_L 177 (0, ei_load 10 1 179, 0, 0)))) (e_T 179 (e_L 179 (0, ei_push (4, 0) 180, 0, 0)) (e_T 180 (e_L 180 (0, ei_binL eG_cmp 181, 0, 0)) (e_L 181 (0, ei_if1 5 193 184, 0, 0)))))) (e_T 192 (e_T 187 (e_T 184 (e_L 184 (0, ei_load 12 1 186, 0, 0)) (e_T 186 (e_L 186 (0, ei_push (4, 0) 187, 0, 0)) (e_L 187 (0, ei_binL eG_cmp 188, 0, 0)))) (e_T 188 (e_L 188 (0, ei_if1 3 193 191, 0, 0)) (e_T 191 (e_L 191 (0, ei_push (0, 1) 192, 0, 0)) (e_L 192 (1, e_nof, 4, 0))))) (e_T 197 (e_T 193 (e_L 193 (0, ei_load 0 2 194, 0, 0)) (e_T 194 (e_L 194 (0, ei_getf eft elay 9 15 197, 0, 0)) (e_L 197 (0, ei_load 0 2 198, 0, 0)))) (e_T 198 (e_L 198 (0, ei_getf eft elay 9 13 201, 0, 0)) (e_T 201 (e_L 201 (0, ei_bin eF_sub 202, 0, 0)) (e_L 202 (0, ei_load 0 2 203, 0, 0)))))))
set_option maxRecDepth 20000 in
set_option maxHeartbeats 4000000 in
theorem te_175_98_ok : ∀ pc, e_EOq eft cls elay eI n_175 pc (te_175_98 pc) :=
  (e_Tok2
  (e_Tok2
  (e_Tok2
  (e_Tok2
  (e_Lok (ld_lload_10 (x_dk dn_175_0_3_ok 23 rfl)))
  (e_Tok2
  (e_Lok (ps_lconst_0 (x_dk dn_175_0_3_ok 24 rfl)))
  (e_Lok (e_st (I := eI) (er_lcmp (x_dk dn_175_1_0_ok 0 rfl)) (nx_binL bG_lcmp)))))
  (e_Tok2
  (e_Lok (e_st (I := eI) (er_ifge (off := 10) (tg := 177) (x_dk dn_175_1_0_ok 1 rfl) (by decide)) nx_if1))
  (e_Tok2
  (e_Lok (ld_lload_12 (x_dk dn_175_1_0_ok 2 rfl)))
  (e_Lok (ps_lconst_0 (x_dk dn_175_1_0_ok 3 rfl))))))
  (e_Tok2
  (e_Tok2
  (e_Lok (e_st (I := eI) (er_lcmp (x_dk dn_175_1_0_ok 4 rfl)) (nx_binL bG_lcmp)))
  (e_Tok2
  (e_Lok (e_st (I := eI) (er_ifgt (off := 17) (tg := 191) (x_dk dn_175_1_0_ok 5 rfl) (by decide)) nx_if1))
  (e_Lok (ld_lload_10 (x_dk dn_175_1_0_ok 6 rfl)))))
  (e_Tok2
  (e_Lok (ps_lconst_0 (x_dk dn_175_1_0_ok 7 rfl)))
  (e_Tok2
  (e_Lok (e_st (I := eI) (er_lcmp (x_dk dn_175_1_0_ok 8 rfl)) (nx_binL bG_lcmp)))
  (e_Lok (e_st (I := eI) (er_ifle (off := 12) (tg := 193) (x_dk dn_175_1_0_ok 9 rfl) (by decide)) nx_if1))))))
  (e_Tok2
  (e_Tok2
  (e_Tok2
  (e_Lok (ld_lload_12 (x_dk dn_175_1_0_ok 10 rfl)))
  (e_Tok2
  (e_Lok (ps_lconst_0 (x_dk dn_175_1_0_ok 11 rfl)))
  (e_Lok (e_st (I := eI) (er_lcmp (x_dk dn_175_1_0_ok 12 rfl)) (nx_binL bG_lcmp)))))
  (e_Tok2
  (e_Lok (e_st (I := eI) (er_ifge (off := 5) (tg := 193) (x_dk dn_175_1_0_ok 13 rfl) (by decide)) nx_if1))
  (e_Tok2
  (e_Lok (ps_iconst_1 (x_dk dn_175_1_0_ok 14 rfl)))
  (e_Lok (e_rt (I := eI) (k := 4) ⟨(x_dk dn_175_1_0_ok 15 rfl), rfl⟩)))))
  (e_Tok2
  (e_Tok2
  (e_Lok (ld_aload_n_0 (x_dk dn_175_1_0_ok 16 rfl)))
  (e_Tok2
  (e_Lok (lk_9_87g ho_175 (x_dk dn_175_1_0_ok 17 rfl)))
  (e_Lok (ld_aload_n_0 (x_dk dn_175_1_0_ok 18 rfl)))))
  (e_Tok2
  (e_Lok (lk_9_81g ho_175 (x_dk dn_175_1_0_ok 19 rfl)))
  (e_Tok2
  (e_Lok (sm_isub (x_dk dn_175_1_0_ok 20 rfl)))
  (e_Lok (ld_aload_n_0 (x_dk dn_175_1_0_ok 21 rfl))))))))
def te_175_122 : Nat → eE := (e_T 222 (e_T 212 (e_T 207 (e_T 203 (e_L 203 (0, ei_getf eft elay 9 16 206, 0, 0)) (e_T 206 (e_L 206 (0, ei_load 0 2 207, 0, 0)) (e_L 207 (0, ei_getf eft elay 9 14 210, 0, 0)))) (e_T 210 (e_L 210 (0, ei_bin eF_sub 211, 0, 0)) (e_T 211 (e_L 211 (0, ei_load 1 0 212, 0, 0)) (e_L 212 (0, ei_load 0 2 213, 0, 0))))) (e_T 217 (e_T 213 (e_L 213 (0, ei_getf eft elay 9 13 216, 0, 0)) (e_T 216 (e_L 216 (0, ei_bin eF_sub 217, 0, 0)) (e_L 217 (0, ei_load 2 0 218, 0, 0)))) (e_T 218 (e_L 218 (0, ei_load 0 2 219, 0, 0)) (e_T 219 (e_L 219 (0, ei_getf eft elay 9 14 222, 0, 0)) (e_L 222 (0, ei_bin eF_sub 223, 0, 0)))))) (e_T 235 (e_T 228 (e_T 223 (e_L 223 (0, ei_load 5 0 225, 0, 0)) (e_T 225 (e_L 225 (2, e_nof, 176, 5)) (e_L 228 (0, ei_if1 1 324 231, 0, 0)))) (e_T 231 (e_L 231 (0, ei_load 0 2 232, 0, 0)) (e_T 232 (e_L 232 (0, ei_getf eft elay 9 15 235, 0, 0)) (e_L 235 (0, ei_load 0 2 236, 0, 0))))) (e_T 240 (e_T 236 (e_L 236 (0, ei_getf eft elay 9 13 239, 0, 0)) (e_T 239 (e_L 239 (0, ei_bin eF_sub 240, 0, 0)) (e_L 240 (0, ei_load 0 2 241, 0, 0)))) (e_T 244 (e_T 241 (e_L 241 (0, ei_getf eft elay 9 16 244, 0, 0)) (e_L 244 (0, ei_load 0 2 245, 0, 0))) (e_T 245 (e_L 245 (0, ei_getf eft elay 9 14 248, 0, 0)) (e_L 248 (0, ei_bin eF_sub 249, 0, 0)))))))
set_option maxRecDepth 20000 in
set_option maxHeartbeats 4000000 in
theorem te_175_122_ok : ∀ pc, e_EOq eft cls elay eI n_175 pc (te_175_122 pc) :=
  (e_Tok2
  (e_Tok2
  (e_Tok2
  (e_Tok2
  (e_Lok (lk_9_90g ho_175 (x_dk dn_175_1_0_ok 22 rfl)))
  (e_Tok2
  (e_Lok (ld_aload_n_0 (x_dk dn_175_1_0_ok 23 rfl)))
  (e_Lok (lk_9_84g ho_175 (x_dk dn_175_1_0_ok 24 rfl)))))
  (e_Tok2
  (e_Lok (sm_isub (x_dk dn_175_1_1_ok 0 rfl)))
  (e_Tok2
  (e_Lok (ld_iload_n_1 (x_dk dn_175_1_1_ok 1 rfl)))
  (e_Lok (ld_aload_n_0 (x_dk dn_175_1_1_ok 2 rfl))))))
  (e_Tok2
  (e_Tok2
  (e_Lok (lk_9_81g ho_175 (x_dk dn_175_1_1_ok 3 rfl)))
  (e_Tok2
  (e_Lok (sm_isub (x_dk dn_175_1_1_ok 4 rfl)))
  (e_Lok (ld_iload_n_2 (x_dk dn_175_1_1_ok 5 rfl)))))
  (e_Tok2
  (e_Lok (ld_aload_n_0 (x_dk dn_175_1_1_ok 6 rfl)))
  (e_Tok2
  (e_Lok (lk_9_84g ho_175 (x_dk dn_175_1_1_ok 7 rfl)))
  (e_Lok (sm_isub (x_dk dn_175_1_1_ok 8 rfl)))))))
  (e_Tok2
  (e_Tok2
  (e_Tok2
  (e_Lok (ld_iload_5 (x_dk dn_175_1_1_ok 9 rfl)))
  (e_Tok2
  (e_Lok (lk_9_128 ho_175 (x_dk dn_175_1_1_ok 10 rfl)))
  (e_Lok (e_st (I := eI) (er_ifne (off := 96) (tg := 324) (x_dk dn_175_1_1_ok 11 rfl) (by decide)) nx_if1))))
  (e_Tok2
  (e_Lok (ld_aload_n_0 (x_dk dn_175_1_1_ok 12 rfl)))
  (e_Tok2
  (e_Lok (lk_9_87g ho_175 (x_dk dn_175_1_1_ok 13 rfl)))
  (e_Lok (ld_aload_n_0 (x_dk dn_175_1_1_ok 14 rfl))))))
  (e_Tok2
  (e_Tok2
  (e_Lok (lk_9_81g ho_175 (x_dk dn_175_1_1_ok 15 rfl)))
  (e_Tok2
  (e_Lok (sm_isub (x_dk dn_175_1_1_ok 16 rfl)))
  (e_Lok (ld_aload_n_0 (x_dk dn_175_1_1_ok 17 rfl)))))
  (e_Tok2
  (e_Tok2
  (e_Lok (lk_9_90g ho_175 (x_dk dn_175_1_1_ok 18 rfl)))
  (e_Lok (ld_aload_n_0 (x_dk dn_175_1_1_ok 19 rfl))))
  (e_Tok2
  (e_Lok (lk_9_84g ho_175 (x_dk dn_175_1_1_ok 20 rfl)))
  (e_Lok (sm_isub (x_dk dn_175_1_1_ok 21 rfl))))))))
def te_175_147 : Nat → eE := (e_T 270 (e_T 257 (e_T 251 (e_T 249 (e_L 249 (0, ei_load 3 0 250, 0, 0)) (e_T 250 (e_L 250 (0, ei_load 0 2 251, 0, 0)) (e_L 251 (0, ei_getf eft elay 9 13 254, 0, 0)))) (e_T 254 (e_L 254 (0, ei_bin eF_sub 255, 0, 0)) (e_T 255 (e_L 255 (0, ei_load 4 0 257, 0, 0)) (e_L 257 (0, ei_load 0 2 258, 0, 0))))) (e_T 262 (e_T 258 (e_L 258 (0, ei_getf eft elay 9 14 261, 0, 0)) (e_T 261 (e_L 261 (0, ei_bin eF_sub 262, 0, 0)) (e_L 262 (0, ei_load 5 0 264, 0, 0)))) (e_T 264 (e_L 264 (2, e_nof, 176, 5)) (e_T 267 (e_L 267 (0, ei_if1 1 324 270, 0, 0)) (e_L 270 (0, ei_load 3 0 271, 0, 0)))))) (e_T 277 (e_T 273 (e_T 271 (e_L 271 (0, ei_load 1 0 272, 0, 0)) (e_T 272 (e_L 272 (0, ei_bin eF_sub 273, 0, 0)) (e_L 273 (0, ei_load 4 0 275, 0, 0)))) (e_T 275 (e_L 275 (0, ei_load 2 0 276, 0, 0)) (e_T 276 (e_L 276 (0, ei_bin eF_sub 277, 0, 0)) (e_L 277 (0, ei_load 0 2 278, 0, 0))))) (e_T 282 (e_T 278 (e_L 278 (0, ei_getf eft elay 9 13 281, 0, 0)) (e_T 281 (e_L 281 (0, ei_load 1 0 282, 0, 0)) (e_L 282 (0, ei_bin eF_sub 283, 0, 0)))) (e_T 283 (e_L 283 (0, ei_load 0 2 284, 0, 0)) (e_T 284 (e_L 284 (0, ei_getf eft elay 9 14 287, 0, 0)) (e_L 287 (0, ei_load 2 0 288, 0, 0)))))))
set_option maxRecDepth 20000 in
set_option maxHeartbeats 4000000 in
theorem te_175_147_ok : ∀ pc, e_EOq eft cls elay eI n_175 pc (te_175_147 pc) :=
  (e_Tok2
  (e_Tok2
  (e_Tok2
  (e_Tok2
  (e_Lok (ld_iload_n_3 (x_dk dn_175_1_1_ok 22 rfl)))
  (e_Tok2
  (e_Lok (ld_aload_n_0 (x_dk dn_175_1_1_ok 23 rfl)))
  (e_Lok (lk_9_81g ho_175 (x_dk dn_175_1_1_ok 24 rfl)))))
  (e_Tok2
  (e_Lok (sm_isub (x_dk dn_175_1_2_ok 0 rfl)))
  (e_Tok2
  (e_Lok (ld_iload_4 (x_dk dn_175_1_2_ok 1 rfl)))
  (e_Lok (ld_aload_n_0 (x_dk dn_175_1_2_ok 2 rfl))))))
  (e_Tok2
  (e_Tok2
  (e_Lok (lk_9_84g ho_175 (x_dk dn_175_1_2_ok 3 rfl)))
  (e_Tok2
  (e_Lok (sm_isub (x_dk dn_175_1_2_ok 4 rfl)))
  (e_Lok (ld_iload_5 (x_dk dn_175_1_2_ok 5 rfl)))))
  (e_Tok2
  (e_Lok (lk_9_128 ho_175 (x_dk dn_175_1_2_ok 6 rfl)))
  (e_Tok2
  (e_Lok (e_st (I := eI) (er_ifne (off := 57) (tg := 324) (x_dk dn_175_1_2_ok 7 rfl) (by decide)) nx_if1))
  (e_Lok (ld_iload_n_3 (x_dk dn_175_1_2_ok 8 rfl)))))))
  (e_Tok2
  (e_Tok2
  (e_Tok2
  (e_Lok (ld_iload_n_1 (x_dk dn_175_1_2_ok 9 rfl)))
  (e_Tok2
  (e_Lok (sm_isub (x_dk dn_175_1_2_ok 10 rfl)))
  (e_Lok (ld_iload_4 (x_dk dn_175_1_2_ok 11 rfl)))))
  (e_Tok2
  (e_Lok (ld_iload_n_2 (x_dk dn_175_1_2_ok 12 rfl)))
  (e_Tok2
  (e_Lok (sm_isub (x_dk dn_175_1_2_ok 13 rfl)))
  (e_Lok (ld_aload_n_0 (x_dk dn_175_1_2_ok 14 rfl))))))
  (e_Tok2
  (e_Tok2
  (e_Lok (lk_9_81g ho_175 (x_dk dn_175_1_2_ok 15 rfl)))
  (e_Tok2
  (e_Lok (ld_iload_n_1 (x_dk dn_175_1_2_ok 16 rfl)))
  (e_Lok (sm_isub (x_dk dn_175_1_2_ok 17 rfl)))))
  (e_Tok2
  (e_Lok (ld_aload_n_0 (x_dk dn_175_1_2_ok 18 rfl)))
  (e_Tok2
  (e_Lok (lk_9_84g ho_175 (x_dk dn_175_1_2_ok 19 rfl)))
  (e_Lok (ld_iload_n_2 (x_dk dn_175_1_2_ok 20 rfl))))))))
def te_175_171 : Nat → eE := (e_T 305 (e_T 298 (e_T 291 (e_T 288 (e_L 288 (0, ei_bin eF_sub 289, 0, 0)) (e_T 289 (e_L 289 (0, ei_load 5 0 291, 0, 0)) (e_L 291 (2, e_nof, 176, 5)))) (e_T 294 (e_L 294 (0, ei_if1 1 324 297, 0, 0)) (e_T 297 (e_L 297 (0, ei_load 3 0 298, 0, 0)) (e_L 298 (0, ei_load 1 0 299, 0, 0))))) (e_T 302 (e_T 299 (e_L 299 (0, ei_bin eF_sub 300, 0, 0)) (e_T 300 (e_L 300 (0, ei_load 4 0 302, 0, 0)) (e_L 302 (0, ei_load 2 0 303, 0, 0)))) (e_T 303 (e_L 303 (0, ei_bin eF_sub 304, 0, 0)) (e_T 304 (e_L 304 (0, ei_load 0 2 305, 0, 0)) (e_L 305 (0, ei_getf eft elay 9 15 308, 0, 0)))))) (e_T 315 (e_T 310 (e_T 308 (e_L 308 (0, ei_load 1 0 309, 0, 0)) (e_T 309 (e_L 309 (0, ei_bin eF_sub 310, 0, 0)) (e_L 310 (0, ei_load 0 2 311, 0, 0)))) (e_T 311 (e_L 311 (0, ei_getf eft elay 9 16 314, 0, 0)) (e_T 314 (e_L 314 (0, ei_load 2 0 315, 0, 0)) (e_L 315 (0, ei_bin eF_sub 316, 0, 0))))) (e_T 321 (e_T 316 (e_L 316 (0, ei_load 5 0 318, 0, 0)) (e_T 318 (e_L 318 (2, e_nof, 176, 5)) (e_L 321 (0, ei_if1 0 328 324, 0, 0)))) (e_T 325 (e_T 324 (e_L 324 (0, ei_push (0, 1) 325, 0, 0)) (e_L 325 (0, ei_goto 329, 0, 0))) (e_T 328 (e_L 328 (0, ei_push (0, 0) 329, 0, 0)) (e_L 329 (1, e_nof, 4, 0)))))))
set_option maxRecDepth 20000 in
set_option maxHeartbeats 4000000 in
theorem te_175_171_ok : ∀ pc, e_EOq eft cls elay eI n_175 pc (te_175_171 pc) :=
  (e_Tok2
  (e_Tok2
  (e_Tok2
  (e_Tok2
  (e_Lok (sm_isub (x_dk dn_175_1_2_ok 21 rfl)))
  (e_Tok2
  (e_Lok (ld_iload_5 (x_dk dn_175_1_2_ok 22 rfl)))
  (e_Lok (lk_9_128 ho_175 (x_dk dn_175_1_2_ok 23 rfl)))))
  (e_Tok2
  (e_Lok (e_st (I := eI) (er_ifne (off := 30) (tg := 324) (x_dk dn_175_1_2_ok 24 rfl) (by decide)) nx_if1))
  (e_Tok2
  (e_Lok (ld_iload_n_3 (x_dk dn_175_1_3_ok 0 rfl)))
  (e_Lok (ld_iload_n_1 (x_dk dn_175_1_3_ok 1 rfl))))))
  (e_Tok2
  (e_Tok2
  (e_Lok (sm_isub (x_dk dn_175_1_3_ok 2 rfl)))
  (e_Tok2
  (e_Lok (ld_iload_4 (x_dk dn_175_1_3_ok 3 rfl)))
  (e_Lok (ld_iload_n_2 (x_dk dn_175_1_3_ok 4 rfl)))))
  (e_Tok2
  (e_Lok (sm_isub (x_dk dn_175_1_3_ok 5 rfl)))
  (e_Tok2
  (e_Lok (ld_aload_n_0 (x_dk dn_175_1_3_ok 6 rfl)))
  (e_Lok (lk_9_87g ho_175 (x_dk dn_175_1_3_ok 7 rfl)))))))
  (e_Tok2
  (e_Tok2
  (e_Tok2
  (e_Lok (ld_iload_n_1 (x_dk dn_175_1_3_ok 8 rfl)))
  (e_Tok2
  (e_Lok (sm_isub (x_dk dn_175_1_3_ok 9 rfl)))
  (e_Lok (ld_aload_n_0 (x_dk dn_175_1_3_ok 10 rfl)))))
  (e_Tok2
  (e_Lok (lk_9_90g ho_175 (x_dk dn_175_1_3_ok 11 rfl)))
  (e_Tok2
  (e_Lok (ld_iload_n_2 (x_dk dn_175_1_3_ok 12 rfl)))
  (e_Lok (sm_isub (x_dk dn_175_1_3_ok 13 rfl))))))
  (e_Tok2
  (e_Tok2
  (e_Lok (ld_iload_5 (x_dk dn_175_1_3_ok 14 rfl)))
  (e_Tok2
  (e_Lok (lk_9_128 ho_175 (x_dk dn_175_1_3_ok 15 rfl)))
  (e_Lok (e_st (I := eI) (er_ifeq (off := 7) (tg := 328) (x_dk dn_175_1_3_ok 16 rfl) (by decide)) nx_if1))))
  (e_Tok2
  (e_Tok2
  (e_Lok (ps_iconst_1 (x_dk dn_175_1_3_ok 17 rfl)))
  (e_Lok (e_st (I := eI) (er_goto (off := 4) (tg := 329) (x_dk dn_175_1_3_ok 18 rfl) (by decide)) nx_goto)))
  (e_Tok2
  (e_Lok (ps_iconst_0 (x_dk dn_175_1_3_ok 19 rfl)))
  (e_Lok (e_rt (I := eI) (k := 4) ⟨(x_dk dn_175_1_3_ok 20 rfl), rfl⟩)))))))
def te_175 : Nat → eE := (e_T 160 (e_T 82 (e_T 39 te_175_0 te_175_24) (e_T 118 te_175_49 te_175_73)) (e_T 248 (e_T 202 te_175_98 te_175_122) (e_T 287 te_175_147 te_175_171)))
theorem te_175_ok : ∀ pc, e_EOq eft cls elay eI n_175 pc (te_175 pc) := (e_Tok2 ((e_Tok2 ((e_Tok2 (te_175_0_ok) (te_175_24_ok))) ((e_Tok2 (te_175_49_ok) (te_175_73_ok))))) ((e_Tok2 ((e_Tok2 (te_175_98_ok) (te_175_122_ok))) ((e_Tok2 (te_175_147_ok) (te_175_171_ok))))))
end
end
-- part 41am
section
noncomputable section
theorem ho_176 : (xm_y n_176).cls = "RobotCellHouse$Shapes" := rfl
def dn_176_0_0 : List (Nat × Instr × Nat) := [(0, .iload 4, 2), (2, .i2l, 1), (3, .iload 4, 2), (5, .i2l, 1), (6, .lmul, 1), (7, .lstore 5, 2), (9, .iload_n 2, 1), (10, .i2l, 1), (11, .iload_n 2, 1), (12, .i2l, 1), (13, .lmul, 1), (14, .iload_n 3, 1), (15, .i2l, 1), (16, .iload_n 3, 1), (17, .i2l, 1), (18, .lmul, 1), (19, .ladd, 1), (20, .lstore 7, 2), (22, .iload_n 0, 1), (23, .i2l, 1), (24, .iload_n 2, 1), (25, .i2l, 1), (26, .lmul, 1), (27, .iload_n 1, 1), (28, .i2l, 1)]
set_option maxRecDepth 20000 in
theorem dn_176_0_0_ok : dn_176_0_0.all (fun q => decide (decode (xm_b n_176) q.1 = .ok (q.2.1, q.2.2))) = true := xa_g_ok (by decide +kernel)
def dn_176_0_1 : List (Nat × Instr × Nat) := [(29, .iload_n 3, 1), (30, .i2l, 1), (31, .lmul, 1), (32, .ladd, 1), (33, .lstore 9, 2), (35, .lload 9, 2), (37, .lconst 0, 1), (38, .lcmp, 1), (39, .ifCond .gt 17, 3), (42, .lload 7, 2), (44, .lload 5, 2), (46, .lcmp, 1), (47, .ifCond .gt 7, 3), (50, .iconst 1, 1), (51, .goto 4, 3), (54, .iconst 0, 1), (55, .ireturn, 1), (56, .iload_n 0, 1), (57, .i2l, 1), (58, .iload_n 0, 1), (59, .i2l, 1), (60, .lmul, 1), (61, .iload_n 1, 1), (62, .i2l, 1), (63, .iload_n 1, 1)]
set_option maxRecDepth 20000 in
theorem dn_176_0_1_ok : dn_176_0_1.all (fun q => decide (decode (xm_b n_176) q.1 = .ok (q.2.1, q.2.2))) = true := xa_g_ok (by decide +kernel)
def dn_176_0_2 : List (Nat × Instr × Nat) := [(64, .i2l, 1), (65, .lmul, 1), (66, .ladd, 1), (67, .lstore 11, 2), (69, .lload 9, 2), (71, .lload 11, 2), (73, .lcmp, 1), (74, .ifCond .lt 27, 3), (77, .lload 7, 2), (79, .ldc2_w 131, 3), (82, .lload 9, 2), (84, .lmul, 1), (85, .lsub, 1), (86, .lload 11, 2), (88, .ladd, 1), (89, .lload 5, 2), (91, .lcmp, 1), (92, .ifCond .gt 7, 3), (95, .iconst 1, 1), (96, .goto 4, 3), (99, .iconst 0, 1), (100, .ireturn, 1), (101, .iload_n 0, 1), (102, .i2l, 1), (103, .iload_n 3, 1)]
set_option maxRecDepth 20000 in
theorem dn_176_0_2_ok : dn_176_0_2.all (fun q => decide (decode (xm_b n_176) q.1 = .ok (q.2.1, q.2.2))) = true := xa_g_ok (by decide +kernel)
def dn_176_0_3 : List (Nat × Instr × Nat) := [(104, .i2l, 1), (105, .lmul, 1), (106, .iload_n 1, 1), (107, .i2l, 1), (108, .iload_n 2, 1), (109, .i2l, 1), (110, .lmul, 1), (111, .lsub, 1), (112, .lstore 13, 2), (114, .lload 13, 2), (116, .lload 13, 2), (118, .lmul, 1), (119, .lload 5, 2), (121, .lload 11, 2), (123, .lmul, 1), (124, .lcmp, 1), (125, .ifCond .gt 7, 3), (128, .iconst 1, 1), (129, .goto 4, 3), (132, .iconst 0, 1), (133, .ireturn, 1)]
set_option maxRecDepth 20000 in
theorem dn_176_0_3_ok : dn_176_0_3.all (fun q => decide (decode (xm_b n_176) q.1 = .ok (q.2.1, q.2.2))) = true := xa_g_ok (by decide +kernel)
def te_176_0 : Nat → eE := (e_T 14 (e_T 7 (e_T 3 (e_T 0 (e_L 0 (0, ei_load 4 0 2, 0, 0)) (e_T 2 (e_L 2 (0, ei_un (fun x => (4, x)) 3, 0, 0)) (e_L 3 (0, ei_load 4 0 5, 0, 0)))) (e_T 5 (e_L 5 (0, ei_un (fun x => (4, x)) 6, 0, 0)) (e_T 6 (e_L 6 (0, ei_binL eG_mul 7, 0, 0)) (e_L 7 (0, ei_stor 5 1 9, 0, 0))))) (e_T 11 (e_T 9 (e_L 9 (0, ei_load 2 0 10, 0, 0)) (e_T 10 (e_L 10 (0, ei_un (fun x => (4, x)) 11, 0, 0)) (e_L 11 (0, ei_load 2 0 12, 0, 0)))) (e_T 12 (e_L 12 (0, ei_un (fun x => (4, x)) 13, 0, 0)) (e_T 13 (e_L 13 (0, ei_binL eG_mul 14, 0, 0)) (e_L 14 (0, ei_load 3 0 15, 0, 0)))))) (e_T 20 (e_T 17 (e_T 15 (e_L 15 (0, ei_un (fun x => (4, x)) 16, 0, 0)) (e_T 16 (e_L 16 (0, ei_load 3 0 17, 0, 0)) (e_L 17 (0, ei_un (fun x => (4, x)) 18, 0, 0)))) (e_T 18 (e_L 18 (0, ei_binL eG_mul 19, 0, 0)) (e_T 19 (e_L 19 (0, ei_binL eG_add 20, 0, 0)) (e_L 20 (0, ei_stor 7 1 22, 0, 0))))) (e_T 24 (e_T 22 (e_L 22 (0, ei_load 0 0 23, 0, 0)) (e_T 23 (e_L 23 (0, ei_un (fun x => (4, x)) 24, 0, 0)) (e_L 24 (0, ei_load 2 0 25, 0, 0)))) (e_T 25 (e_L 25 (0, ei_un (fun x => (4, x)) 26, 0, 0)) (e_T 26 (e_L 26 (0, ei_binL eG_mul 27, 0, 0)) (e_L 27 (0, ei_load 1 0 28, 0, 0)))))))
set_option maxRecDepth 20000 in
set_option maxHeartbeats 4000000 in
theorem te_176_0_ok : ∀ pc, e_EOq eft cls elay eI n_176 pc (te_176_0 pc) :=
  (e_Tok2
  (e_Tok2
  (e_Tok2
  (e_Tok2
  (e_Lok (ld_iload_4 (x_dk dn_176_0_0_ok 0 rfl)))
  (e_Tok2
  (e_Lok (e_st (I := eI) (er_i2l (x_dk dn_176_0_0_ok 1 rfl)) (nx_un (fun _ => rfl))))
  (e_Lok (ld_iload_4 (x_dk dn_176_0_0_ok 2 rfl)))))
  (e_Tok2
  (e_Lok (e_st (I := eI) (er_i2l (x_dk dn_176_0_0_ok 3 rfl)) (nx_un (fun _ => rfl))))
  (e_Tok2
  (e_Lok (e_st (I := eI) (er_lmul (x_dk dn_176_0_0_ok 4 rfl)) (nx_binL bG_lmul)))
  (e_Lok (e_st (I := eI) (er_lstore (i := 5) (x_dk dn_176_0_0_ok 5 rfl) (by decide +kernel)) nx_stor)))))
  (e_Tok2
  (e_Tok2
  (e_Lok (ld_iload_n_2 (x_dk dn_176_0_0_ok 6 rfl)))
  (e_Tok2
  (e_Lok (e_st (I := eI) (er_i2l (x_dk dn_176_0_0_ok 7 rfl)) (nx_un (fun _ => rfl))))
  (e_Lok (ld_iload_n_2 (x_dk dn_176_0_0_ok 8 rfl)))))
  (e_Tok2
  (e_Lok (e_st (I := eI) (er_i2l (x_dk dn_176_0_0_ok 9 rfl)) (nx_un (fun _ => rfl))))
  (e_Tok2
  (e_Lok (e_st (I := eI) (er_lmul (x_dk dn_176_0_0_ok 10 rfl)) (nx_binL bG_lmul)))
  (e_Lok (ld_iload_n_3 (x_dk dn_176_0_0_ok 11 rfl)))))))
  (e_Tok2
  (e_Tok2
  (e_Tok2
  (e_Lok (e_st (I := eI) (er_i2l (x_dk dn_176_0_0_ok 12 rfl)) (nx_un (fun _ => rfl))))
  (e_Tok2
  (e_Lok (ld_iload_n_3 (x_dk dn_176_0_0_ok 13 rfl)))
  (e_Lok (e_st (I := eI) (er_i2l (x_dk dn_176_0_0_ok 14 rfl)) (nx_un (fun _ => rfl))))))
  (e_Tok2
  (e_Lok (e_st (I := eI) (er_lmul (x_dk dn_176_0_0_ok 15 rfl)) (nx_binL bG_lmul)))
  (e_Tok2
  (e_Lok (e_st (I := eI) (er_ladd (x_dk dn_176_0_0_ok 16 rfl)) (nx_binL bG_ladd)))
  (e_Lok (e_st (I := eI) (er_lstore (i := 7) (x_dk dn_176_0_0_ok 17 rfl) (by decide +kernel)) nx_stor)))))
  (e_Tok2
  (e_Tok2
  (e_Lok (ld_iload_n_0 (x_dk dn_176_0_0_ok 18 rfl)))
  (e_Tok2
  (e_Lok (e_st (I := eI) (er_i2l (x_dk dn_176_0_0_ok 19 rfl)) (nx_un (fun _ => rfl))))
  (e_Lok (ld_iload_n_2 (x_dk dn_176_0_0_ok 20 rfl)))))
  (e_Tok2
  (e_Lok (e_st (I := eI) (er_i2l (x_dk dn_176_0_0_ok 21 rfl)) (nx_un (fun _ => rfl))))
  (e_Tok2
  (e_Lok (e_st (I := eI) (er_lmul (x_dk dn_176_0_0_ok 22 rfl)) (nx_binL bG_lmul)))
  (e_Lok (ld_iload_n_1 (x_dk dn_176_0_0_ok 23 rfl))))))))
def te_176_24 : Nat → eE := (e_T 44 (e_T 33 (e_T 30 (e_T 28 (e_L 28 (0, ei_un (fun x => (4, x)) 29, 0, 0)) (e_T 29 (e_L 29 (0, ei_load 3 0 30, 0, 0)) (e_L 30 (0, ei_un (fun x => (4, x)) 31, 0, 0)))) (e_T 31 (e_L 31 (0, ei_binL eG_mul 32, 0, 0)) (e_T 32 (e_L 32 (0, ei_binL eG_add 33, 0, 0)) (e_L 33 (0, ei_stor 9 1 35, 0, 0))))) (e_T 38 (e_T 35 (e_L 35 (0, ei_load 9 1 37, 0, 0)) (e_T 37 (e_L 37 (0, ei_push (4, 0) 38, 0, 0)) (e_L 38 (0, ei_binL eG_cmp 39, 0, 0)))) (e_T 39 (e_L 39 (0, ei_if1 4 56 42, 0, 0)) (e_T 42 (e_L 42 (0, ei_load 7 1 44, 0, 0)) (e_L 44 (0, ei_load 5 1 46, 0, 0)))))) (e_T 55 (e_T 50 (e_T 46 (e_L 46 (0, ei_binL eG_cmp 47, 0, 0)) (e_T 47 (e_L 47 (0, ei_if1 4 54 50, 0, 0)) (e_L 50 (0, ei_push (0, 1) 51, 0, 0)))) (e_T 51 (e_L 51 (0, ei_goto 55, 0, 0)) (e_T 54 (e_L 54 (0, ei_push (0, 0) 55, 0, 0)) (e_L 55 (1, e_nof, 4, 0))))) (e_T 58 (e_T 56 (e_L 56 (0, ei_load 0 0 57, 0, 0)) (e_T 57 (e_L 57 (0, ei_un (fun x => (4, x)) 58, 0, 0)) (e_L 58 (0, ei_load 0 0 59, 0, 0)))) (e_T 59 (e_L 59 (0, ei_un (fun x => (4, x)) 60, 0, 0)) (e_T 60 (e_L 60 (0, ei_binL eG_mul 61, 0, 0)) (e_L 61 (0, ei_load 1 0 62, 0, 0)))))))
set_option maxRecDepth 20000 in
set_option maxHeartbeats 4000000 in
theorem te_176_24_ok : ∀ pc, e_EOq eft cls elay eI n_176 pc (te_176_24 pc) :=
  (e_Tok2
  (e_Tok2
  (e_Tok2
  (e_Tok2
  (e_Lok (e_st (I := eI) (er_i2l (x_dk dn_176_0_0_ok 24 rfl)) (nx_un (fun _ => rfl))))
  (e_Tok2
  (e_Lok (ld_iload_n_3 (x_dk dn_176_0_1_ok 0 rfl)))
  (e_Lok (e_st (I := eI) (er_i2l (x_dk dn_176_0_1_ok 1 rfl)) (nx_un (fun _ => rfl))))))
  (e_Tok2
  (e_Lok (e_st (I := eI) (er_lmul (x_dk dn_176_0_1_ok 2 rfl)) (nx_binL bG_lmul)))
  (e_Tok2
  (e_Lok (e_st (I := eI) (er_ladd (x_dk dn_176_0_1_ok 3 rfl)) (nx_binL bG_ladd)))
  (e_Lok (e_st (I := eI) (er_lstore (i := 9) (x_dk dn_176_0_1_ok 4 rfl) (by decide +kernel)) nx_stor)))))
  (e_Tok2
  (e_Tok2
  (e_Lok (ld_lload_9 (x_dk dn_176_0_1_ok 5 rfl)))
  (e_Tok2
  (e_Lok (ps_lconst_0 (x_dk dn_176_0_1_ok 6 rfl)))
  (e_Lok (e_st (I := eI) (er_lcmp (x_dk dn_176_0_1_ok 7 rfl)) (nx_binL bG_lcmp)))))
  (e_Tok2
  (e_Lok (e_st (I := eI) (er_ifgt (off := 17) (tg := 56) (x_dk dn_176_0_1_ok 8 rfl) (by decide)) nx_if1))
  (e_Tok2
  (e_Lok (ld_lload_7 (x_dk dn_176_0_1_ok 9 rfl)))
  (e_Lok (ld_lload_5 (x_dk dn_176_0_1_ok 10 rfl)))))))
  (e_Tok2
  (e_Tok2
  (e_Tok2
  (e_Lok (e_st (I := eI) (er_lcmp (x_dk dn_176_0_1_ok 11 rfl)) (nx_binL bG_lcmp)))
  (e_Tok2
  (e_Lok (e_st (I := eI) (er_ifgt (off := 7) (tg := 54) (x_dk dn_176_0_1_ok 12 rfl) (by decide)) nx_if1))
  (e_Lok (ps_iconst_1 (x_dk dn_176_0_1_ok 13 rfl)))))
  (e_Tok2
  (e_Lok (e_st (I := eI) (er_goto (off := 4) (tg := 55) (x_dk dn_176_0_1_ok 14 rfl) (by decide)) nx_goto))
  (e_Tok2
  (e_Lok (ps_iconst_0 (x_dk dn_176_0_1_ok 15 rfl)))
  (e_Lok (e_rt (I := eI) (k := 4) ⟨(x_dk dn_176_0_1_ok 16 rfl), rfl⟩)))))
  (e_Tok2
  (e_Tok2
  (e_Lok (ld_iload_n_0 (x_dk dn_176_0_1_ok 17 rfl)))
  (e_Tok2
  (e_Lok (e_st (I := eI) (er_i2l (x_dk dn_176_0_1_ok 18 rfl)) (nx_un (fun _ => rfl))))
  (e_Lok (ld_iload_n_0 (x_dk dn_176_0_1_ok 19 rfl)))))
  (e_Tok2
  (e_Lok (e_st (I := eI) (er_i2l (x_dk dn_176_0_1_ok 20 rfl)) (nx_un (fun _ => rfl))))
  (e_Tok2
  (e_Lok (e_st (I := eI) (er_lmul (x_dk dn_176_0_1_ok 21 rfl)) (nx_binL bG_lmul)))
  (e_Lok (ld_iload_n_1 (x_dk dn_176_0_1_ok 22 rfl))))))))
def te_176_48 : Nat → eE := (e_T 79 (e_T 67 (e_T 64 (e_T 62 (e_L 62 (0, ei_un (fun x => (4, x)) 63, 0, 0)) (e_T 63 (e_L 63 (0, ei_load 1 0 64, 0, 0)) (e_L 64 (0, ei_un (fun x => (4, x)) 65, 0, 0)))) (e_T 65 (e_L 65 (0, ei_binL eG_mul 66, 0, 0)) (e_T 66 (e_L 66 (0, ei_binL eG_add 67, 0, 0)) (e_L 67 (0, ei_stor 11 1 69, 0, 0))))) (e_T 73 (e_T 69 (e_L 69 (0, ei_load 9 1 71, 0, 0)) (e_T 71 (e_L 71 (0, ei_load 11 1 73, 0, 0)) (e_L 73 (0, ei_binL eG_cmp 74, 0, 0)))) (e_T 74 (e_L 74 (0, ei_if1 2 101 77, 0, 0)) (e_T 77 (e_L 77 (0, ei_load 7 1 79, 0, 0)) (e_L 79 (0, ei_push (4, 2) 82, 0, 0)))))) (e_T 89 (e_T 85 (e_T 82 (e_L 82 (0, ei_load 9 1 84, 0, 0)) (e_T 84 (e_L 84 (0, ei_binL eG_mul 85, 0, 0)) (e_L 85 (0, ei_binL eG_sub 86, 0, 0)))) (e_T 86 (e_L 86 (0, ei_load 11 1 88, 0, 0)) (e_T 88 (e_L 88 (0, ei_binL eG_add 89, 0, 0)) (e_L 89 (0, ei_load 5 1 91, 0, 0))))) (e_T 95 (e_T 91 (e_L 91 (0, ei_binL eG_cmp 92, 0, 0)) (e_T 92 (e_L 92 (0, ei_if1 4 99 95, 0, 0)) (e_L 95 (0, ei_push (0, 1) 96, 0, 0)))) (e_T 96 (e_L 96 (0, ei_goto 100, 0, 0)) (e_T 99 (e_L 99 (0, ei_push (0, 0) 100, 0, 0)) (e_L 100 (1, e_nof, 4, 0)))))))
set_option maxRecDepth 20000 in
set_option maxHeartbeats 4000000 in
theorem te_176_48_ok : ∀ pc, e_EOq eft cls elay eI n_176 pc (te_176_48 pc) :=
  (e_Tok2
  (e_Tok2
  (e_Tok2
  (e_Tok2
  (e_Lok (e_st (I := eI) (er_i2l (x_dk dn_176_0_1_ok 23 rfl)) (nx_un (fun _ => rfl))))
  (e_Tok2
  (e_Lok (ld_iload_n_1 (x_dk dn_176_0_1_ok 24 rfl)))
  (e_Lok (e_st (I := eI) (er_i2l (x_dk dn_176_0_2_ok 0 rfl)) (nx_un (fun _ => rfl))))))
  (e_Tok2
  (e_Lok (e_st (I := eI) (er_lmul (x_dk dn_176_0_2_ok 1 rfl)) (nx_binL bG_lmul)))
  (e_Tok2
  (e_Lok (e_st (I := eI) (er_ladd (x_dk dn_176_0_2_ok 2 rfl)) (nx_binL bG_ladd)))
  (e_Lok (e_st (I := eI) (er_lstore (i := 11) (x_dk dn_176_0_2_ok 3 rfl) (by decide +kernel)) nx_stor)))))
  (e_Tok2
  (e_Tok2
  (e_Lok (ld_lload_9 (x_dk dn_176_0_2_ok 4 rfl)))
  (e_Tok2
  (e_Lok (ld_lload_11 (x_dk dn_176_0_2_ok 5 rfl)))
  (e_Lok (e_st (I := eI) (er_lcmp (x_dk dn_176_0_2_ok 6 rfl)) (nx_binL bG_lcmp)))))
  (e_Tok2
  (e_Lok (e_st (I := eI) (er_iflt (off := 27) (tg := 101) (x_dk dn_176_0_2_ok 7 rfl) (by decide)) nx_if1))
  (e_Tok2
  (e_Lok (ld_lload_7 (x_dk dn_176_0_2_ok 8 rfl)))
  (e_Lok (e_st (I := eI) (er_ldc2 (ix := 131) (z := 2) (v := 2) (x_dk dn_176_0_2_ok 9 rfl) (in_t8 (List.mem_of_getElem? (i := 120) rfl) rfl) (by decide)) (nx_push (Or.inl rfl))))))))
  (e_Tok2
  (e_Tok2
  (e_Tok2
  (e_Lok (ld_lload_9 (x_dk dn_176_0_2_ok 10 rfl)))
  (e_Tok2
  (e_Lok (e_st (I := eI) (er_lmul (x_dk dn_176_0_2_ok 11 rfl)) (nx_binL bG_lmul)))
  (e_Lok (e_st (I := eI) (er_lsub (x_dk dn_176_0_2_ok 12 rfl)) (nx_binL bG_lsub)))))
  (e_Tok2
  (e_Lok (ld_lload_11 (x_dk dn_176_0_2_ok 13 rfl)))
  (e_Tok2
  (e_Lok (e_st (I := eI) (er_ladd (x_dk dn_176_0_2_ok 14 rfl)) (nx_binL bG_ladd)))
  (e_Lok (ld_lload_5 (x_dk dn_176_0_2_ok 15 rfl))))))
  (e_Tok2
  (e_Tok2
  (e_Lok (e_st (I := eI) (er_lcmp (x_dk dn_176_0_2_ok 16 rfl)) (nx_binL bG_lcmp)))
  (e_Tok2
  (e_Lok (e_st (I := eI) (er_ifgt (off := 7) (tg := 99) (x_dk dn_176_0_2_ok 17 rfl) (by decide)) nx_if1))
  (e_Lok (ps_iconst_1 (x_dk dn_176_0_2_ok 18 rfl)))))
  (e_Tok2
  (e_Lok (e_st (I := eI) (er_goto (off := 4) (tg := 100) (x_dk dn_176_0_2_ok 19 rfl) (by decide)) nx_goto))
  (e_Tok2
  (e_Lok (ps_iconst_0 (x_dk dn_176_0_2_ok 20 rfl)))
  (e_Lok (e_rt (I := eI) (k := 4) ⟨(x_dk dn_176_0_2_ok 21 rfl), rfl⟩)))))))
def te_176_72 : Nat → eE := (e_T 112 (e_T 106 (e_T 103 (e_T 101 (e_L 101 (0, ei_load 0 0 102, 0, 0)) (e_T 102 (e_L 102 (0, ei_un (fun x => (4, x)) 103, 0, 0)) (e_L 103 (0, ei_load 3 0 104, 0, 0)))) (e_T 104 (e_L 104 (0, ei_un (fun x => (4, x)) 105, 0, 0)) (e_T 105 (e_L 105 (0, ei_binL eG_mul 106, 0, 0)) (e_L 106 (0, ei_load 1 0 107, 0, 0))))) (e_T 109 (e_T 107 (e_L 107 (0, ei_un (fun x => (4, x)) 108, 0, 0)) (e_T 108 (e_L 108 (0, ei_load 2 0 109, 0, 0)) (e_L 109 (0, ei_un (fun x => (4, x)) 110, 0, 0)))) (e_T 110 (e_L 110 (0, ei_binL eG_mul 111, 0, 0)) (e_T 111 (e_L 111 (0, ei_binL eG_sub 112, 0, 0)) (e_L 112 (0, ei_stor 13 1 114, 0, 0)))))) (e_T 123 (e_T 118 (e_T 114 (e_L 114 (0, ei_load 13 1 116, 0, 0)) (e_T 116 (e_L 116 (0, ei_load 13 1 118, 0, 0)) (e_L 118 (0, ei_binL eG_mul 119, 0, 0)))) (e_T 119 (e_L 119 (0, ei_load 5 1 121, 0, 0)) (e_T 121 (e_L 121 (0, ei_load 11 1 123, 0, 0)) (e_L 123 (0, ei_binL eG_mul 124, 0, 0))))) (e_T 128 (e_T 124 (e_L 124 (0, ei_binL eG_cmp 125, 0, 0)) (e_T 125 (e_L 125 (0, ei_if1 4 132 128, 0, 0)) (e_L 128 (0, ei_push (0, 1) 129, 0, 0)))) (e_T 129 (e_L 129 (0, ei_goto 133, 0, 0)) (e_T 132 (e_L 132 (0, ei_push (0, 0) 133, 0, 0)) (e_L 133 (1, e_nof, 4, 0)))))))
set_option maxRecDepth 20000 in
set_option maxHeartbeats 4000000 in
theorem te_176_72_ok : ∀ pc, e_EOq eft cls elay eI n_176 pc (te_176_72 pc) :=
  (e_Tok2
  (e_Tok2
  (e_Tok2
  (e_Tok2
  (e_Lok (ld_iload_n_0 (x_dk dn_176_0_2_ok 22 rfl)))
  (e_Tok2
  (e_Lok (e_st (I := eI) (er_i2l (x_dk dn_176_0_2_ok 23 rfl)) (nx_un (fun _ => rfl))))
  (e_Lok (ld_iload_n_3 (x_dk dn_176_0_2_ok 24 rfl)))))
  (e_Tok2
  (e_Lok (e_st (I := eI) (er_i2l (x_dk dn_176_0_3_ok 0 rfl)) (nx_un (fun _ => rfl))))
  (e_Tok2
  (e_Lok (e_st (I := eI) (er_lmul (x_dk dn_176_0_3_ok 1 rfl)) (nx_binL bG_lmul)))
  (e_Lok (ld_iload_n_1 (x_dk dn_176_0_3_ok 2 rfl))))))
  (e_Tok2
  (e_Tok2
  (e_Lok (e_st (I := eI) (er_i2l (x_dk dn_176_0_3_ok 3 rfl)) (nx_un (fun _ => rfl))))
  (e_Tok2
  (e_Lok (ld_iload_n_2 (x_dk dn_176_0_3_ok 4 rfl)))
  (e_Lok (e_st (I := eI) (er_i2l (x_dk dn_176_0_3_ok 5 rfl)) (nx_un (fun _ => rfl))))))
  (e_Tok2
  (e_Lok (e_st (I := eI) (er_lmul (x_dk dn_176_0_3_ok 6 rfl)) (nx_binL bG_lmul)))
  (e_Tok2
  (e_Lok (e_st (I := eI) (er_lsub (x_dk dn_176_0_3_ok 7 rfl)) (nx_binL bG_lsub)))
  (e_Lok (e_st (I := eI) (er_lstore (i := 13) (x_dk dn_176_0_3_ok 8 rfl) (by decide +kernel)) nx_stor))))))
  (e_Tok2
  (e_Tok2
  (e_Tok2
  (e_Lok (ld_lload_13 (x_dk dn_176_0_3_ok 9 rfl)))
  (e_Tok2
  (e_Lok (ld_lload_13 (x_dk dn_176_0_3_ok 10 rfl)))
  (e_Lok (e_st (I := eI) (er_lmul (x_dk dn_176_0_3_ok 11 rfl)) (nx_binL bG_lmul)))))
  (e_Tok2
  (e_Lok (ld_lload_5 (x_dk dn_176_0_3_ok 12 rfl)))
  (e_Tok2
  (e_Lok (ld_lload_11 (x_dk dn_176_0_3_ok 13 rfl)))
  (e_Lok (e_st (I := eI) (er_lmul (x_dk dn_176_0_3_ok 14 rfl)) (nx_binL bG_lmul))))))
  (e_Tok2
  (e_Tok2
  (e_Lok (e_st (I := eI) (er_lcmp (x_dk dn_176_0_3_ok 15 rfl)) (nx_binL bG_lcmp)))
  (e_Tok2
  (e_Lok (e_st (I := eI) (er_ifgt (off := 7) (tg := 132) (x_dk dn_176_0_3_ok 16 rfl) (by decide)) nx_if1))
  (e_Lok (ps_iconst_1 (x_dk dn_176_0_3_ok 17 rfl)))))
  (e_Tok2
  (e_Lok (e_st (I := eI) (er_goto (off := 4) (tg := 133) (x_dk dn_176_0_3_ok 18 rfl) (by decide)) nx_goto))
  (e_Tok2
  (e_Lok (ps_iconst_0 (x_dk dn_176_0_3_ok 19 rfl)))
  (e_Lok (e_rt (I := eI) (k := 4) ⟨(x_dk dn_176_0_3_ok 20 rfl), rfl⟩)))))))
def te_176 : Nat → eE := (e_T 61 (e_T 27 te_176_0 te_176_24) (e_T 100 te_176_48 te_176_72))
theorem te_176_ok : ∀ pc, e_EOq eft cls elay eI n_176 pc (te_176 pc) := (e_Tok2 ((e_Tok2 (te_176_0_ok) (te_176_24_ok))) ((e_Tok2 (te_176_48_ok) (te_176_72_ok))))
theorem ho_177 : (xm_y n_177).cls = "RobotCellHouse$Shapes" := rfl
def dn_177_0_0 : List (Nat × Instr × Nat) := [(0, .iload_n 0, 1), (1, .i2l, 1), (2, .iload_n 3, 1), (3, .i2l, 1), (4, .lmul, 1), (5, .iload_n 1, 1), (6, .i2l, 1), (7, .iload_n 2, 1), (8, .i2l, 1), (9, .lmul, 1), (10, .lsub, 1), (11, .lreturn, 1)]
set_option maxRecDepth 20000 in
theorem dn_177_0_0_ok : dn_177_0_0.all (fun q => decide (decode (xm_b n_177) q.1 = .ok (q.2.1, q.2.2))) = true := xa_g_ok (by decide +kernel)
def te_177_0 : Nat → eE := (e_T 5 (e_T 2 (e_T 0 (e_L 0 (0, ei_load 0 0 1, 0, 0)) (e_T 1 (e_L 1 (0, ei_un (fun x => (4, x)) 2, 0, 0)) (e_L 2 (0, ei_load 3 0 3, 0, 0)))) (e_T 3 (e_L 3 (0, ei_un (fun x => (4, x)) 4, 0, 0)) (e_T 4 (e_L 4 (0, ei_binL eG_mul 5, 0, 0)) (e_L 5 (0, ei_load 1 0 6, 0, 0))))) (e_T 8 (e_T 6 (e_L 6 (0, ei_un (fun x => (4, x)) 7, 0, 0)) (e_T 7 (e_L 7 (0, ei_load 2 0 8, 0, 0)) (e_L 8 (0, ei_un (fun x => (4, x)) 9, 0, 0)))) (e_T 9 (e_L 9 (0, ei_binL eG_mul 10, 0, 0)) (e_T 10 (e_L 10 (0, ei_binL eG_sub 11, 0, 0)) (e_L 11 (1, e_nof, 2, 0))))))
set_option maxRecDepth 20000 in
set_option maxHeartbeats 4000000 in
theorem te_177_0_ok : ∀ pc, e_EOq eft cls elay eI n_177 pc (te_177_0 pc) :=
  (e_Tok2
  (e_Tok2
  (e_Tok2
  (e_Lok (ld_iload_n_0 (x_dk dn_177_0_0_ok 0 rfl)))
  (e_Tok2
  (e_Lok (e_st (I := eI) (er_i2l (x_dk dn_177_0_0_ok 1 rfl)) (nx_un (fun _ => rfl))))
  (e_Lok (ld_iload_n_3 (x_dk dn_177_0_0_ok 2 rfl)))))
  (e_Tok2
  (e_Lok (e_st (I := eI) (er_i2l (x_dk dn_177_0_0_ok 3 rfl)) (nx_un (fun _ => rfl))))
  (e_Tok2
  (e_Lok (e_st (I := eI) (er_lmul (x_dk dn_177_0_0_ok 4 rfl)) (nx_binL bG_lmul)))
  (e_Lok (ld_iload_n_1 (x_dk dn_177_0_0_ok 5 rfl))))))
  (e_Tok2
  (e_Tok2
  (e_Lok (e_st (I := eI) (er_i2l (x_dk dn_177_0_0_ok 6 rfl)) (nx_un (fun _ => rfl))))
  (e_Tok2
  (e_Lok (ld_iload_n_2 (x_dk dn_177_0_0_ok 7 rfl)))
  (e_Lok (e_st (I := eI) (er_i2l (x_dk dn_177_0_0_ok 8 rfl)) (nx_un (fun _ => rfl))))))
  (e_Tok2
  (e_Lok (e_st (I := eI) (er_lmul (x_dk dn_177_0_0_ok 9 rfl)) (nx_binL bG_lmul)))
  (e_Tok2
  (e_Lok (e_st (I := eI) (er_lsub (x_dk dn_177_0_0_ok 10 rfl)) (nx_binL bG_lsub)))
  (e_Lok (e_rt (I := eI) (k := 2) ⟨(x_dk dn_177_0_0_ok 11 rfl), rfl⟩))))))
def te_177 : Nat → eE := te_177_0
theorem te_177_ok : ∀ pc, e_EOq eft cls elay eI n_177 pc (te_177 pc) := te_177_0_ok
theorem ho_178 : (xm_y n_178).cls = "RobotCellHouse$Shapes" := rfl
def dn_178_0_0 : List (Nat × Instr × Nat) := [(0, .iload_n 0, 1), (1, .i2l, 1), (2, .iload_n 0, 1), (3, .i2l, 1), (4, .lmul, 1), (5, .iload_n 1, 1), (6, .i2l, 1), (7, .iload_n 1, 1), (8, .i2l, 1), (9, .lmul, 1), (10, .ladd, 1), (11, .lreturn, 1)]
set_option maxRecDepth 20000 in
theorem dn_178_0_0_ok : dn_178_0_0.all (fun q => decide (decode (xm_b n_178) q.1 = .ok (q.2.1, q.2.2))) = true := xa_g_ok (by decide +kernel)
def te_178_0 : Nat → eE := (e_T 5 (e_T 2 (e_T 0 (e_L 0 (0, ei_load 0 0 1, 0, 0)) (e_T 1 (e_L 1 (0, ei_un (fun x => (4, x)) 2, 0, 0)) (e_L 2 (0, ei_load 0 0 3, 0, 0)))) (e_T 3 (e_L 3 (0, ei_un (fun x => (4, x)) 4, 0, 0)) (e_T 4 (e_L 4 (0, ei_binL eG_mul 5, 0, 0)) (e_L 5 (0, ei_load 1 0 6, 0, 0))))) (e_T 8 (e_T 6 (e_L 6 (0, ei_un (fun x => (4, x)) 7, 0, 0)) (e_T 7 (e_L 7 (0, ei_load 1 0 8, 0, 0)) (e_L 8 (0, ei_un (fun x => (4, x)) 9, 0, 0)))) (e_T 9 (e_L 9 (0, ei_binL eG_mul 10, 0, 0)) (e_T 10 (e_L 10 (0, ei_binL eG_add 11, 0, 0)) (e_L 11 (1, e_nof, 2, 0))))))
set_option maxRecDepth 20000 in
set_option maxHeartbeats 4000000 in
theorem te_178_0_ok : ∀ pc, e_EOq eft cls elay eI n_178 pc (te_178_0 pc) :=
  (e_Tok2
  (e_Tok2
  (e_Tok2
  (e_Lok (ld_iload_n_0 (x_dk dn_178_0_0_ok 0 rfl)))
  (e_Tok2
  (e_Lok (e_st (I := eI) (er_i2l (x_dk dn_178_0_0_ok 1 rfl)) (nx_un (fun _ => rfl))))
  (e_Lok (ld_iload_n_0 (x_dk dn_178_0_0_ok 2 rfl)))))
  (e_Tok2
  (e_Lok (e_st (I := eI) (er_i2l (x_dk dn_178_0_0_ok 3 rfl)) (nx_un (fun _ => rfl))))
  (e_Tok2
  (e_Lok (e_st (I := eI) (er_lmul (x_dk dn_178_0_0_ok 4 rfl)) (nx_binL bG_lmul)))
  (e_Lok (ld_iload_n_1 (x_dk dn_178_0_0_ok 5 rfl))))))
  (e_Tok2
  (e_Tok2
  (e_Lok (e_st (I := eI) (er_i2l (x_dk dn_178_0_0_ok 6 rfl)) (nx_un (fun _ => rfl))))
  (e_Tok2
  (e_Lok (ld_iload_n_1 (x_dk dn_178_0_0_ok 7 rfl)))
  (e_Lok (e_st (I := eI) (er_i2l (x_dk dn_178_0_0_ok 8 rfl)) (nx_un (fun _ => rfl))))))
  (e_Tok2
  (e_Lok (e_st (I := eI) (er_lmul (x_dk dn_178_0_0_ok 9 rfl)) (nx_binL bG_lmul)))
  (e_Tok2
  (e_Lok (e_st (I := eI) (er_ladd (x_dk dn_178_0_0_ok 10 rfl)) (nx_binL bG_ladd)))
  (e_Lok (e_rt (I := eI) (k := 2) ⟨(x_dk dn_178_0_0_ok 11 rfl), rfl⟩))))))
def te_178 : Nat → eE := te_178_0
theorem te_178_ok : ∀ pc, e_EOq eft cls elay eI n_178 pc (te_178 pc) := te_178_0_ok
theorem ho_179 : (xm_y n_179).cls = "RobotCellHouse$Task" := rfl
def dn_179_0_0 : List (Nat × Instr × Nat) := [(0, .aload_n 0, 1), (1, .iconst (-1), 1), (2, .iconst 0, 1), (3, .iconst 0, 1), (4, .invokevirtual 31, 3), (7, .aload_n 0, 1), (8, .iconst 0, 1), (9, .putfield 35, 3), (12, .aload_n 0, 1), (13, .iconst 0, 1), (14, .putfield 38, 3), (17, .return_, 1)]
set_option maxRecDepth 20000 in
theorem dn_179_0_0_ok : dn_179_0_0.all (fun q => decide (decode (xm_b n_179) q.1 = .ok (q.2.1, q.2.2))) = true := xa_g_ok (by decide +kernel)
def te_179_0 : Nat → eE := (e_T 7 (e_T 2 (e_T 0 (e_L 0 (0, ei_load 0 2 1, 0, 0)) (e_T 1 (e_L 1 (0, ei_push (0, (-1)) 2, 0, 0)) (e_L 2 (0, ei_push (0, 0) 3, 0, 0)))) (e_T 3 (e_L 3 (0, ei_push (0, 0) 4, 0, 0)) (e_T 4 (e_L 4 (2, e_nof, 180, 4)) (e_L 7 (0, ei_load 0 2 8, 0, 0))))) (e_T 12 (e_T 8 (e_L 8 (0, ei_push (0, 0) 9, 0, 0)) (e_T 9 (e_L 9 (0, ei_putf eft elay 10 1 0 12, 0, 0)) (e_L 12 (0, ei_load 0 2 13, 0, 0)))) (e_T 13 (e_L 13 (0, ei_push (0, 0) 14, 0, 0)) (e_T 14 (e_L 14 (0, ei_putf eft elay 10 4 0 17, 0, 0)) (e_L 17 (1, e_nof, 0, 0))))))
set_option maxRecDepth 20000 in
set_option maxHeartbeats 4000000 in
theorem te_179_0_ok : ∀ pc, e_EOq eft cls elay eI n_179 pc (te_179_0 pc) :=
  (e_Tok2
  (e_Tok2
  (e_Tok2
  (e_Lok (ld_aload_n_0 (x_dk dn_179_0_0_ok 0 rfl)))
  (e_Tok2
  (e_Lok (ps_iconst_m1 (x_dk dn_179_0_0_ok 1 rfl)))
  (e_Lok (ps_iconst_0 (x_dk dn_179_0_0_ok 2 rfl)))))
  (e_Tok2
  (e_Lok (ps_iconst_0 (x_dk dn_179_0_0_ok 3 rfl)))
  (e_Tok2
  (e_Lok (lk_10_31 ho_179 (x_dk dn_179_0_0_ok 4 rfl)))
  (e_Lok (ld_aload_n_0 (x_dk dn_179_0_0_ok 5 rfl))))))
  (e_Tok2
  (e_Tok2
  (e_Lok (ps_iconst_0 (x_dk dn_179_0_0_ok 6 rfl)))
  (e_Tok2
  (e_Lok (lk_10_35p ho_179 (x_dk dn_179_0_0_ok 7 rfl)))
  (e_Lok (ld_aload_n_0 (x_dk dn_179_0_0_ok 8 rfl)))))
  (e_Tok2
  (e_Lok (ps_iconst_0 (x_dk dn_179_0_0_ok 9 rfl)))
  (e_Tok2
  (e_Lok (lk_10_38p ho_179 (x_dk dn_179_0_0_ok 10 rfl)))
  (e_Lok (e_rt (I := eI) (k := 0) ⟨(x_dk dn_179_0_0_ok 11 rfl), rfl⟩))))))
def te_179 : Nat → eE := te_179_0
theorem te_179_ok : ∀ pc, e_EOq eft cls elay eI n_179 pc (te_179 pc) := te_179_0_ok
theorem ho_180 : (xm_y n_180).cls = "RobotCellHouse$Task" := rfl
def dn_180_0_0 : List (Nat × Instr × Nat) := [(0, .aload_n 0, 1), (1, .iconst 1, 1), (2, .putfield 35, 3), (5, .aload_n 0, 1), (6, .iload_n 1, 1), (7, .putfield 41, 3), (10, .aload_n 0, 1), (11, .iload_n 3, 1), (12, .putfield 44, 3), (15, .aload_n 0, 1), (16, .iconst 0, 1), (17, .putfield 47, 3), (20, .aload_n 0, 1), (21, .iconst 0, 1), (22, .putfield 50, 3), (25, .aload_n 0, 1), (26, .iconst 0, 1), (27, .putfield 53, 3), (30, .aload_n 0, 1), (31, .iconst (-1), 1), (32, .putfield 57, 3), (35, .aload_n 0, 1), (36, .iconst 0, 1), (37, .putfield 60, 3), (40, .aload_n 0, 1)]
set_option maxRecDepth 20000 in
theorem dn_180_0_0_ok : dn_180_0_0.all (fun q => decide (decode (xm_b n_180) q.1 = .ok (q.2.1, q.2.2))) = true := xa_g_ok (by decide +kernel)
def dn_180_0_1 : List (Nat × Instr × Nat) := [(41, .iconst 0, 1), (42, .putfield 38, 3), (45, .aload_n 0, 1), (46, .iconst 0, 1), (47, .putfield 63, 3), (50, .aload_n 0, 1), (51, .iload_n 2, 1), (52, .invokevirtual 66, 3), (55, .pop, 1), (56, .return_, 1)]
set_option maxRecDepth 20000 in
theorem dn_180_0_1_ok : dn_180_0_1.all (fun q => decide (decode (xm_b n_180) q.1 = .ok (q.2.1, q.2.2))) = true := xa_g_ok (by decide +kernel)
def te_180_0 : Nat → eE := (e_T 26 (e_T 11 (e_T 5 (e_T 1 (e_T 0 (e_L 0 (0, ei_load 0 2 1, 0, 0)) (e_L 1 (0, ei_push (0, 1) 2, 0, 0))) (e_T 2 (e_L 2 (0, ei_putf eft elay 10 1 0 5, 0, 0)) (e_L 5 (0, ei_load 0 2 6, 0, 0)))) (e_T 7 (e_T 6 (e_L 6 (0, ei_load 1 0 7, 0, 0)) (e_L 7 (0, ei_putf eft elay 10 2 0 10, 0, 0))) (e_T 10 (e_L 10 (0, ei_load 0 2 11, 0, 0)) (e_L 11 (0, ei_load 3 0 12, 0, 0))))) (e_T 17 (e_T 15 (e_T 12 (e_L 12 (0, ei_putf eft elay 10 7 0 15, 0, 0)) (e_L 15 (0, ei_load 0 2 16, 0, 0))) (e_T 16 (e_L 16 (0, ei_push (0, 0) 17, 0, 0)) (e_L 17 (0, ei_putf eft elay 10 5 0 20, 0, 0)))) (e_T 21 (e_T 20 (e_L 20 (0, ei_load 0 2 21, 0, 0)) (e_L 21 (0, ei_push (0, 0) 22, 0, 0))) (e_T 22 (e_L 22 (0, ei_putf eft elay 10 6 0 25, 0, 0)) (e_T 25 (e_L 25 (0, ei_load 0 2 26, 0, 0)) (e_L 26 (0, ei_push (0, 0) 27, 0, 0))))))) (e_T 41 (e_T 32 (e_T 30 (e_T 27 (e_L 27 (0, ei_putf eft elay 10 10 1 30, 0, 0)) (e_L 30 (0, ei_load 0 2 31, 0, 0))) (e_T 31 (e_L 31 (0, ei_push (0, (-1)) 32, 0, 0)) (e_L 32 (0, ei_putf eft elay 10 11 0 35, 0, 0)))) (e_T 36 (e_T 35 (e_L 35 (0, ei_load 0 2 36, 0, 0)) (e_L 36 (0, ei_push (0, 0) 37, 0, 0))) (e_T 37 (e_L 37 (0, ei_putf eft elay 10 14 0 40, 0, 0)) (e_T 40 (e_L 40 (0, ei_load 0 2 41, 0, 0)) (e_L 41 (0, ei_push (0, 0) 42, 0, 0)))))) (e_T 47 (e_T 45 (e_T 42 (e_L 42 (0, ei_putf eft elay 10 4 0 45, 0, 0)) (e_L 45 (0, ei_load 0 2 46, 0, 0))) (e_T 46 (e_L 46 (0, ei_push (0, 0) 47, 0, 0)) (e_L 47 (0, ei_putf eft elay 10 15 0 50, 0, 0)))) (e_T 51 (e_T 50 (e_L 50 (0, ei_load 0 2 51, 0, 0)) (e_L 51 (0, ei_load 2 0 52, 0, 0))) (e_T 52 (e_L 52 (2, e_nof, 182, 2)) (e_T 55 (e_L 55 (0, ei_stk ef_pop 56, 0, 0)) (e_L 56 (1, e_nof, 0, 0))))))))
set_option maxRecDepth 20000 in
set_option maxHeartbeats 4000000 in
theorem te_180_0_ok : ∀ pc, e_EOq eft cls elay eI n_180 pc (te_180_0 pc) :=
  (e_Tok2
  (e_Tok2
  (e_Tok2
  (e_Tok2
  (e_Tok2
  (e_Lok (ld_aload_n_0 (x_dk dn_180_0_0_ok 0 rfl)))
  (e_Lok (ps_iconst_1 (x_dk dn_180_0_0_ok 1 rfl))))
  (e_Tok2
  (e_Lok (lk_10_35p ho_180 (x_dk dn_180_0_0_ok 2 rfl)))
  (e_Lok (ld_aload_n_0 (x_dk dn_180_0_0_ok 3 rfl)))))
  (e_Tok2
  (e_Tok2
  (e_Lok (ld_iload_n_1 (x_dk dn_180_0_0_ok 4 rfl)))
  (e_Lok (lk_10_41p ho_180 (x_dk dn_180_0_0_ok 5 rfl))))
  (e_Tok2
  (e_Lok (ld_aload_n_0 (x_dk dn_180_0_0_ok 6 rfl)))
  (e_Lok (ld_iload_n_3 (x_dk dn_180_0_0_ok 7 rfl))))))
  (e_Tok2
  (e_Tok2
  (e_Tok2
  (e_Lok (lk_10_44p ho_180 (x_dk dn_180_0_0_ok 8 rfl)))
  (e_Lok (ld_aload_n_0 (x_dk dn_180_0_0_ok 9 rfl))))
  (e_Tok2
  (e_Lok (ps_iconst_0 (x_dk dn_180_0_0_ok 10 rfl)))
  (e_Lok (lk_10_47p ho_180 (x_dk dn_180_0_0_ok 11 rfl)))))
  (e_Tok2
  (e_Tok2
  (e_Lok (ld_aload_n_0 (x_dk dn_180_0_0_ok 12 rfl)))
  (e_Lok (ps_iconst_0 (x_dk dn_180_0_0_ok 13 rfl))))
  (e_Tok2
  (e_Lok (lk_10_50p ho_180 (x_dk dn_180_0_0_ok 14 rfl)))
  (e_Tok2
  (e_Lok (ld_aload_n_0 (x_dk dn_180_0_0_ok 15 rfl)))
  (e_Lok (ps_iconst_0 (x_dk dn_180_0_0_ok 16 rfl))))))))
  (e_Tok2
  (e_Tok2
  (e_Tok2
  (e_Tok2
  (e_Lok (lk_10_53p ho_180 (x_dk dn_180_0_0_ok 17 rfl)))
  (e_Lok (ld_aload_n_0 (x_dk dn_180_0_0_ok 18 rfl))))
  (e_Tok2
  (e_Lok (ps_iconst_m1 (x_dk dn_180_0_0_ok 19 rfl)))
  (e_Lok (lk_10_57p ho_180 (x_dk dn_180_0_0_ok 20 rfl)))))
  (e_Tok2
  (e_Tok2
  (e_Lok (ld_aload_n_0 (x_dk dn_180_0_0_ok 21 rfl)))
  (e_Lok (ps_iconst_0 (x_dk dn_180_0_0_ok 22 rfl))))
  (e_Tok2
  (e_Lok (lk_10_60p ho_180 (x_dk dn_180_0_0_ok 23 rfl)))
  (e_Tok2
  (e_Lok (ld_aload_n_0 (x_dk dn_180_0_0_ok 24 rfl)))
  (e_Lok (ps_iconst_0 (x_dk dn_180_0_1_ok 0 rfl)))))))
  (e_Tok2
  (e_Tok2
  (e_Tok2
  (e_Lok (lk_10_38p ho_180 (x_dk dn_180_0_1_ok 1 rfl)))
  (e_Lok (ld_aload_n_0 (x_dk dn_180_0_1_ok 2 rfl))))
  (e_Tok2
  (e_Lok (ps_iconst_0 (x_dk dn_180_0_1_ok 3 rfl)))
  (e_Lok (lk_10_63p ho_180 (x_dk dn_180_0_1_ok 4 rfl)))))
  (e_Tok2
  (e_Tok2
  (e_Lok (ld_aload_n_0 (x_dk dn_180_0_1_ok 5 rfl)))
  (e_Lok (ld_iload_n_2 (x_dk dn_180_0_1_ok 6 rfl))))
  (e_Tok2
  (e_Lok (lk_10_66 ho_180 (x_dk dn_180_0_1_ok 7 rfl)))
  (e_Tok2
  (e_Lok (e_st (I := eI) (er_pop (x_dk dn_180_0_1_ok 8 rfl)) (nx_stk bf_pop)))
  (e_Lok (e_rt (I := eI) (k := 0) ⟨(x_dk dn_180_0_1_ok 9 rfl), rfl⟩))))))))
def te_180 : Nat → eE := te_180_0
theorem te_180_ok : ∀ pc, e_EOq eft cls elay eI n_180 pc (te_180 pc) := te_180_0_ok
theorem ho_181 : (xm_y n_181).cls = "RobotCellHouse$Task" := rfl
def dn_181_0_0 : List (Nat × Instr × Nat) := [(0, .aload_n 0, 1), (1, .iload_n 1, 1), (2, .putfield 35, 3), (5, .aload_n 0, 1), (6, .iconst 0, 1), (7, .putfield 38, 3), (10, .aload_n 0, 1), (11, .iconst 0, 1), (12, .putfield 63, 3), (15, .return_, 1)]
set_option maxRecDepth 20000 in
theorem dn_181_0_0_ok : dn_181_0_0.all (fun q => decide (decode (xm_b n_181) q.1 = .ok (q.2.1, q.2.2))) = true := xa_g_ok (by decide +kernel)
def te_181_0 : Nat → eE := (e_T 6 (e_T 1 (e_T 0 (e_L 0 (0, ei_load 0 2 1, 0, 0)) (e_L 1 (0, ei_load 1 0 2, 0, 0))) (e_T 2 (e_L 2 (0, ei_putf eft elay 10 1 0 5, 0, 0)) (e_T 5 (e_L 5 (0, ei_load 0 2 6, 0, 0)) (e_L 6 (0, ei_push (0, 0) 7, 0, 0))))) (e_T 10 (e_T 7 (e_L 7 (0, ei_putf eft elay 10 4 0 10, 0, 0)) (e_L 10 (0, ei_load 0 2 11, 0, 0))) (e_T 11 (e_L 11 (0, ei_push (0, 0) 12, 0, 0)) (e_T 12 (e_L 12 (0, ei_putf eft elay 10 15 0 15, 0, 0)) (e_L 15 (1, e_nof, 0, 0))))))
set_option maxRecDepth 20000 in
set_option maxHeartbeats 4000000 in
theorem te_181_0_ok : ∀ pc, e_EOq eft cls elay eI n_181 pc (te_181_0 pc) :=
  (e_Tok2
  (e_Tok2
  (e_Tok2
  (e_Lok (ld_aload_n_0 (x_dk dn_181_0_0_ok 0 rfl)))
  (e_Lok (ld_iload_n_1 (x_dk dn_181_0_0_ok 1 rfl))))
  (e_Tok2
  (e_Lok (lk_10_35p ho_181 (x_dk dn_181_0_0_ok 2 rfl)))
  (e_Tok2
  (e_Lok (ld_aload_n_0 (x_dk dn_181_0_0_ok 3 rfl)))
  (e_Lok (ps_iconst_0 (x_dk dn_181_0_0_ok 4 rfl))))))
  (e_Tok2
  (e_Tok2
  (e_Lok (lk_10_38p ho_181 (x_dk dn_181_0_0_ok 5 rfl)))
  (e_Lok (ld_aload_n_0 (x_dk dn_181_0_0_ok 6 rfl))))
  (e_Tok2
  (e_Lok (ps_iconst_0 (x_dk dn_181_0_0_ok 7 rfl)))
  (e_Tok2
  (e_Lok (lk_10_63p ho_181 (x_dk dn_181_0_0_ok 8 rfl)))
  (e_Lok (e_rt (I := eI) (k := 0) ⟨(x_dk dn_181_0_0_ok 9 rfl), rfl⟩))))))
def te_181 : Nat → eE := te_181_0
theorem te_181_ok : ∀ pc, e_EOq eft cls elay eI n_181 pc (te_181 pc) := te_181_0_ok
theorem ho_182 : (xm_y n_182).cls = "RobotCellHouse$Task" := rfl
def dn_182_0_0 : List (Nat × Instr × Nat) := [(0, .aload_n 0, 1), (1, .getfield 38, 3), (4, .bipush 20, 2), (6, .if_icmp .lt 5, 3), (9, .iconst 0, 1), (10, .ireturn, 1), (11, .aload_n 0, 1), (12, .getfield 11, 3), (15, .aload_n 0, 1), (16, .getfield 38, 3), (19, .aload_n 0, 1), (20, .getfield 70, 3), (23, .iastore, 1), (24, .aload_n 0, 1), (25, .getfield 15, 3), (28, .aload_n 0, 1), (29, .getfield 38, 3), (32, .aload_n 0, 1), (33, .getfield 63, 3), (36, .iastore, 1), (37, .aload_n 0, 1), (38, .dup, 1), (39, .getfield 38, 3), (42, .iconst 1, 1), (43, .iadd, 1)]
set_option maxRecDepth 20000 in
theorem dn_182_0_0_ok : dn_182_0_0.all (fun q => decide (decode (xm_b n_182) q.1 = .ok (q.2.1, q.2.2))) = true := xa_g_ok (by decide +kernel)
def dn_182_0_1 : List (Nat × Instr × Nat) := [(44, .putfield 38, 3), (47, .aload_n 0, 1), (48, .iload_n 1, 1), (49, .putfield 70, 3), (52, .iconst 1, 1), (53, .ireturn, 1)]
set_option maxRecDepth 20000 in
theorem dn_182_0_1_ok : dn_182_0_1.all (fun q => decide (decode (xm_b n_182) q.1 = .ok (q.2.1, q.2.2))) = true := xa_g_ok (by decide +kernel)
def te_182_0 : Nat → eE := (e_T 25 (e_T 11 (e_T 4 (e_T 0 (e_L 0 (0, ei_load 0 2 1, 0, 0)) (e_T 1 (e_L 1 (0, ei_getf eft elay 10 4 4, 0, 0)) (e_L 4 (0, ei_push (0, 20) 6, 0, 0)))) (e_T 9 (e_T 6 (e_L 6 (0, ei_if2 2 11 9, 0, 0)) (e_L 9 (0, ei_push (0, 0) 10, 0, 0))) (e_T 10 (e_L 10 (1, e_nof, 4, 0)) (e_L 11 (0, ei_load 0 2 12, 0, 0))))) (e_T 19 (e_T 15 (e_T 12 (e_L 12 (0, ei_getf eft elay 10 16 15, 0, 0)) (e_L 15 (0, ei_load 0 2 16, 0, 0))) (e_T 16 (e_L 16 (0, ei_getf eft elay 10 4 19, 0, 0)) (e_L 19 (0, ei_load 0 2 20, 0, 0)))) (e_T 23 (e_T 20 (e_L 20 (0, ei_getf eft elay 10 3 23, 0, 0)) (e_L 23 (0, ei_ast elay false 24, 0, 0))) (e_T 24 (e_L 24 (0, ei_load 0 2 25, 0, 0)) (e_L 25 (0, ei_getf eft elay 10 17 28, 0, 0)))))) (e_T 39 (e_T 33 (e_T 29 (e_T 28 (e_L 28 (0, ei_load 0 2 29, 0, 0)) (e_L 29 (0, ei_getf eft elay 10 4 32, 0, 0))) (e_T 32 (e_L 32 (0, ei_load 0 2 33, 0, 0)) (e_L 33 (0, ei_getf eft elay 10 15 36, 0, 0)))) (e_T 37 (e_T 36 (e_L 36 (0, ei_ast elay false 37, 0, 0)) (e_L 37 (0, ei_load 0 2 38, 0, 0))) (e_T 38 (e_L 38 (0, ei_stk ef_dup 39, 0, 0)) (e_L 39 (0, ei_getf eft elay 10 4 42, 0, 0))))) (e_T 47 (e_T 43 (e_T 42 (e_L 42 (0, ei_push (0, 1) 43, 0, 0)) (e_L 43 (0, ei_bin eF_add 44, 0, 0))) (e_T 44 (e_L 44 (0, ei_putf eft elay 10 4 0 47, 0, 0)) (e_L 47 (0, ei_load 0 2 48, 0, 0)))) (e_T 49 (e_T 48 (e_L 48 (0, ei_load 1 0 49, 0, 0)) (e_L 49 (0, ei_putf eft elay 10 3 0 52, 0, 0))) (e_T 52 (e_L 52 (0, ei_push (0, 1) 53, 0, 0)) (e_L 53 (1, e_nof, 4, 0)))))))
set_option maxRecDepth 20000 in
set_option maxHeartbeats 4000000 in
theorem te_182_0_ok : ∀ pc, e_EOq eft cls elay eI n_182 pc (te_182_0 pc) :=
  (e_Tok2
  (e_Tok2
  (e_Tok2
  (e_Tok2
  (e_Lok (ld_aload_n_0 (x_dk dn_182_0_0_ok 0 rfl)))
  (e_Tok2
  (e_Lok (lk_10_38g ho_182 (x_dk dn_182_0_0_ok 1 rfl)))
  (e_Lok (ps_bipush_20 (x_dk dn_182_0_0_ok 2 rfl)))))
  (e_Tok2
  (e_Tok2
  (e_Lok (e_st (I := eI) (er_icmplt (off := 5) (tg := 11) (x_dk dn_182_0_0_ok 3 rfl) (by decide)) nx_if2))
  (e_Lok (ps_iconst_0 (x_dk dn_182_0_0_ok 4 rfl))))
  (e_Tok2
  (e_Lok (e_rt (I := eI) (k := 4) ⟨(x_dk dn_182_0_0_ok 5 rfl), rfl⟩))
  (e_Lok (ld_aload_n_0 (x_dk dn_182_0_0_ok 6 rfl))))))
  (e_Tok2
  (e_Tok2
  (e_Tok2
  (e_Lok (lk_10_11g ho_182 (x_dk dn_182_0_0_ok 7 rfl)))
  (e_Lok (ld_aload_n_0 (x_dk dn_182_0_0_ok 8 rfl))))
  (e_Tok2
  (e_Lok (lk_10_38g ho_182 (x_dk dn_182_0_0_ok 9 rfl)))
  (e_Lok (ld_aload_n_0 (x_dk dn_182_0_0_ok 10 rfl)))))
  (e_Tok2
  (e_Tok2
  (e_Lok (lk_10_70g ho_182 (x_dk dn_182_0_0_ok 11 rfl)))
  (e_Lok (sm_iastore (x_dk dn_182_0_0_ok 12 rfl))))
  (e_Tok2
  (e_Lok (ld_aload_n_0 (x_dk dn_182_0_0_ok 13 rfl)))
  (e_Lok (lk_10_15g ho_182 (x_dk dn_182_0_0_ok 14 rfl)))))))
  (e_Tok2
  (e_Tok2
  (e_Tok2
  (e_Tok2
  (e_Lok (ld_aload_n_0 (x_dk dn_182_0_0_ok 15 rfl)))
  (e_Lok (lk_10_38g ho_182 (x_dk dn_182_0_0_ok 16 rfl))))
  (e_Tok2
  (e_Lok (ld_aload_n_0 (x_dk dn_182_0_0_ok 17 rfl)))
  (e_Lok (lk_10_63g ho_182 (x_dk dn_182_0_0_ok 18 rfl)))))
  (e_Tok2
  (e_Tok2
  (e_Lok (sm_iastore (x_dk dn_182_0_0_ok 19 rfl)))
  (e_Lok (ld_aload_n_0 (x_dk dn_182_0_0_ok 20 rfl))))
  (e_Tok2
  (e_Lok (e_st (I := eI) (er_dup (x_dk dn_182_0_0_ok 21 rfl)) (nx_stk bf_dup)))
  (e_Lok (lk_10_38g ho_182 (x_dk dn_182_0_0_ok 22 rfl))))))
  (e_Tok2
  (e_Tok2
  (e_Tok2
  (e_Lok (ps_iconst_1 (x_dk dn_182_0_0_ok 23 rfl)))
  (e_Lok (sm_iadd (x_dk dn_182_0_0_ok 24 rfl))))
  (e_Tok2
  (e_Lok (lk_10_38p ho_182 (x_dk dn_182_0_1_ok 0 rfl)))
  (e_Lok (ld_aload_n_0 (x_dk dn_182_0_1_ok 1 rfl)))))
  (e_Tok2
  (e_Tok2
  (e_Lok (ld_iload_n_1 (x_dk dn_182_0_1_ok 2 rfl)))
  (e_Lok (lk_10_70p ho_182 (x_dk dn_182_0_1_ok 3 rfl))))
  (e_Tok2
  (e_Lok (ps_iconst_1 (x_dk dn_182_0_1_ok 4 rfl)))
  (e_Lok (e_rt (I := eI) (k := 4) ⟨(x_dk dn_182_0_1_ok 5 rfl), rfl⟩)))))))
def te_182 : Nat → eE := te_182_0
theorem te_182_ok : ∀ pc, e_EOq eft cls elay eI n_182 pc (te_182 pc) := te_182_0_ok
theorem ho_183 : (xm_y n_183).cls = "RobotCellHouse$Task" := rfl
def dn_183_0_0 : List (Nat × Instr × Nat) := [(0, .aload_n 0, 1), (1, .getfield 38, 3), (4, .iconst 1, 1), (5, .if_icmp .ge 4, 3), (8, .return_, 1), (9, .aload_n 0, 1), (10, .dup, 1), (11, .getfield 38, 3), (14, .iconst 1, 1), (15, .isub, 1), (16, .putfield 38, 3), (19, .aload_n 0, 1), (20, .aload_n 0, 1), (21, .getfield 15, 3), (24, .aload_n 0, 1), (25, .getfield 38, 3), (28, .iaload, 1), (29, .putfield 63, 3), (32, .aload_n 0, 1), (33, .aload_n 0, 1), (34, .getfield 11, 3), (37, .aload_n 0, 1), (38, .getfield 38, 3), (41, .iaload, 1), (42, .putfield 70, 3)]
set_option maxRecDepth 20000 in
theorem dn_183_0_0_ok : dn_183_0_0.all (fun q => decide (decode (xm_b n_183) q.1 = .ok (q.2.1, q.2.2))) = true := xa_g_ok (by decide +kernel)
def dn_183_0_1 : List (Nat × Instr × Nat) := [(45, .return_, 1)]
set_option maxRecDepth 20000 in
theorem dn_183_0_1_ok : dn_183_0_1.all (fun q => decide (decode (xm_b n_183) q.1 = .ok (q.2.1, q.2.2))) = true := xa_g_ok (by decide +kernel)
def te_183_0 : Nat → eE := (e_T 20 (e_T 9 (e_T 4 (e_T 0 (e_L 0 (0, ei_load 0 2 1, 0, 0)) (e_T 1 (e_L 1 (0, ei_getf eft elay 10 4 4, 0, 0)) (e_L 4 (0, ei_push (0, 1) 5, 0, 0)))) (e_T 5 (e_L 5 (0, ei_if2 3 9 8, 0, 0)) (e_T 8 (e_L 8 (1, e_nof, 0, 0)) (e_L 9 (0, ei_load 0 2 10, 0, 0))))) (e_T 14 (e_T 10 (e_L 10 (0, ei_stk ef_dup 11, 0, 0)) (e_T 11 (e_L 11 (0, ei_getf eft elay 10 4 14, 0, 0)) (e_L 14 (0, ei_push (0, 1) 15, 0, 0)))) (e_T 16 (e_T 15 (e_L 15 (0, ei_bin eF_sub 16, 0, 0)) (e_L 16 (0, ei_putf eft elay 10 4 0 19, 0, 0))) (e_T 19 (e_L 19 (0, ei_load 0 2 20, 0, 0)) (e_L 20 (0, ei_load 0 2 21, 0, 0)))))) (e_T 32 (e_T 25 (e_T 21 (e_L 21 (0, ei_getf eft elay 10 17 24, 0, 0)) (e_T 24 (e_L 24 (0, ei_load 0 2 25, 0, 0)) (e_L 25 (0, ei_getf eft elay 10 4 28, 0, 0)))) (e_T 28 (e_L 28 (0, ei_ald elay false 29, 0, 0)) (e_T 29 (e_L 29 (0, ei_putf eft elay 10 15 0 32, 0, 0)) (e_L 32 (0, ei_load 0 2 33, 0, 0))))) (e_T 37 (e_T 33 (e_L 33 (0, ei_load 0 2 34, 0, 0)) (e_T 34 (e_L 34 (0, ei_getf eft elay 10 16 37, 0, 0)) (e_L 37 (0, ei_load 0 2 38, 0, 0)))) (e_T 41 (e_T 38 (e_L 38 (0, ei_getf eft elay 10 4 41, 0, 0)) (e_L 41 (0, ei_ald elay false 42, 0, 0))) (e_T 42 (e_L 42 (0, ei_putf eft elay 10 3 0 45, 0, 0)) (e_L 45 (1, e_nof, 0, 0)))))))
set_option maxRecDepth 20000 in
set_option maxHeartbeats 4000000 in
theorem te_183_0_ok : ∀ pc, e_EOq eft cls elay eI n_183 pc (te_183_0 pc) :=
  (e_Tok2
  (e_Tok2
  (e_Tok2
  (e_Tok2
  (e_Lok (ld_aload_n_0 (x_dk dn_183_0_0_ok 0 rfl)))
  (e_Tok2
  (e_Lok (lk_10_38g ho_183 (x_dk dn_183_0_0_ok 1 rfl)))
  (e_Lok (ps_iconst_1 (x_dk dn_183_0_0_ok 2 rfl)))))
  (e_Tok2
  (e_Lok (e_st (I := eI) (er_icmpge (off := 4) (tg := 9) (x_dk dn_183_0_0_ok 3 rfl) (by decide)) nx_if2))
  (e_Tok2
  (e_Lok (e_rt (I := eI) (k := 0) ⟨(x_dk dn_183_0_0_ok 4 rfl), rfl⟩))
  (e_Lok (ld_aload_n_0 (x_dk dn_183_0_0_ok 5 rfl))))))
  (e_Tok2
  (e_Tok2
  (e_Lok (e_st (I := eI) (er_dup (x_dk dn_183_0_0_ok 6 rfl)) (nx_stk bf_dup)))
  (e_Tok2
  (e_Lok (lk_10_38g ho_183 (x_dk dn_183_0_0_ok 7 rfl)))
  (e_Lok (ps_iconst_1 (x_dk dn_183_0_0_ok 8 rfl)))))
  (e_Tok2
  (e_Tok2
  (e_Lok (sm_isub (x_dk dn_183_0_0_ok 9 rfl)))
  (e_Lok (lk_10_38p ho_183 (x_dk dn_183_0_0_ok 10 rfl))))
  (e_Tok2
  (e_Lok (ld_aload_n_0 (x_dk dn_183_0_0_ok 11 rfl)))
  (e_Lok (ld_aload_n_0 (x_dk dn_183_0_0_ok 12 rfl)))))))
  (e_Tok2
  (e_Tok2
  (e_Tok2
  (e_Lok (lk_10_15g ho_183 (x_dk dn_183_0_0_ok 13 rfl)))
  (e_Tok2
  (e_Lok (ld_aload_n_0 (x_dk dn_183_0_0_ok 14 rfl)))
  (e_Lok (lk_10_38g ho_183 (x_dk dn_183_0_0_ok 15 rfl)))))
  (e_Tok2
  (e_Lok (sm_iaload (x_dk dn_183_0_0_ok 16 rfl)))
  (e_Tok2
  (e_Lok (lk_10_63p ho_183 (x_dk dn_183_0_0_ok 17 rfl)))
  (e_Lok (ld_aload_n_0 (x_dk dn_183_0_0_ok 18 rfl))))))
  (e_Tok2
  (e_Tok2
  (e_Lok (ld_aload_n_0 (x_dk dn_183_0_0_ok 19 rfl)))
  (e_Tok2
  (e_Lok (lk_10_11g ho_183 (x_dk dn_183_0_0_ok 20 rfl)))
  (e_Lok (ld_aload_n_0 (x_dk dn_183_0_0_ok 21 rfl)))))
  (e_Tok2
  (e_Tok2
  (e_Lok (lk_10_38g ho_183 (x_dk dn_183_0_0_ok 22 rfl)))
  (e_Lok (sm_iaload (x_dk dn_183_0_0_ok 23 rfl))))
  (e_Tok2
  (e_Lok (lk_10_70p ho_183 (x_dk dn_183_0_0_ok 24 rfl)))
  (e_Lok (e_rt (I := eI) (k := 0) ⟨(x_dk dn_183_0_1_ok 0 rfl), rfl⟩)))))))
def te_183 : Nat → eE := te_183_0
theorem te_183_ok : ∀ pc, e_EOq eft cls elay eI n_183 pc (te_183 pc) := te_183_0_ok
theorem ho_184 : (xm_y n_184).cls = "RobotCellHouse$Task" := rfl
def dn_184_0_0 : List (Nat × Instr × Nat) := [(0, .aload_n 0, 1), (1, .getfield 63, 3), (4, .sipush 600, 3), (7, .if_icmp .lt 4, 3), (10, .return_, 1), (11, .aload_n 0, 1), (12, .getfield 18, 3), (15, .aload_n 0, 1), (16, .getfield 63, 3), (19, .iload_n 1, 1), (20, .iastore, 1), (21, .aload_n 0, 1), (22, .getfield 21, 3), (25, .aload_n 0, 1), (26, .getfield 63, 3), (29, .iconst 0, 1), (30, .iastore, 1), (31, .aload_n 0, 1), (32, .dup, 1), (33, .getfield 63, 3), (36, .iconst 1, 1), (37, .iadd, 1), (38, .putfield 63, 3), (41, .return_, 1)]
set_option maxRecDepth 20000 in
theorem dn_184_0_0_ok : dn_184_0_0.all (fun q => decide (decode (xm_b n_184) q.1 = .ok (q.2.1, q.2.2))) = true := xa_g_ok (by decide +kernel)
def te_184_0 : Nat → eE := (e_T 21 (e_T 11 (e_T 4 (e_T 0 (e_L 0 (0, ei_load 0 2 1, 0, 0)) (e_T 1 (e_L 1 (0, ei_getf eft elay 10 15 4, 0, 0)) (e_L 4 (0, ei_push (0, 600) 7, 0, 0)))) (e_T 7 (e_L 7 (0, ei_if2 2 11 10, 0, 0)) (e_T 10 (e_L 10 (1, e_nof, 0, 0)) (e_L 11 (0, ei_load 0 2 12, 0, 0))))) (e_T 16 (e_T 12 (e_L 12 (0, ei_getf eft elay 10 18 15, 0, 0)) (e_T 15 (e_L 15 (0, ei_load 0 2 16, 0, 0)) (e_L 16 (0, ei_getf eft elay 10 15 19, 0, 0)))) (e_T 19 (e_L 19 (0, ei_load 1 0 20, 0, 0)) (e_T 20 (e_L 20 (0, ei_ast elay false 21, 0, 0)) (e_L 21 (0, ei_load 0 2 22, 0, 0)))))) (e_T 31 (e_T 26 (e_T 22 (e_L 22 (0, ei_getf eft elay 10 19 25, 0, 0)) (e_T 25 (e_L 25 (0, ei_load 0 2 26, 0, 0)) (e_L 26 (0, ei_getf eft elay 10 15 29, 0, 0)))) (e_T 29 (e_L 29 (0, ei_push (0, 0) 30, 0, 0)) (e_T 30 (e_L 30 (0, ei_ast elay false 31, 0, 0)) (e_L 31 (0, ei_load 0 2 32, 0, 0))))) (e_T 36 (e_T 32 (e_L 32 (0, ei_stk ef_dup 33, 0, 0)) (e_T 33 (e_L 33 (0, ei_getf eft elay 10 15 36, 0, 0)) (e_L 36 (0, ei_push (0, 1) 37, 0, 0)))) (e_T 37 (e_L 37 (0, ei_bin eF_add 38, 0, 0)) (e_T 38 (e_L 38 (0, ei_putf eft elay 10 15 0 41, 0, 0)) (e_L 41 (1, e_nof, 0, 0)))))))
set_option maxRecDepth 20000 in
set_option maxHeartbeats 4000000 in
theorem te_184_0_ok : ∀ pc, e_EOq eft cls elay eI n_184 pc (te_184_0 pc) :=
  (e_Tok2
  (e_Tok2
  (e_Tok2
  (e_Tok2
  (e_Lok (ld_aload_n_0 (x_dk dn_184_0_0_ok 0 rfl)))
  (e_Tok2
  (e_Lok (lk_10_63g ho_184 (x_dk dn_184_0_0_ok 1 rfl)))
  (e_Lok (ps_sipush_600 (x_dk dn_184_0_0_ok 2 rfl)))))
  (e_Tok2
  (e_Lok (e_st (I := eI) (er_icmplt (off := 4) (tg := 11) (x_dk dn_184_0_0_ok 3 rfl) (by decide)) nx_if2))
  (e_Tok2
  (e_Lok (e_rt (I := eI) (k := 0) ⟨(x_dk dn_184_0_0_ok 4 rfl), rfl⟩))
  (e_Lok (ld_aload_n_0 (x_dk dn_184_0_0_ok 5 rfl))))))
  (e_Tok2
  (e_Tok2
  (e_Lok (lk_10_18g ho_184 (x_dk dn_184_0_0_ok 6 rfl)))
  (e_Tok2
  (e_Lok (ld_aload_n_0 (x_dk dn_184_0_0_ok 7 rfl)))
  (e_Lok (lk_10_63g ho_184 (x_dk dn_184_0_0_ok 8 rfl)))))
  (e_Tok2
  (e_Lok (ld_iload_n_1 (x_dk dn_184_0_0_ok 9 rfl)))
  (e_Tok2
  (e_Lok (sm_iastore (x_dk dn_184_0_0_ok 10 rfl)))
  (e_Lok (ld_aload_n_0 (x_dk dn_184_0_0_ok 11 rfl)))))))
  (e_Tok2
  (e_Tok2
  (e_Tok2
  (e_Lok (lk_10_21g ho_184 (x_dk dn_184_0_0_ok 12 rfl)))
  (e_Tok2
  (e_Lok (ld_aload_n_0 (x_dk dn_184_0_0_ok 13 rfl)))
  (e_Lok (lk_10_63g ho_184 (x_dk dn_184_0_0_ok 14 rfl)))))
  (e_Tok2
  (e_Lok (ps_iconst_0 (x_dk dn_184_0_0_ok 15 rfl)))
  (e_Tok2
  (e_Lok (sm_iastore (x_dk dn_184_0_0_ok 16 rfl)))
  (e_Lok (ld_aload_n_0 (x_dk dn_184_0_0_ok 17 rfl))))))
  (e_Tok2
  (e_Tok2
  (e_Lok (e_st (I := eI) (er_dup (x_dk dn_184_0_0_ok 18 rfl)) (nx_stk bf_dup)))
  (e_Tok2
  (e_Lok (lk_10_63g ho_184 (x_dk dn_184_0_0_ok 19 rfl)))
  (e_Lok (ps_iconst_1 (x_dk dn_184_0_0_ok 20 rfl)))))
  (e_Tok2
  (e_Lok (sm_iadd (x_dk dn_184_0_0_ok 21 rfl)))
  (e_Tok2
  (e_Lok (lk_10_63p ho_184 (x_dk dn_184_0_0_ok 22 rfl)))
  (e_Lok (e_rt (I := eI) (k := 0) ⟨(x_dk dn_184_0_0_ok 23 rfl), rfl⟩)))))))
def te_184 : Nat → eE := te_184_0
theorem te_184_ok : ∀ pc, e_EOq eft cls elay eI n_184 pc (te_184 pc) := te_184_0_ok
theorem ho_185 : (xm_y n_185).cls = "RobotCellHouse$Task" := rfl
def dn_185_0_0 : List (Nat × Instr × Nat) := [(0, .aload_n 0, 1), (1, .getfield 63, 3), (4, .iconst 1, 1), (5, .if_icmp .ge 4, 3), (8, .return_, 1), (9, .aload_n 0, 1), (10, .getfield 18, 3), (13, .aload_n 0, 1), (14, .getfield 63, 3), (17, .iconst 1, 1), (18, .isub, 1), (19, .iaload, 1), (20, .istore_n 2, 1), (21, .aload_n 1, 1), (22, .iload_n 2, 1), (23, .iconst 2, 1), (24, .iadd, 1), (25, .invokevirtual 73, 3), (28, .istore_n 3, 1), (29, .iload_n 3, 1), (30, .ifCond .ne 27, 3), (33, .aload_n 0, 1), (34, .dup, 1), (35, .getfield 63, 3), (38, .iconst 1, 1)]
set_option maxRecDepth 20000 in
theorem dn_185_0_0_ok : dn_185_0_0.all (fun q => decide (decode (xm_b n_185) q.1 = .ok (q.2.1, q.2.2))) = true := xa_g_ok (by decide +kernel)
def dn_185_0_1 : List (Nat × Instr × Nat) := [(39, .isub, 1), (40, .putfield 63, 3), (43, .aload_n 0, 1), (44, .aload_n 1, 1), (45, .iload_n 2, 1), (46, .iconst 3, 1), (47, .iadd, 1), (48, .invokevirtual 73, 3), (51, .putfield 70, 3), (54, .goto 20, 3), (57, .aload_n 0, 1), (58, .getfield 21, 3), (61, .aload_n 0, 1), (62, .getfield 63, 3), (65, .iconst 1, 1), (66, .isub, 1), (67, .iconst 2, 1), (68, .iastore, 1), (69, .aload_n 0, 1), (70, .iload_n 3, 1), (71, .putfield 70, 3), (74, .return_, 1)]
set_option maxRecDepth 20000 in
theorem dn_185_0_1_ok : dn_185_0_1.all (fun q => decide (decode (xm_b n_185) q.1 = .ok (q.2.1, q.2.2))) = true := xa_g_ok (by decide +kernel)
def te_185_0 : Nat → eE := (e_T 18 (e_T 8 (e_T 1 (e_T 0 (e_L 0 (0, ei_load 0 2 1, 0, 0)) (e_L 1 (0, ei_getf eft elay 10 15 4, 0, 0))) (e_T 4 (e_L 4 (0, ei_push (0, 1) 5, 0, 0)) (e_T 5 (e_L 5 (0, ei_if2 3 9 8, 0, 0)) (e_L 8 (1, e_nof, 0, 0))))) (e_T 13 (e_T 9 (e_L 9 (0, ei_load 0 2 10, 0, 0)) (e_T 10 (e_L 10 (0, ei_getf eft elay 10 18 13, 0, 0)) (e_L 13 (0, ei_load 0 2 14, 0, 0)))) (e_T 14 (e_L 14 (0, ei_getf eft elay 10 15 17, 0, 0)) (e_T 17 (e_L 17 (0, ei_push (0, 1) 18, 0, 0)) (e_L 18 (0, ei_bin eF_sub 19, 0, 0)))))) (e_T 24 (e_T 21 (e_T 19 (e_L 19 (0, ei_ald elay false 20, 0, 0)) (e_T 20 (e_L 20 (0, ei_stor 2 0 21, 0, 0)) (e_L 21 (0, ei_load 1 2 22, 0, 0)))) (e_T 22 (e_L 22 (0, ei_load 2 0 23, 0, 0)) (e_T 23 (e_L 23 (0, ei_push (0, 2) 24, 0, 0)) (e_L 24 (0, ei_bin eF_add 25, 0, 0))))) (e_T 29 (e_T 25 (e_L 25 (2, e_nof, 24, 2)) (e_T 28 (e_L 28 (0, ei_stor 3 0 29, 0, 0)) (e_L 29 (0, ei_load 3 0 30, 0, 0)))) (e_T 30 (e_L 30 (0, ei_if1 1 57 33, 0, 0)) (e_T 33 (e_L 33 (0, ei_load 0 2 34, 0, 0)) (e_L 34 (0, ei_stk ef_dup 35, 0, 0)))))))
set_option maxRecDepth 20000 in
set_option maxHeartbeats 4000000 in
theorem te_185_0_ok : ∀ pc, e_EOq eft cls elay eI n_185 pc (te_185_0 pc) :=
  (e_Tok2
  (e_Tok2
  (e_Tok2
  (e_Tok2
  (e_Lok (ld_aload_n_0 (x_dk dn_185_0_0_ok 0 rfl)))
  (e_Lok (lk_10_63g ho_185 (x_dk dn_185_0_0_ok 1 rfl))))
  (e_Tok2
  (e_Lok (ps_iconst_1 (x_dk dn_185_0_0_ok 2 rfl)))
  (e_Tok2
  (e_Lok (e_st (I := eI) (er_icmpge (off := 4) (tg := 9) (x_dk dn_185_0_0_ok 3 rfl) (by decide)) nx_if2))
  (e_Lok (e_rt (I := eI) (k := 0) ⟨(x_dk dn_185_0_0_ok 4 rfl), rfl⟩)))))
  (e_Tok2
  (e_Tok2
  (e_Lok (ld_aload_n_0 (x_dk dn_185_0_0_ok 5 rfl)))
  (e_Tok2
  (e_Lok (lk_10_18g ho_185 (x_dk dn_185_0_0_ok 6 rfl)))
  (e_Lok (ld_aload_n_0 (x_dk dn_185_0_0_ok 7 rfl)))))
  (e_Tok2
  (e_Lok (lk_10_63g ho_185 (x_dk dn_185_0_0_ok 8 rfl)))
  (e_Tok2
  (e_Lok (ps_iconst_1 (x_dk dn_185_0_0_ok 9 rfl)))
  (e_Lok (sm_isub (x_dk dn_185_0_0_ok 10 rfl)))))))
  (e_Tok2
  (e_Tok2
  (e_Tok2
  (e_Lok (sm_iaload (x_dk dn_185_0_0_ok 11 rfl)))
  (e_Tok2
  (e_Lok (e_st (I := eI) (er_istore_n (i := 2) (x_dk dn_185_0_0_ok 12 rfl) (by decide +kernel)) nx_stor))
  (e_Lok (ld_aload_n_1 (x_dk dn_185_0_0_ok 13 rfl)))))
  (e_Tok2
  (e_Lok (ld_iload_n_2 (x_dk dn_185_0_0_ok 14 rfl)))
  (e_Tok2
  (e_Lok (ps_iconst_2 (x_dk dn_185_0_0_ok 15 rfl)))
  (e_Lok (sm_iadd (x_dk dn_185_0_0_ok 16 rfl))))))
  (e_Tok2
  (e_Tok2
  (e_Lok (lk_10_73 ho_185 (x_dk dn_185_0_0_ok 17 rfl)))
  (e_Tok2
  (e_Lok (e_st (I := eI) (er_istore_n (i := 3) (x_dk dn_185_0_0_ok 18 rfl) (by decide +kernel)) nx_stor))
  (e_Lok (ld_iload_n_3 (x_dk dn_185_0_0_ok 19 rfl)))))
  (e_Tok2
  (e_Lok (e_st (I := eI) (er_ifne (off := 27) (tg := 57) (x_dk dn_185_0_0_ok 20 rfl) (by decide)) nx_if1))
  (e_Tok2
  (e_Lok (ld_aload_n_0 (x_dk dn_185_0_0_ok 21 rfl)))
  (e_Lok (e_st (I := eI) (er_dup (x_dk dn_185_0_0_ok 22 rfl)) (nx_stk bf_dup))))))))
def te_185_23 : Nat → eE := (e_T 54 (e_T 44 (e_T 39 (e_T 35 (e_L 35 (0, ei_getf eft elay 10 15 38, 0, 0)) (e_T 38 (e_L 38 (0, ei_push (0, 1) 39, 0, 0)) (e_L 39 (0, ei_bin eF_sub 40, 0, 0)))) (e_T 40 (e_L 40 (0, ei_putf eft elay 10 15 0 43, 0, 0)) (e_T 43 (e_L 43 (0, ei_load 0 2 44, 0, 0)) (e_L 44 (0, ei_load 1 2 45, 0, 0))))) (e_T 47 (e_T 45 (e_L 45 (0, ei_load 2 0 46, 0, 0)) (e_T 46 (e_L 46 (0, ei_push (0, 3) 47, 0, 0)) (e_L 47 (0, ei_bin eF_add 48, 0, 0)))) (e_T 48 (e_L 48 (2, e_nof, 24, 2)) (e_T 51 (e_L 51 (0, ei_putf eft elay 10 3 0 54, 0, 0)) (e_L 54 (0, ei_goto 74, 0, 0)))))) (e_T 66 (e_T 61 (e_T 57 (e_L 57 (0, ei_load 0 2 58, 0, 0)) (e_T 58 (e_L 58 (0, ei_getf eft elay 10 19 61, 0, 0)) (e_L 61 (0, ei_load 0 2 62, 0, 0)))) (e_T 62 (e_L 62 (0, ei_getf eft elay 10 15 65, 0, 0)) (e_T 65 (e_L 65 (0, ei_push (0, 1) 66, 0, 0)) (e_L 66 (0, ei_bin eF_sub 67, 0, 0))))) (e_T 69 (e_T 67 (e_L 67 (0, ei_push (0, 2) 68, 0, 0)) (e_T 68 (e_L 68 (0, ei_ast elay false 69, 0, 0)) (e_L 69 (0, ei_load 0 2 70, 0, 0)))) (e_T 70 (e_L 70 (0, ei_load 3 0 71, 0, 0)) (e_T 71 (e_L 71 (0, ei_putf eft elay 10 3 0 74, 0, 0)) (e_L 74 (1, e_nof, 0, 0)))))))
set_option maxRecDepth 20000 in
set_option maxHeartbeats 4000000 in
theorem te_185_23_ok : ∀ pc, e_EOq eft cls elay eI n_185 pc (te_185_23 pc) :=
  (e_Tok2
  (e_Tok2
  (e_Tok2
  (e_Tok2
  (e_Lok (lk_10_63g ho_185 (x_dk dn_185_0_0_ok 23 rfl)))
  (e_Tok2
  (e_Lok (ps_iconst_1 (x_dk dn_185_0_0_ok 24 rfl)))
  (e_Lok (sm_isub (x_dk dn_185_0_1_ok 0 rfl)))))
  (e_Tok2
  (e_Lok (lk_10_63p ho_185 (x_dk dn_185_0_1_ok 1 rfl)))
  (e_Tok2
  (e_Lok (ld_aload_n_0 (x_dk dn_185_0_1_ok 2 rfl)))
  (e_Lok (ld_aload_n_1 (x_dk dn_185_0_1_ok 3 rfl))))))
  (e_Tok2
  (e_Tok2
  (e_Lok (ld_iload_n_2 (x_dk dn_185_0_1_ok 4 rfl)))
  (e_Tok2
  (e_Lok (ps_iconst_3 (x_dk dn_185_0_1_ok 5 rfl)))
  (e_Lok (sm_iadd (x_dk dn_185_0_1_ok 6 rfl)))))
  (e_Tok2
  (e_Lok (lk_10_73 ho_185 (x_dk dn_185_0_1_ok 7 rfl)))
  (e_Tok2
  (e_Lok (lk_10_70p ho_185 (x_dk dn_185_0_1_ok 8 rfl)))
  (e_Lok (e_st (I := eI) (er_goto (off := 20) (tg := 74) (x_dk dn_185_0_1_ok 9 rfl) (by decide)) nx_goto))))))
  (e_Tok2
  (e_Tok2
  (e_Tok2
  (e_Lok (ld_aload_n_0 (x_dk dn_185_0_1_ok 10 rfl)))
  (e_Tok2
  (e_Lok (lk_10_21g ho_185 (x_dk dn_185_0_1_ok 11 rfl)))
  (e_Lok (ld_aload_n_0 (x_dk dn_185_0_1_ok 12 rfl)))))
  (e_Tok2
  (e_Lok (lk_10_63g ho_185 (x_dk dn_185_0_1_ok 13 rfl)))
  (e_Tok2
  (e_Lok (ps_iconst_1 (x_dk dn_185_0_1_ok 14 rfl)))
  (e_Lok (sm_isub (x_dk dn_185_0_1_ok 15 rfl))))))
  (e_Tok2
  (e_Tok2
  (e_Lok (ps_iconst_2 (x_dk dn_185_0_1_ok 16 rfl)))
  (e_Tok2
  (e_Lok (sm_iastore (x_dk dn_185_0_1_ok 17 rfl)))
  (e_Lok (ld_aload_n_0 (x_dk dn_185_0_1_ok 18 rfl)))))
  (e_Tok2
  (e_Lok (ld_iload_n_3 (x_dk dn_185_0_1_ok 19 rfl)))
  (e_Tok2
  (e_Lok (lk_10_70p ho_185 (x_dk dn_185_0_1_ok 20 rfl)))
  (e_Lok (e_rt (I := eI) (k := 0) ⟨(x_dk dn_185_0_1_ok 21 rfl), rfl⟩)))))))
def te_185 : Nat → eE := (e_T 34 te_185_0 te_185_23)
theorem te_185_ok : ∀ pc, e_EOq eft cls elay eI n_185 pc (te_185 pc) := (e_Tok2 (te_185_0_ok) (te_185_23_ok))
theorem ho_186 : (xm_y n_186).cls = "RobotCellHouse$Task" := rfl
def dn_186_0_0 : List (Nat × Instr × Nat) := [(0, .aload_n 0, 1), (1, .getfield 63, 3), (4, .iconst 1, 1), (5, .if_icmp .ge 5, 3), (8, .iconst 0, 1), (9, .ireturn, 1), (10, .aload_n 0, 1), (11, .dup, 1), (12, .getfield 63, 3), (15, .iconst 1, 1), (16, .isub, 1), (17, .putfield 63, 3), (20, .aload_n 0, 1), (21, .getfield 21, 3), (24, .aload_n 0, 1), (25, .getfield 63, 3), (28, .iaload, 1), (29, .iconst 2, 1), (30, .ishr, 1), (31, .ireturn, 1)]
set_option maxRecDepth 20000 in
theorem dn_186_0_0_ok : dn_186_0_0.all (fun q => decide (decode (xm_b n_186) q.1 = .ok (q.2.1, q.2.2))) = true := xa_g_ok (by decide +kernel)
def te_186_0 : Nat → eE := (e_T 15 (e_T 8 (e_T 1 (e_T 0 (e_L 0 (0, ei_load 0 2 1, 0, 0)) (e_L 1 (0, ei_getf eft elay 10 15 4, 0, 0))) (e_T 4 (e_L 4 (0, ei_push (0, 1) 5, 0, 0)) (e_T 5 (e_L 5 (0, ei_if2 3 10 8, 0, 0)) (e_L 8 (0, ei_push (0, 0) 9, 0, 0))))) (e_T 10 (e_T 9 (e_L 9 (1, e_nof, 1, 0)) (e_L 10 (0, ei_load 0 2 11, 0, 0))) (e_T 11 (e_L 11 (0, ei_stk ef_dup 12, 0, 0)) (e_T 12 (e_L 12 (0, ei_getf eft elay 10 15 15, 0, 0)) (e_L 15 (0, ei_push (0, 1) 16, 0, 0)))))) (e_T 24 (e_T 17 (e_T 16 (e_L 16 (0, ei_bin eF_sub 17, 0, 0)) (e_L 17 (0, ei_putf eft elay 10 15 0 20, 0, 0))) (e_T 20 (e_L 20 (0, ei_load 0 2 21, 0, 0)) (e_T 21 (e_L 21 (0, ei_getf eft elay 10 19 24, 0, 0)) (e_L 24 (0, ei_load 0 2 25, 0, 0))))) (e_T 28 (e_T 25 (e_L 25 (0, ei_getf eft elay 10 15 28, 0, 0)) (e_L 28 (0, ei_ald elay false 29, 0, 0))) (e_T 29 (e_L 29 (0, ei_push (0, 2) 30, 0, 0)) (e_T 30 (e_L 30 (0, ei_bin (eB (fun x y => x >>> (y &&& 31))) 31, 0, 0)) (e_L 31 (1, e_nof, 1, 0)))))))
set_option maxRecDepth 20000 in
set_option maxHeartbeats 4000000 in
theorem te_186_0_ok : ∀ pc, e_EOq eft cls elay eI n_186 pc (te_186_0 pc) :=
  (e_Tok2
  (e_Tok2
  (e_Tok2
  (e_Tok2
  (e_Lok (ld_aload_n_0 (x_dk dn_186_0_0_ok 0 rfl)))
  (e_Lok (lk_10_63g ho_186 (x_dk dn_186_0_0_ok 1 rfl))))
  (e_Tok2
  (e_Lok (ps_iconst_1 (x_dk dn_186_0_0_ok 2 rfl)))
  (e_Tok2
  (e_Lok (e_st (I := eI) (er_icmpge (off := 5) (tg := 10) (x_dk dn_186_0_0_ok 3 rfl) (by decide)) nx_if2))
  (e_Lok (ps_iconst_0 (x_dk dn_186_0_0_ok 4 rfl))))))
  (e_Tok2
  (e_Tok2
  (e_Lok (e_rt (I := eI) (k := 1) ⟨(x_dk dn_186_0_0_ok 5 rfl), rfl⟩))
  (e_Lok (ld_aload_n_0 (x_dk dn_186_0_0_ok 6 rfl))))
  (e_Tok2
  (e_Lok (e_st (I := eI) (er_dup (x_dk dn_186_0_0_ok 7 rfl)) (nx_stk bf_dup)))
  (e_Tok2
  (e_Lok (lk_10_63g ho_186 (x_dk dn_186_0_0_ok 8 rfl)))
  (e_Lok (ps_iconst_1 (x_dk dn_186_0_0_ok 9 rfl)))))))
  (e_Tok2
  (e_Tok2
  (e_Tok2
  (e_Lok (sm_isub (x_dk dn_186_0_0_ok 10 rfl)))
  (e_Lok (lk_10_63p ho_186 (x_dk dn_186_0_0_ok 11 rfl))))
  (e_Tok2
  (e_Lok (ld_aload_n_0 (x_dk dn_186_0_0_ok 12 rfl)))
  (e_Tok2
  (e_Lok (lk_10_21g ho_186 (x_dk dn_186_0_0_ok 13 rfl)))
  (e_Lok (ld_aload_n_0 (x_dk dn_186_0_0_ok 14 rfl))))))
  (e_Tok2
  (e_Tok2
  (e_Lok (lk_10_63g ho_186 (x_dk dn_186_0_0_ok 15 rfl)))
  (e_Lok (sm_iaload (x_dk dn_186_0_0_ok 16 rfl))))
  (e_Tok2
  (e_Lok (ps_iconst_2 (x_dk dn_186_0_0_ok 17 rfl)))
  (e_Tok2
  (e_Lok (e_st (I := eI) (er_ishr (x_dk dn_186_0_0_ok 18 rfl)) nx_bin))
  (e_Lok (e_rt (I := eI) (k := 1) ⟨(x_dk dn_186_0_0_ok 19 rfl), rfl⟩)))))))
def te_186 : Nat → eE := te_186_0
theorem te_186_ok : ∀ pc, e_EOq eft cls elay eI n_186 pc (te_186 pc) := te_186_0_ok
theorem ho_187 : (xm_y n_187).cls = "RobotCellHouse$Task" := rfl
def dn_187_0_0 : List (Nat × Instr × Nat) := [(0, .aload_n 0, 1), (1, .getfield 63, 3), (4, .sipush 600, 3), (7, .if_icmp .ge 15, 3), (10, .aload_n 0, 1), (11, .getfield 24, 3), (14, .aload_n 0, 1), (15, .getfield 63, 3), (18, .iaload, 1), (19, .goto 4, 3), (22, .iconst 0, 1), (23, .ireturn, 1)]
set_option maxRecDepth 20000 in
theorem dn_187_0_0_ok : dn_187_0_0.all (fun q => decide (decode (xm_b n_187) q.1 = .ok (q.2.1, q.2.2))) = true := xa_g_ok (by decide +kernel)
def te_187_0 : Nat → eE := (e_T 11 (e_T 4 (e_T 0 (e_L 0 (0, ei_load 0 2 1, 0, 0)) (e_T 1 (e_L 1 (0, ei_getf eft elay 10 15 4, 0, 0)) (e_L 4 (0, ei_push (0, 600) 7, 0, 0)))) (e_T 7 (e_L 7 (0, ei_if2 3 22 10, 0, 0)) (e_T 10 (e_L 10 (0, ei_load 0 2 11, 0, 0)) (e_L 11 (0, ei_getf eft elay 10 20 14, 0, 0))))) (e_T 18 (e_T 14 (e_L 14 (0, ei_load 0 2 15, 0, 0)) (e_T 15 (e_L 15 (0, ei_getf eft elay 10 15 18, 0, 0)) (e_L 18 (0, ei_ald elay false 19, 0, 0)))) (e_T 19 (e_L 19 (0, ei_goto 23, 0, 0)) (e_T 22 (e_L 22 (0, ei_push (0, 0) 23, 0, 0)) (e_L 23 (1, e_nof, 1, 0))))))
set_option maxRecDepth 20000 in
set_option maxHeartbeats 4000000 in
theorem te_187_0_ok : ∀ pc, e_EOq eft cls elay eI n_187 pc (te_187_0 pc) :=
  (e_Tok2
  (e_Tok2
  (e_Tok2
  (e_Lok (ld_aload_n_0 (x_dk dn_187_0_0_ok 0 rfl)))
  (e_Tok2
  (e_Lok (lk_10_63g ho_187 (x_dk dn_187_0_0_ok 1 rfl)))
  (e_Lok (ps_sipush_600 (x_dk dn_187_0_0_ok 2 rfl)))))
  (e_Tok2
  (e_Lok (e_st (I := eI) (er_icmpge (off := 15) (tg := 22) (x_dk dn_187_0_0_ok 3 rfl) (by decide)) nx_if2))
  (e_Tok2
  (e_Lok (ld_aload_n_0 (x_dk dn_187_0_0_ok 4 rfl)))
  (e_Lok (lk_10_24g ho_187 (x_dk dn_187_0_0_ok 5 rfl))))))
  (e_Tok2
  (e_Tok2
  (e_Lok (ld_aload_n_0 (x_dk dn_187_0_0_ok 6 rfl)))
  (e_Tok2
  (e_Lok (lk_10_63g ho_187 (x_dk dn_187_0_0_ok 7 rfl)))
  (e_Lok (sm_iaload (x_dk dn_187_0_0_ok 8 rfl)))))
  (e_Tok2
  (e_Lok (e_st (I := eI) (er_goto (off := 4) (tg := 23) (x_dk dn_187_0_0_ok 9 rfl) (by decide)) nx_goto))
  (e_Tok2
  (e_Lok (ps_iconst_0 (x_dk dn_187_0_0_ok 10 rfl)))
  (e_Lok (e_rt (I := eI) (k := 1) ⟨(x_dk dn_187_0_0_ok 11 rfl), rfl⟩))))))
def te_187 : Nat → eE := te_187_0
theorem te_187_ok : ∀ pc, e_EOq eft cls elay eI n_187 pc (te_187 pc) := te_187_0_ok
theorem ho_188 : (xm_y n_188).cls = "RobotCellHouse$Task" := rfl
def dn_188_0_0 : List (Nat × Instr × Nat) := [(0, .iload_n 2, 1), (1, .iconst 1, 1), (2, .if_icmp .eq 11, 3), (5, .aload_n 0, 1), (6, .getfield 38, 3), (9, .iconst 1, 1), (10, .if_icmp .ge 7, 3), (13, .iconst 0, 1), (14, .goto 14, 3), (17, .aload_n 0, 1), (18, .getfield 15, 3), (21, .aload_n 0, 1), (22, .getfield 38, 3), (25, .iconst 1, 1), (26, .isub, 1), (27, .iaload, 1), (28, .istore 4, 2), (30, .iload_n 2, 1), (31, .iconst 3, 1), (32, .if_icmp .ne 13, 3), (35, .iload 4, 2), (37, .aload_n 1, 1), (38, .iload_n 3, 1), (39, .invokevirtual 73, 3), (42, .iadd, 1)]
set_option maxRecDepth 20000 in
theorem dn_188_0_0_ok : dn_188_0_0.all (fun q => decide (decode (xm_b n_188) q.1 = .ok (q.2.1, q.2.2))) = true := xa_g_ok (by decide +kernel)
def dn_188_0_1 : List (Nat × Instr × Nat) := [(43, .istore 4, 2), (45, .aload_n 0, 1), (46, .getfield 63, 3), (49, .iload 4, 2), (51, .if_icmp .le 133, 3), (54, .aload_n 0, 1), (55, .getfield 18, 3), (58, .aload_n 0, 1), (59, .getfield 63, 3), (62, .iconst 1, 1), (63, .isub, 1), (64, .iaload, 1), (65, .istore 5, 2), (67, .aload_n 0, 1), (68, .getfield 21, 3), (71, .aload_n 0, 1), (72, .getfield 63, 3), (75, .iconst 1, 1), (76, .isub, 1), (77, .iaload, 1), (78, .iconst 3, 1), (79, .iand, 1), (80, .istore 6, 2), (82, .iload_n 2, 1), (83, .iconst 1, 1)]
set_option maxRecDepth 20000 in
theorem dn_188_0_1_ok : dn_188_0_1.all (fun q => decide (decode (xm_b n_188) q.1 = .ok (q.2.1, q.2.2))) = true := xa_g_ok (by decide +kernel)
def dn_188_0_2 : List (Nat × Instr × Nat) := [(84, .if_icmp .ne 39, 3), (87, .iload 6, 2), (89, .ifCond .ne 34, 3), (92, .aload_n 1, 1), (93, .iload 5, 2), (95, .iconst 1, 1), (96, .iadd, 1), (97, .invokevirtual 73, 3), (100, .ifCond .eq 23, 3), (103, .aload_n 0, 1), (104, .iload_n 3, 1), (105, .putfield 50, 3), (108, .aload_n 0, 1), (109, .iconst 1, 1), (110, .aload_n 1, 1), (111, .iload 5, 2), (113, .iconst 1, 1), (114, .iadd, 1), (115, .invokevirtual 73, 3), (118, .invokevirtual 79, 3), (121, .iconst 1, 1), (122, .ireturn, 1), (123, .iload 6, 2), (125, .iconst 2, 1), (126, .if_icmp .eq 45, 3)]
set_option maxRecDepth 20000 in
theorem dn_188_0_2_ok : dn_188_0_2.all (fun q => decide (decode (xm_b n_188) q.1 = .ok (q.2.1, q.2.2))) = true := xa_g_ok (by decide +kernel)
def dn_188_0_3 : List (Nat × Instr × Nat) := [(129, .aload_n 1, 1), (130, .iload 5, 2), (132, .iconst 2, 1), (133, .iadd, 1), (134, .invokevirtual 73, 3), (137, .ifCond .eq 34, 3), (140, .aload_n 0, 1), (141, .getfield 24, 3), (144, .aload_n 0, 1), (145, .getfield 63, 3), (148, .iconst 1, 1), (149, .isub, 1), (150, .iload_n 3, 1), (151, .iastore, 1), (152, .aload_n 0, 1), (153, .iconst 2, 1), (154, .iload_n 2, 1), (155, .iconst 2, 1), (156, .ishl, 1), (157, .ior, 1), (158, .aload_n 1, 1), (159, .iload 5, 2), (161, .iconst 2, 1), (162, .iadd, 1), (163, .invokevirtual 73, 3)]
set_option maxRecDepth 20000 in
theorem dn_188_0_3_ok : dn_188_0_3.all (fun q => decide (decode (xm_b n_188) q.1 = .ok (q.2.1, q.2.2))) = true := xa_g_ok (by decide +kernel)
def dn_188_1_0 : List (Nat × Instr × Nat) := [(166, .invokevirtual 79, 3), (169, .iconst 1, 1), (170, .ireturn, 1), (171, .aload_n 0, 1), (172, .dup, 1), (173, .getfield 63, 3), (176, .iconst 1, 1), (177, .isub, 1), (178, .putfield 63, 3), (181, .goto (-136), 3), (184, .iload_n 2, 1), (185, .iconst 2, 1), (186, .if_icmp .ne 7, 3), (189, .aload_n 0, 1), (190, .invokevirtual 83, 3), (193, .iload_n 2, 1), (194, .iconst 3, 1), (195, .if_icmp .ne 14, 3), (198, .aload_n 0, 1), (199, .aload_n 1, 1), (200, .iload_n 3, 1), (201, .iconst 1, 1), (202, .iadd, 1), (203, .invokevirtual 73, 3), (206, .putfield 70, 3)]
set_option maxRecDepth 20000 in
theorem dn_188_1_0_ok : dn_188_1_0.all (fun q => decide (decode (xm_b n_188) q.1 = .ok (q.2.1, q.2.2))) = true := xa_g_ok (by decide +kernel)
def dn_188_1_1 : List (Nat × Instr × Nat) := [(209, .iload_n 2, 1), (210, .iconst 1, 1), (211, .if_icmp .eq 7, 3), (214, .iconst 1, 1), (215, .goto 4, 3), (218, .iconst 0, 1), (219, .ireturn, 1)]
set_option maxRecDepth 20000 in
theorem dn_188_1_1_ok : dn_188_1_1.all (fun q => decide (decode (xm_b n_188) q.1 = .ok (q.2.1, q.2.2))) = true := xa_g_ok (by decide +kernel)
def te_188_0 : Nat → eE := (e_T 27 (e_T 13 (e_T 5 (e_T 1 (e_T 0 (e_L 0 (0, ei_load 2 0 1, 0, 0)) (e_L 1 (0, ei_push (0, 1) 2, 0, 0))) (e_T 2 (e_L 2 (0, ei_if2 0 13 5, 0, 0)) (e_L 5 (0, ei_load 0 2 6, 0, 0)))) (e_T 9 (e_T 6 (e_L 6 (0, ei_getf eft elay 10 4 9, 0, 0)) (e_L 9 (0, ei_push (0, 1) 10, 0, 0))) (e_T 10 (e_L 10 (0, ei_if2 3 17 13, 0, 0)) (e_L 13 (0, ei_push (0, 0) 14, 0, 0))))) (e_T 21 (e_T 17 (e_T 14 (e_L 14 (0, ei_goto 28, 0, 0)) (e_L 17 (0, ei_load 0 2 18, 0, 0))) (e_T 18 (e_L 18 (0, ei_getf eft elay 10 17 21, 0, 0)) (e_L 21 (0, ei_load 0 2 22, 0, 0)))) (e_T 25 (e_T 22 (e_L 22 (0, ei_getf eft elay 10 4 25, 0, 0)) (e_L 25 (0, ei_push (0, 1) 26, 0, 0))) (e_T 26 (e_L 26 (0, ei_bin eF_sub 27, 0, 0)) (e_L 27 (0, ei_ald elay false 28, 0, 0)))))) (e_T 39 (e_T 32 (e_T 30 (e_T 28 (e_L 28 (0, ei_stor 4 0 30, 0, 0)) (e_L 30 (0, ei_load 2 0 31, 0, 0))) (e_T 31 (e_L 31 (0, ei_push (0, 3) 32, 0, 0)) (e_L 32 (0, ei_if2 1 45 35, 0, 0)))) (e_T 37 (e_T 35 (e_L 35 (0, ei_load 4 0 37, 0, 0)) (e_L 37 (0, ei_load 1 2 38, 0, 0))) (e_T 38 (e_L 38 (0, ei_load 3 0 39, 0, 0)) (e_L 39 (2, e_nof, 24, 2))))) (e_T 46 (e_T 43 (e_T 42 (e_L 42 (0, ei_bin eF_add 43, 0, 0)) (e_L 43 (0, ei_stor 4 0 45, 0, 0))) (e_T 45 (e_L 45 (0, ei_load 0 2 46, 0, 0)) (e_L 46 (0, ei_getf eft elay 10 15 49, 0, 0)))) (e_T 51 (e_T 49 (e_L 49 (0, ei_load 4 0 51, 0, 0)) (e_L 51 (0, ei_if2 5 184 54, 0, 0))) (e_T 54 (e_L 54 (0, ei_load 0 2 55, 0, 0)) (e_T 55 (e_L 55 (0, ei_getf eft elay 10 18 58, 0, 0)) (e_L 58 (0, ei_load 0 2 59, 0, 0))))))))
set_option maxRecDepth 20000 in
set_option maxHeartbeats 4000000 in
theorem te_188_0_ok : ∀ pc, e_EOq eft cls elay eI n_188 pc (te_188_0 pc) :=
  (e_Tok2
  (e_Tok2
  (e_Tok2
  (e_Tok2
  (e_Tok2
  (e_Lok (ld_iload_n_2 (x_dk dn_188_0_0_ok 0 rfl)))
  (e_Lok (ps_iconst_1 (x_dk dn_188_0_0_ok 1 rfl))))
  (e_Tok2
  (e_Lok (e_st (I := eI) (er_icmpeq (off := 11) (tg := 13) (x_dk dn_188_0_0_ok 2 rfl) (by decide)) nx_if2))
  (e_Lok (ld_aload_n_0 (x_dk dn_188_0_0_ok 3 rfl)))))
  (e_Tok2
  (e_Tok2
  (e_Lok (lk_10_38g ho_188 (x_dk dn_188_0_0_ok 4 rfl)))
  (e_Lok (ps_iconst_1 (x_dk dn_188_0_0_ok 5 rfl))))
  (e_Tok2
  (e_Lok (e_st (I := eI) (er_icmpge (off := 7) (tg := 17) (x_dk dn_188_0_0_ok 6 rfl) (by decide)) nx_if2))
  (e_Lok (ps_iconst_0 (x_dk dn_188_0_0_ok 7 rfl))))))
  (e_Tok2
  (e_Tok2
  (e_Tok2
  (e_Lok (e_st (I := eI) (er_goto (off := 14) (tg := 28) (x_dk dn_188_0_0_ok 8 rfl) (by decide)) nx_goto))
  (e_Lok (ld_aload_n_0 (x_dk dn_188_0_0_ok 9 rfl))))
  (e_Tok2
  (e_Lok (lk_10_15g ho_188 (x_dk dn_188_0_0_ok 10 rfl)))
  (e_Lok (ld_aload_n_0 (x_dk dn_188_0_0_ok 11 rfl)))))
  (e_Tok2
  (e_Tok2
  (e_Lok (lk_10_38g ho_188 (x_dk dn_188_0_0_ok 12 rfl)))
  (e_Lok (ps_iconst_1 (x_dk dn_188_0_0_ok 13 rfl))))
  (e_Tok2
  (e_Lok (sm_isub (x_dk dn_188_0_0_ok 14 rfl)))
  (e_Lok (sm_iaload (x_dk dn_188_0_0_ok 15 rfl)))))))
  (e_Tok2
  (e_Tok2
  (e_Tok2
  (e_Tok2
  (e_Lok (e_st (I := eI) (er_istore (i := 4) (x_dk dn_188_0_0_ok 16 rfl) (by decide +kernel)) nx_stor))
  (e_Lok (ld_iload_n_2 (x_dk dn_188_0_0_ok 17 rfl))))
  (e_Tok2
  (e_Lok (ps_iconst_3 (x_dk dn_188_0_0_ok 18 rfl)))
  (e_Lok (e_st (I := eI) (er_icmpne (off := 13) (tg := 45) (x_dk dn_188_0_0_ok 19 rfl) (by decide)) nx_if2))))
  (e_Tok2
  (e_Tok2
  (e_Lok (ld_iload_4 (x_dk dn_188_0_0_ok 20 rfl)))
  (e_Lok (ld_aload_n_1 (x_dk dn_188_0_0_ok 21 rfl))))
  (e_Tok2
  (e_Lok (ld_iload_n_3 (x_dk dn_188_0_0_ok 22 rfl)))
  (e_Lok (lk_10_73 ho_188 (x_dk dn_188_0_0_ok 23 rfl))))))
  (e_Tok2
  (e_Tok2
  (e_Tok2
  (e_Lok (sm_iadd (x_dk dn_188_0_0_ok 24 rfl)))
  (e_Lok (e_st (I := eI) (er_istore (i := 4) (x_dk dn_188_0_1_ok 0 rfl) (by decide +kernel)) nx_stor)))
  (e_Tok2
  (e_Lok (ld_aload_n_0 (x_dk dn_188_0_1_ok 1 rfl)))
  (e_Lok (lk_10_63g ho_188 (x_dk dn_188_0_1_ok 2 rfl)))))
  (e_Tok2
  (e_Tok2
  (e_Lok (ld_iload_4 (x_dk dn_188_0_1_ok 3 rfl)))
  (e_Lok (e_st (I := eI) (er_icmple (off := 133) (tg := 184) (x_dk dn_188_0_1_ok 4 rfl) (by decide)) nx_if2)))
  (e_Tok2
  (e_Lok (ld_aload_n_0 (x_dk dn_188_0_1_ok 5 rfl)))
  (e_Tok2
  (e_Lok (lk_10_18g ho_188 (x_dk dn_188_0_1_ok 6 rfl)))
  (e_Lok (ld_aload_n_0 (x_dk dn_188_0_1_ok 7 rfl)))))))))
def te_188_33 : Nat → eE := (e_T 82 (e_T 71 (e_T 64 (e_T 62 (e_T 59 (e_L 59 (0, ei_getf eft elay 10 15 62, 0, 0)) (e_L 62 (0, ei_push (0, 1) 63, 0, 0))) (e_T 63 (e_L 63 (0, ei_bin eF_sub 64, 0, 0)) (e_L 64 (0, ei_ald elay false 65, 0, 0)))) (e_T 67 (e_T 65 (e_L 65 (0, ei_stor 5 0 67, 0, 0)) (e_L 67 (0, ei_load 0 2 68, 0, 0))) (e_T 68 (e_L 68 (0, ei_getf eft elay 10 19 71, 0, 0)) (e_L 71 (0, ei_load 0 2 72, 0, 0))))) (e_T 77 (e_T 75 (e_T 72 (e_L 72 (0, ei_getf eft elay 10 15 75, 0, 0)) (e_L 75 (0, ei_push (0, 1) 76, 0, 0))) (e_T 76 (e_L 76 (0, ei_bin eF_sub 77, 0, 0)) (e_L 77 (0, ei_ald elay false 78, 0, 0)))) (e_T 79 (e_T 78 (e_L 78 (0, ei_push (0, 3) 79, 0, 0)) (e_L 79 (0, ei_bin (eB (fun x y => x &&& y)) 80, 0, 0))) (e_T 80 (e_L 80 (0, ei_stor 6 0 82, 0, 0)) (e_L 82 (0, ei_load 2 0 83, 0, 0)))))) (e_T 96 (e_T 89 (e_T 84 (e_T 83 (e_L 83 (0, ei_push (0, 1) 84, 0, 0)) (e_L 84 (0, ei_if2 1 123 87, 0, 0))) (e_T 87 (e_L 87 (0, ei_load 6 0 89, 0, 0)) (e_L 89 (0, ei_if1 1 123 92, 0, 0)))) (e_T 93 (e_T 92 (e_L 92 (0, ei_load 1 2 93, 0, 0)) (e_L 93 (0, ei_load 5 0 95, 0, 0))) (e_T 95 (e_L 95 (0, ei_push (0, 1) 96, 0, 0)) (e_L 96 (0, ei_bin eF_add 97, 0, 0))))) (e_T 104 (e_T 100 (e_T 97 (e_L 97 (2, e_nof, 24, 2)) (e_L 100 (0, ei_if1 0 123 103, 0, 0))) (e_T 103 (e_L 103 (0, ei_load 0 2 104, 0, 0)) (e_L 104 (0, ei_load 3 0 105, 0, 0)))) (e_T 108 (e_T 105 (e_L 105 (0, ei_putf eft elay 10 6 0 108, 0, 0)) (e_L 108 (0, ei_load 0 2 109, 0, 0))) (e_T 109 (e_L 109 (0, ei_push (0, 1) 110, 0, 0)) (e_T 110 (e_L 110 (0, ei_load 1 2 111, 0, 0)) (e_L 111 (0, ei_load 5 0 113, 0, 0))))))))
set_option maxRecDepth 20000 in
set_option maxHeartbeats 4000000 in
theorem te_188_33_ok : ∀ pc, e_EOq eft cls elay eI n_188 pc (te_188_33 pc) :=
  (e_Tok2
  (e_Tok2
  (e_Tok2
  (e_Tok2
  (e_Tok2
  (e_Lok (lk_10_63g ho_188 (x_dk dn_188_0_1_ok 8 rfl)))
  (e_Lok (ps_iconst_1 (x_dk dn_188_0_1_ok 9 rfl))))
  (e_Tok2
  (e_Lok (sm_isub (x_dk dn_188_0_1_ok 10 rfl)))
  (e_Lok (sm_iaload (x_dk dn_188_0_1_ok 11 rfl)))))
  (e_Tok2
  (e_Tok2
  (e_Lok (e_st (I := eI) (er_istore (i := 5) (x_dk dn_188_0_1_ok 12 rfl) (by decide +kernel)) nx_stor))
  (e_Lok (ld_aload_n_0 (x_dk dn_188_0_1_ok 13 rfl))))
  (e_Tok2
  (e_Lok (lk_10_21g ho_188 (x_dk dn_188_0_1_ok 14 rfl)))
  (e_Lok (ld_aload_n_0 (x_dk dn_188_0_1_ok 15 rfl))))))
  (e_Tok2
  (e_Tok2
  (e_Tok2
  (e_Lok (lk_10_63g ho_188 (x_dk dn_188_0_1_ok 16 rfl)))
  (e_Lok (ps_iconst_1 (x_dk dn_188_0_1_ok 17 rfl))))
  (e_Tok2
  (e_Lok (sm_isub (x_dk dn_188_0_1_ok 18 rfl)))
  (e_Lok (sm_iaload (x_dk dn_188_0_1_ok 19 rfl)))))
  (e_Tok2
  (e_Tok2
  (e_Lok (ps_iconst_3 (x_dk dn_188_0_1_ok 20 rfl)))
  (e_Lok (e_st (I := eI) (er_iand (x_dk dn_188_0_1_ok 21 rfl)) nx_bin)))
  (e_Tok2
  (e_Lok (e_st (I := eI) (er_istore (i := 6) (x_dk dn_188_0_1_ok 22 rfl) (by decide +kernel)) nx_stor))
  (e_Lok (ld_iload_n_2 (x_dk dn_188_0_1_ok 23 rfl)))))))
  (e_Tok2
  (e_Tok2
  (e_Tok2
  (e_Tok2
  (e_Lok (ps_iconst_1 (x_dk dn_188_0_1_ok 24 rfl)))
  (e_Lok (e_st (I := eI) (er_icmpne (off := 39) (tg := 123) (x_dk dn_188_0_2_ok 0 rfl) (by decide)) nx_if2)))
  (e_Tok2
  (e_Lok (ld_iload_6 (x_dk dn_188_0_2_ok 1 rfl)))
  (e_Lok (e_st (I := eI) (er_ifne (off := 34) (tg := 123) (x_dk dn_188_0_2_ok 2 rfl) (by decide)) nx_if1))))
  (e_Tok2
  (e_Tok2
  (e_Lok (ld_aload_n_1 (x_dk dn_188_0_2_ok 3 rfl)))
  (e_Lok (ld_iload_5 (x_dk dn_188_0_2_ok 4 rfl))))
  (e_Tok2
  (e_Lok (ps_iconst_1 (x_dk dn_188_0_2_ok 5 rfl)))
  (e_Lok (sm_iadd (x_dk dn_188_0_2_ok 6 rfl))))))
  (e_Tok2
  (e_Tok2
  (e_Tok2
  (e_Lok (lk_10_73 ho_188 (x_dk dn_188_0_2_ok 7 rfl)))
  (e_Lok (e_st (I := eI) (er_ifeq (off := 23) (tg := 123) (x_dk dn_188_0_2_ok 8 rfl) (by decide)) nx_if1)))
  (e_Tok2
  (e_Lok (ld_aload_n_0 (x_dk dn_188_0_2_ok 9 rfl)))
  (e_Lok (ld_iload_n_3 (x_dk dn_188_0_2_ok 10 rfl)))))
  (e_Tok2
  (e_Tok2
  (e_Lok (lk_10_50p ho_188 (x_dk dn_188_0_2_ok 11 rfl)))
  (e_Lok (ld_aload_n_0 (x_dk dn_188_0_2_ok 12 rfl))))
  (e_Tok2
  (e_Lok (ps_iconst_1 (x_dk dn_188_0_2_ok 13 rfl)))
  (e_Tok2
  (e_Lok (ld_aload_n_1 (x_dk dn_188_0_2_ok 14 rfl)))
  (e_Lok (ld_iload_5 (x_dk dn_188_0_2_ok 15 rfl)))))))))
def te_188_66 : Nat → eE := (e_T 140 (e_T 125 (e_T 118 (e_T 114 (e_T 113 (e_L 113 (0, ei_push (0, 1) 114, 0, 0)) (e_L 114 (0, ei_bin eF_add 115, 0, 0))) (e_T 115 (e_L 115 (2, e_nof, 24, 2)) (e_L 118 (2, e_nof, 189, 3)))) (e_T 122 (e_T 121 (e_L 121 (0, ei_push (0, 1) 122, 0, 0)) (e_L 122 (1, e_nof, 4, 0))) (e_T 123 (e_L 123 (0, ei_load 6 0 125, 0, 0)) (e_L 125 (0, ei_push (0, 2) 126, 0, 0))))) (e_T 132 (e_T 129 (e_T 126 (e_L 126 (0, ei_if2 0 171 129, 0, 0)) (e_L 129 (0, ei_load 1 2 130, 0, 0))) (e_T 130 (e_L 130 (0, ei_load 5 0 132, 0, 0)) (e_L 132 (0, ei_push (0, 2) 133, 0, 0)))) (e_T 134 (e_T 133 (e_L 133 (0, ei_bin eF_add 134, 0, 0)) (e_L 134 (2, e_nof, 24, 2))) (e_T 137 (e_L 137 (0, ei_if1 0 171 140, 0, 0)) (e_L 140 (0, ei_load 0 2 141, 0, 0)))))) (e_T 152 (e_T 148 (e_T 144 (e_T 141 (e_L 141 (0, ei_getf eft elay 10 20 144, 0, 0)) (e_L 144 (0, ei_load 0 2 145, 0, 0))) (e_T 145 (e_L 145 (0, ei_getf eft elay 10 15 148, 0, 0)) (e_L 148 (0, ei_push (0, 1) 149, 0, 0)))) (e_T 150 (e_T 149 (e_L 149 (0, ei_bin eF_sub 150, 0, 0)) (e_L 150 (0, ei_load 3 0 151, 0, 0))) (e_T 151 (e_L 151 (0, ei_ast elay false 152, 0, 0)) (e_L 152 (0, ei_load 0 2 153, 0, 0))))) (e_T 156 (e_T 154 (e_T 153 (e_L 153 (0, ei_push (0, 2) 154, 0, 0)) (e_L 154 (0, ei_load 2 0 155, 0, 0))) (e_T 155 (e_L 155 (0, ei_push (0, 2) 156, 0, 0)) (e_L 156 (0, ei_bin (eB (fun x y => x <<< (y &&& 31))) 157, 0, 0)))) (e_T 158 (e_T 157 (e_L 157 (0, ei_bin (eB (fun x y => x ||| y)) 158, 0, 0)) (e_L 158 (0, ei_load 1 2 159, 0, 0))) (e_T 159 (e_L 159 (0, ei_load 5 0 161, 0, 0)) (e_T 161 (e_L 161 (0, ei_push (0, 2) 162, 0, 0)) (e_L 162 (0, ei_bin eF_add 163, 0, 0))))))))
set_option maxRecDepth 20000 in
set_option maxHeartbeats 4000000 in
theorem te_188_66_ok : ∀ pc, e_EOq eft cls elay eI n_188 pc (te_188_66 pc) :=
  (e_Tok2
  (e_Tok2
  (e_Tok2
  (e_Tok2
  (e_Tok2
  (e_Lok (ps_iconst_1 (x_dk dn_188_0_2_ok 16 rfl)))
  (e_Lok (sm_iadd (x_dk dn_188_0_2_ok 17 rfl))))
  (e_Tok2
  (e_Lok (lk_10_73 ho_188 (x_dk dn_188_0_2_ok 18 rfl)))
  (e_Lok (lk_10_79 ho_188 (x_dk dn_188_0_2_ok 19 rfl)))))
  (e_Tok2
  (e_Tok2
  (e_Lok (ps_iconst_1 (x_dk dn_188_0_2_ok 20 rfl)))
  (e_Lok (e_rt (I := eI) (k := 4) ⟨(x_dk dn_188_0_2_ok 21 rfl), rfl⟩)))
  (e_Tok2
  (e_Lok (ld_iload_6 (x_dk dn_188_0_2_ok 22 rfl)))
  (e_Lok (ps_iconst_2 (x_dk dn_188_0_2_ok 23 rfl))))))
  (e_Tok2
  (e_Tok2
  (e_Tok2
  (e_Lok (e_st (I := eI) (er_icmpeq (off := 45) (tg := 171) (x_dk dn_188_0_2_ok 24 rfl) (by decide)) nx_if2))
  (e_Lok (ld_aload_n_1 (x_dk dn_188_0_3_ok 0 rfl))))
  (e_Tok2
  (e_Lok (ld_iload_5 (x_dk dn_188_0_3_ok 1 rfl)))
  (e_Lok (ps_iconst_2 (x_dk dn_188_0_3_ok 2 rfl)))))
  (e_Tok2
  (e_Tok2
  (e_Lok (sm_iadd (x_dk dn_188_0_3_ok 3 rfl)))
  (e_Lok (lk_10_73 ho_188 (x_dk dn_188_0_3_ok 4 rfl))))
  (e_Tok2
  (e_Lok (e_st (I := eI) (er_ifeq (off := 34) (tg := 171) (x_dk dn_188_0_3_ok 5 rfl) (by decide)) nx_if1))
  (e_Lok (ld_aload_n_0 (x_dk dn_188_0_3_ok 6 rfl)))))))
  (e_Tok2
  (e_Tok2
  (e_Tok2
  (e_Tok2
  (e_Lok (lk_10_24g ho_188 (x_dk dn_188_0_3_ok 7 rfl)))
  (e_Lok (ld_aload_n_0 (x_dk dn_188_0_3_ok 8 rfl))))
  (e_Tok2
  (e_Lok (lk_10_63g ho_188 (x_dk dn_188_0_3_ok 9 rfl)))
  (e_Lok (ps_iconst_1 (x_dk dn_188_0_3_ok 10 rfl)))))
  (e_Tok2
  (e_Tok2
  (e_Lok (sm_isub (x_dk dn_188_0_3_ok 11 rfl)))
  (e_Lok (ld_iload_n_3 (x_dk dn_188_0_3_ok 12 rfl))))
  (e_Tok2
  (e_Lok (sm_iastore (x_dk dn_188_0_3_ok 13 rfl)))
  (e_Lok (ld_aload_n_0 (x_dk dn_188_0_3_ok 14 rfl))))))
  (e_Tok2
  (e_Tok2
  (e_Tok2
  (e_Lok (ps_iconst_2 (x_dk dn_188_0_3_ok 15 rfl)))
  (e_Lok (ld_iload_n_2 (x_dk dn_188_0_3_ok 16 rfl))))
  (e_Tok2
  (e_Lok (ps_iconst_2 (x_dk dn_188_0_3_ok 17 rfl)))
  (e_Lok (e_st (I := eI) (er_ishl (x_dk dn_188_0_3_ok 18 rfl)) nx_bin))))
  (e_Tok2
  (e_Tok2
  (e_Lok (e_st (I := eI) (er_ior (x_dk dn_188_0_3_ok 19 rfl)) nx_bin))
  (e_Lok (ld_aload_n_1 (x_dk dn_188_0_3_ok 20 rfl))))
  (e_Tok2
  (e_Lok (ld_iload_5 (x_dk dn_188_0_3_ok 21 rfl)))
  (e_Tok2
  (e_Lok (ps_iconst_2 (x_dk dn_188_0_3_ok 22 rfl)))
  (e_Lok (sm_iadd (x_dk dn_188_0_3_ok 23 rfl)))))))))
def te_188_99 : Nat → eE := (e_T 190 (e_T 176 (e_T 170 (e_T 166 (e_T 163 (e_L 163 (2, e_nof, 24, 2)) (e_L 166 (2, e_nof, 189, 3))) (e_T 169 (e_L 169 (0, ei_push (0, 1) 170, 0, 0)) (e_L 170 (1, e_nof, 4, 0)))) (e_T 172 (e_T 171 (e_L 171 (0, ei_load 0 2 172, 0, 0)) (e_L 172 (0, ei_stk ef_dup 173, 0, 0))) (e_T 173 (e_L 173 (0, ei_getf eft elay 10 15 176, 0, 0)) (e_L 176 (0, ei_push (0, 1) 177, 0, 0))))) (e_T 184 (e_T 178 (e_T 177 (e_L 177 (0, ei_bin eF_sub 178, 0, 0)) (e_L 178 (0, ei_putf eft elay 10 15 0 181, 0, 0))) (e_T 181 (e_L 181 (0, ei_goto 45, 0, 0)) (e_L 184 (0, ei_load 2 0 185, 0, 0)))) (e_T 186 (e_T 185 (e_L 185 (0, ei_push (0, 2) 186, 0, 0)) (e_L 186 (0, ei_if2 1 193 189, 0, 0))) (e_T 189 (e_L 189 (0, ei_load 0 2 190, 0, 0)) (e_L 190 (2, e_nof, 183, 1)))))) (e_T 202 (e_T 198 (e_T 194 (e_T 193 (e_L 193 (0, ei_load 2 0 194, 0, 0)) (e_L 194 (0, ei_push (0, 3) 195, 0, 0))) (e_T 195 (e_L 195 (0, ei_if2 1 209 198, 0, 0)) (e_L 198 (0, ei_load 0 2 199, 0, 0)))) (e_T 200 (e_T 199 (e_L 199 (0, ei_load 1 2 200, 0, 0)) (e_L 200 (0, ei_load 3 0 201, 0, 0))) (e_T 201 (e_L 201 (0, ei_push (0, 1) 202, 0, 0)) (e_L 202 (0, ei_bin eF_add 203, 0, 0))))) (e_T 210 (e_T 206 (e_T 203 (e_L 203 (2, e_nof, 24, 2)) (e_L 206 (0, ei_putf eft elay 10 3 0 209, 0, 0))) (e_T 209 (e_L 209 (0, ei_load 2 0 210, 0, 0)) (e_L 210 (0, ei_push (0, 1) 211, 0, 0)))) (e_T 214 (e_T 211 (e_L 211 (0, ei_if2 0 218 214, 0, 0)) (e_L 214 (0, ei_push (0, 1) 215, 0, 0))) (e_T 215 (e_L 215 (0, ei_goto 219, 0, 0)) (e_T 218 (e_L 218 (0, ei_push (0, 0) 219, 0, 0)) (e_L 219 (1, e_nof, 4, 0))))))))
set_option maxRecDepth 20000 in
set_option maxHeartbeats 4000000 in
theorem te_188_99_ok : ∀ pc, e_EOq eft cls elay eI n_188 pc (te_188_99 pc) :=
  (e_Tok2
  (e_Tok2
  (e_Tok2
  (e_Tok2
  (e_Tok2
  (e_Lok (lk_10_73 ho_188 (x_dk dn_188_0_3_ok 24 rfl)))
  (e_Lok (lk_10_79 ho_188 (x_dk dn_188_1_0_ok 0 rfl))))
  (e_Tok2
  (e_Lok (ps_iconst_1 (x_dk dn_188_1_0_ok 1 rfl)))
  (e_Lok (e_rt (I := eI) (k := 4) ⟨(x_dk dn_188_1_0_ok 2 rfl), rfl⟩))))
  (e_Tok2
  (e_Tok2
  (e_Lok (ld_aload_n_0 (x_dk dn_188_1_0_ok 3 rfl)))
  (e_Lok (e_st (I := eI) (er_dup (x_dk dn_188_1_0_ok 4 rfl)) (nx_stk bf_dup))))
  (e_Tok2
  (e_Lok (lk_10_63g ho_188 (x_dk dn_188_1_0_ok 5 rfl)))
  (e_Lok (ps_iconst_1 (x_dk dn_188_1_0_ok 6 rfl))))))
  (e_Tok2
  (e_Tok2
  (e_Tok2
  (e_Lok (sm_isub (x_dk dn_188_1_0_ok 7 rfl)))
  (e_Lok (lk_10_63p ho_188 (x_dk dn_188_1_0_ok 8 rfl))))
  (e_Tok2
  (e_Lok (e_st (I := eI) (er_goto (off := (-136)) (tg := 45) (x_dk dn_188_1_0_ok 9 rfl) (by decide)) nx_goto))
  (e_Lok (ld_iload_n_2 (x_dk dn_188_1_0_ok 10 rfl)))))
  (e_Tok2
  (e_Tok2
  (e_Lok (ps_iconst_2 (x_dk dn_188_1_0_ok 11 rfl)))
  (e_Lok (e_st (I := eI) (er_icmpne (off := 7) (tg := 193) (x_dk dn_188_1_0_ok 12 rfl) (by decide)) nx_if2)))
  (e_Tok2
  (e_Lok (ld_aload_n_0 (x_dk dn_188_1_0_ok 13 rfl)))
  (e_Lok (lk_10_83 ho_188 (x_dk dn_188_1_0_ok 14 rfl)))))))
  (e_Tok2
  (e_Tok2
  (e_Tok2
  (e_Tok2
  (e_Lok (ld_iload_n_2 (x_dk dn_188_1_0_ok 15 rfl)))
  (e_Lok (ps_iconst_3 (x_dk dn_188_1_0_ok 16 rfl))))
  (e_Tok2
  (e_Lok (e_st (I := eI) (er_icmpne (off := 14) (tg := 209) (x_dk dn_188_1_0_ok 17 rfl) (by decide)) nx_if2))
  (e_Lok (ld_aload_n_0 (x_dk dn_188_1_0_ok 18 rfl)))))
  (e_Tok2
  (e_Tok2
  (e_Lok (ld_aload_n_1 (x_dk dn_188_1_0_ok 19 rfl)))
  (e_Lok (ld_iload_n_3 (x_dk dn_188_1_0_ok 20 rfl))))
  (e_Tok2
  (e_Lok (ps_iconst_1 (x_dk dn_188_1_0_ok 21 rfl)))
  (e_Lok (sm_iadd (x_dk dn_188_1_0_ok 22 rfl))))))
  (e_Tok2
  (e_Tok2
  (e_Tok2
  (e_Lok (lk_10_73 ho_188 (x_dk dn_188_1_0_ok 23 rfl)))
  (e_Lok (lk_10_70p ho_188 (x_dk dn_188_1_0_ok 24 rfl))))
  (e_Tok2
  (e_Lok (ld_iload_n_2 (x_dk dn_188_1_1_ok 0 rfl)))
  (e_Lok (ps_iconst_1 (x_dk dn_188_1_1_ok 1 rfl)))))
  (e_Tok2
  (e_Tok2
  (e_Lok (e_st (I := eI) (er_icmpeq (off := 7) (tg := 218) (x_dk dn_188_1_1_ok 2 rfl) (by decide)) nx_if2))
  (e_Lok (ps_iconst_1 (x_dk dn_188_1_1_ok 3 rfl))))
  (e_Tok2
  (e_Lok (e_st (I := eI) (er_goto (off := 4) (tg := 219) (x_dk dn_188_1_1_ok 4 rfl) (by decide)) nx_goto))
  (e_Tok2
  (e_Lok (ps_iconst_0 (x_dk dn_188_1_1_ok 5 rfl)))
  (e_Lok (e_rt (I := eI) (k := 4) ⟨(x_dk dn_188_1_1_ok 6 rfl), rfl⟩))))))))
def te_188 : Nat → eE := (e_T 111 (e_T 58 te_188_0 te_188_33) (e_T 162 te_188_66 te_188_99))
theorem te_188_ok : ∀ pc, e_EOq eft cls elay eI n_188 pc (te_188 pc) := (e_Tok2 ((e_Tok2 (te_188_0_ok) (te_188_33_ok))) ((e_Tok2 (te_188_66_ok) (te_188_99_ok))))
theorem ho_189 : (xm_y n_189).cls = "RobotCellHouse$Task" := rfl
def dn_189_0_0 : List (Nat × Instr × Nat) := [(0, .aload_n 0, 1), (1, .getfield 21, 3), (4, .aload_n 0, 1), (5, .getfield 63, 3), (8, .iconst 1, 1), (9, .isub, 1), (10, .iload_n 1, 1), (11, .iastore, 1), (12, .aload_n 0, 1), (13, .getfield 38, 3), (16, .iconst 1, 1), (17, .if_icmp .le 34, 3), (20, .aload_n 0, 1), (21, .getfield 15, 3), (24, .aload_n 0, 1), (25, .getfield 38, 3), (28, .iconst 1, 1), (29, .isub, 1), (30, .iaload, 1), (31, .aload_n 0, 1), (32, .getfield 63, 3), (35, .if_icmp .lt 16, 3), (38, .aload_n 0, 1), (39, .dup, 1), (40, .getfield 38, 3)]
set_option maxRecDepth 20000 in
theorem dn_189_0_0_ok : dn_189_0_0.all (fun q => decide (decode (xm_b n_189) q.1 = .ok (q.2.1, q.2.2))) = true := xa_g_ok (by decide +kernel)
def dn_189_0_1 : List (Nat × Instr × Nat) := [(43, .iconst 1, 1), (44, .isub, 1), (45, .putfield 38, 3), (48, .goto (-36), 3), (51, .aload_n 0, 1), (52, .iload_n 2, 1), (53, .putfield 70, 3), (56, .return_, 1)]
set_option maxRecDepth 20000 in
theorem dn_189_0_1_ok : dn_189_0_1.all (fun q => decide (decode (xm_b n_189) q.1 = .ok (q.2.1, q.2.2))) = true := xa_g_ok (by decide +kernel)
def te_189_0 : Nat → eE := (e_T 25 (e_T 11 (e_T 5 (e_T 1 (e_T 0 (e_L 0 (0, ei_load 0 2 1, 0, 0)) (e_L 1 (0, ei_getf eft elay 10 19 4, 0, 0))) (e_T 4 (e_L 4 (0, ei_load 0 2 5, 0, 0)) (e_L 5 (0, ei_getf eft elay 10 15 8, 0, 0)))) (e_T 9 (e_T 8 (e_L 8 (0, ei_push (0, 1) 9, 0, 0)) (e_L 9 (0, ei_bin eF_sub 10, 0, 0))) (e_T 10 (e_L 10 (0, ei_load 1 0 11, 0, 0)) (e_L 11 (0, ei_ast elay false 12, 0, 0))))) (e_T 17 (e_T 13 (e_T 12 (e_L 12 (0, ei_load 0 2 13, 0, 0)) (e_L 13 (0, ei_getf eft elay 10 4 16, 0, 0))) (e_T 16 (e_L 16 (0, ei_push (0, 1) 17, 0, 0)) (e_L 17 (0, ei_if2 5 51 20, 0, 0)))) (e_T 21 (e_T 20 (e_L 20 (0, ei_load 0 2 21, 0, 0)) (e_L 21 (0, ei_getf eft elay 10 17 24, 0, 0))) (e_T 24 (e_L 24 (0, ei_load 0 2 25, 0, 0)) (e_L 25 (0, ei_getf eft elay 10 4 28, 0, 0)))))) (e_T 39 (e_T 31 (e_T 29 (e_T 28 (e_L 28 (0, ei_push (0, 1) 29, 0, 0)) (e_L 29 (0, ei_bin eF_sub 30, 0, 0))) (e_T 30 (e_L 30 (0, ei_ald elay false 31, 0, 0)) (e_L 31 (0, ei_load 0 2 32, 0, 0)))) (e_T 35 (e_T 32 (e_L 32 (0, ei_getf eft elay 10 15 35, 0, 0)) (e_L 35 (0, ei_if2 2 51 38, 0, 0))) (e_T 38 (e_L 38 (0, ei_load 0 2 39, 0, 0)) (e_L 39 (0, ei_stk ef_dup 40, 0, 0))))) (e_T 45 (e_T 43 (e_T 40 (e_L 40 (0, ei_getf eft elay 10 4 43, 0, 0)) (e_L 43 (0, ei_push (0, 1) 44, 0, 0))) (e_T 44 (e_L 44 (0, ei_bin eF_sub 45, 0, 0)) (e_L 45 (0, ei_putf eft elay 10 4 0 48, 0, 0)))) (e_T 51 (e_T 48 (e_L 48 (0, ei_goto 12, 0, 0)) (e_L 51 (0, ei_load 0 2 52, 0, 0))) (e_T 52 (e_L 52 (0, ei_load 2 0 53, 0, 0)) (e_T 53 (e_L 53 (0, ei_putf eft elay 10 3 0 56, 0, 0)) (e_L 56 (1, e_nof, 0, 0))))))))
set_option maxRecDepth 20000 in
set_option maxHeartbeats 4000000 in
theorem te_189_0_ok : ∀ pc, e_EOq eft cls elay eI n_189 pc (te_189_0 pc) :=
  (e_Tok2
  (e_Tok2
  (e_Tok2
  (e_Tok2
  (e_Tok2
  (e_Lok (ld_aload_n_0 (x_dk dn_189_0_0_ok 0 rfl)))
  (e_Lok (lk_10_21g ho_189 (x_dk dn_189_0_0_ok 1 rfl))))
  (e_Tok2
  (e_Lok (ld_aload_n_0 (x_dk dn_189_0_0_ok 2 rfl)))
  (e_Lok (lk_10_63g ho_189 (x_dk dn_189_0_0_ok 3 rfl)))))
  (e_Tok2
  (e_Tok2
  (e_Lok (ps_iconst_1 (x_dk dn_189_0_0_ok 4 rfl)))
  (e_Lok (sm_isub (x_dk dn_189_0_0_ok 5 rfl))))
  (e_Tok2
  (e_Lok (ld_iload_n_1 (x_dk dn_189_0_0_ok 6 rfl)))
  (e_Lok (sm_iastore (x_dk dn_189_0_0_ok 7 rfl))))))
  (e_Tok2
  (e_Tok2
  (e_Tok2
  (e_Lok (ld_aload_n_0 (x_dk dn_189_0_0_ok 8 rfl)))
  (e_Lok (lk_10_38g ho_189 (x_dk dn_189_0_0_ok 9 rfl))))
  (e_Tok2
  (e_Lok (ps_iconst_1 (x_dk dn_189_0_0_ok 10 rfl)))
  (e_Lok (e_st (I := eI) (er_icmple (off := 34) (tg := 51) (x_dk dn_189_0_0_ok 11 rfl) (by decide)) nx_if2))))
  (e_Tok2
  (e_Tok2
  (e_Lok (ld_aload_n_0 (x_dk dn_189_0_0_ok 12 rfl)))
  (e_Lok (lk_10_15g ho_189 (x_dk dn_189_0_0_ok 13 rfl))))
  (e_Tok2
  (e_Lok (ld_aload_n_0 (x_dk dn_189_0_0_ok 14 rfl)))
  (e_Lok (lk_10_38g ho_189 (x_dk dn_189_0_0_ok 15 rfl)))))))
  (e_Tok2
  (e_Tok2
  (e_Tok2
  (e_Tok2
  (e_Lok (ps_iconst_1 (x_dk dn_189_0_0_ok 16 rfl)))
  (e_Lok (sm_isub (x_dk dn_189_0_0_ok 17 rfl))))
  (e_Tok2
  (e_Lok (sm_iaload (x_dk dn_189_0_0_ok 18 rfl)))
  (e_Lok (ld_aload_n_0 (x_dk dn_189_0_0_ok 19 rfl)))))
  (e_Tok2
  (e_Tok2
  (e_Lok (lk_10_63g ho_189 (x_dk dn_189_0_0_ok 20 rfl)))
  (e_Lok (e_st (I := eI) (er_icmplt (off := 16) (tg := 51) (x_dk dn_189_0_0_ok 21 rfl) (by decide)) nx_if2)))
  (e_Tok2
  (e_Lok (ld_aload_n_0 (x_dk dn_189_0_0_ok 22 rfl)))
  (e_Lok (e_st (I := eI) (er_dup (x_dk dn_189_0_0_ok 23 rfl)) (nx_stk bf_dup))))))
  (e_Tok2
  (e_Tok2
  (e_Tok2
  (e_Lok (lk_10_38g ho_189 (x_dk dn_189_0_0_ok 24 rfl)))
  (e_Lok (ps_iconst_1 (x_dk dn_189_0_1_ok 0 rfl))))
  (e_Tok2
  (e_Lok (sm_isub (x_dk dn_189_0_1_ok 1 rfl)))
  (e_Lok (lk_10_38p ho_189 (x_dk dn_189_0_1_ok 2 rfl)))))
  (e_Tok2
  (e_Tok2
  (e_Lok (e_st (I := eI) (er_goto (off := (-36)) (tg := 12) (x_dk dn_189_0_1_ok 3 rfl) (by decide)) nx_goto))
  (e_Lok (ld_aload_n_0 (x_dk dn_189_0_1_ok 4 rfl))))
  (e_Tok2
  (e_Lok (ld_iload_n_2 (x_dk dn_189_0_1_ok 5 rfl)))
  (e_Tok2
  (e_Lok (lk_10_70p ho_189 (x_dk dn_189_0_1_ok 6 rfl)))
  (e_Lok (e_rt (I := eI) (k := 0) ⟨(x_dk dn_189_0_1_ok 7 rfl), rfl⟩))))))))
def te_189 : Nat → eE := te_189_0
theorem te_189_ok : ∀ pc, e_EOq eft cls elay eI n_189 pc (te_189 pc) := te_189_0_ok
end
end
-- part 41an
section
noncomputable section
theorem ho_190 : (xm_y n_190).cls = "RobotCellHouse" := rfl
def dn_190_0_0 : List (Nat × Instr × Nat) := [(0, .aload_n 0, 1), (1, .getfield 10, 3), (4, .getfield 74, 3), (7, .sipush 3980, 3), (10, .if_icmp .le 6, 3), (13, .bipush (-3), 2), (15, .ireturn, 1), (16, .aload_n 0, 1), (17, .getfield 10, 3), (20, .iload_n 1, 1), (21, .invokevirtual 78, 3), (24, .aload_n 0, 1), (25, .getfield 10, 3), (28, .iload_n 2, 1), (29, .invokevirtual 78, 3), (32, .aload_n 0, 1), (33, .getfield 10, 3), (36, .iload_n 3, 1), (37, .invokevirtual 78, 3), (40, .aload_n 0, 1), (41, .getfield 10, 3), (44, .iload 4, 2), (46, .invokevirtual 78, 3), (49, .aload_n 0, 1), (50, .getfield 10, 3)]
set_option maxRecDepth 20000 in
theorem dn_190_0_0_ok : dn_190_0_0.all (fun q => decide (decode (xm_b n_190) q.1 = .ok (q.2.1, q.2.2))) = true := xa_g_ok (by decide +kernel)
def dn_190_0_1 : List (Nat × Instr × Nat) := [(53, .iload 5, 2), (55, .invokevirtual 78, 3), (58, .aload_n 0, 1), (59, .getfield 10, 3), (62, .getfield 74, 3), (65, .ireturn, 1)]
set_option maxRecDepth 20000 in
theorem dn_190_0_1_ok : dn_190_0_1.all (fun q => decide (decode (xm_b n_190) q.1 = .ok (q.2.1, q.2.2))) = true := xa_g_ok (by decide +kernel)
def te_190_0 : Nat → eE := (e_T 29 (e_T 15 (e_T 4 (e_T 0 (e_L 0 (0, ei_load 0 2 1, 0, 0)) (e_T 1 (e_L 1 (0, ei_getf eft elay 11 0 4, 0, 0)) (e_L 4 (0, ei_getf eft elay 8 0 7, 0, 0)))) (e_T 10 (e_T 7 (e_L 7 (0, ei_push (0, 3980) 10, 0, 0)) (e_L 10 (0, ei_if2 5 16 13, 0, 0))) (e_T 13 (e_L 13 (0, ei_push (0, (-3)) 15, 0, 0)) (e_L 15 (1, e_nof, 1, 0))))) (e_T 21 (e_T 17 (e_T 16 (e_L 16 (0, ei_load 0 2 17, 0, 0)) (e_L 17 (0, ei_getf eft elay 11 0 20, 0, 0))) (e_T 20 (e_L 20 (0, ei_load 1 0 21, 0, 0)) (e_L 21 (2, e_nof, 118, 2)))) (e_T 25 (e_T 24 (e_L 24 (0, ei_load 0 2 25, 0, 0)) (e_L 25 (0, ei_getf eft elay 11 0 28, 0, 0))) (e_T 28 (e_L 28 (0, ei_load 2 0 29, 0, 0)) (e_L 29 (2, e_nof, 118, 2)))))) (e_T 46 (e_T 37 (e_T 33 (e_T 32 (e_L 32 (0, ei_load 0 2 33, 0, 0)) (e_L 33 (0, ei_getf eft elay 11 0 36, 0, 0))) (e_T 36 (e_L 36 (0, ei_load 3 0 37, 0, 0)) (e_L 37 (2, e_nof, 118, 2)))) (e_T 41 (e_T 40 (e_L 40 (0, ei_load 0 2 41, 0, 0)) (e_L 41 (0, ei_getf eft elay 11 0 44, 0, 0))) (e_T 44 (e_L 44 (0, ei_load 4 0 46, 0, 0)) (e_L 46 (2, e_nof, 118, 2))))) (e_T 55 (e_T 50 (e_T 49 (e_L 49 (0, ei_load 0 2 50, 0, 0)) (e_L 50 (0, ei_getf eft elay 11 0 53, 0, 0))) (e_T 53 (e_L 53 (0, ei_load 5 0 55, 0, 0)) (e_L 55 (2, e_nof, 118, 2)))) (e_T 59 (e_T 58 (e_L 58 (0, ei_load 0 2 59, 0, 0)) (e_L 59 (0, ei_getf eft elay 11 0 62, 0, 0))) (e_T 62 (e_L 62 (0, ei_getf eft elay 8 0 65, 0, 0)) (e_L 65 (1, e_nof, 1, 0)))))))
set_option maxRecDepth 20000 in
set_option maxHeartbeats 4000000 in
theorem te_190_0_ok : ∀ pc, e_EOq eft cls elay eI n_190 pc (te_190_0 pc) :=
  (e_Tok2
  (e_Tok2
  (e_Tok2
  (e_Tok2
  (e_Lok (ld_aload_n_0 (x_dk dn_190_0_0_ok 0 rfl)))
  (e_Tok2
  (e_Lok (lk_11_10g ho_190 (x_dk dn_190_0_0_ok 1 rfl)))
  (e_Lok (lk_11_74g ho_190 (x_dk dn_190_0_0_ok 2 rfl)))))
  (e_Tok2
  (e_Tok2
  (e_Lok (ps_sipush_3980 (x_dk dn_190_0_0_ok 3 rfl)))
  (e_Lok (e_st (I := eI) (er_icmple (off := 6) (tg := 16) (x_dk dn_190_0_0_ok 4 rfl) (by decide)) nx_if2)))
  (e_Tok2
  (e_Lok (ps_bipush_m3 (x_dk dn_190_0_0_ok 5 rfl)))
  (e_Lok (e_rt (I := eI) (k := 1) ⟨(x_dk dn_190_0_0_ok 6 rfl), rfl⟩)))))
  (e_Tok2
  (e_Tok2
  (e_Tok2
  (e_Lok (ld_aload_n_0 (x_dk dn_190_0_0_ok 7 rfl)))
  (e_Lok (lk_11_10g ho_190 (x_dk dn_190_0_0_ok 8 rfl))))
  (e_Tok2
  (e_Lok (ld_iload_n_1 (x_dk dn_190_0_0_ok 9 rfl)))
  (e_Lok (lk_11_78 ho_190 (x_dk dn_190_0_0_ok 10 rfl)))))
  (e_Tok2
  (e_Tok2
  (e_Lok (ld_aload_n_0 (x_dk dn_190_0_0_ok 11 rfl)))
  (e_Lok (lk_11_10g ho_190 (x_dk dn_190_0_0_ok 12 rfl))))
  (e_Tok2
  (e_Lok (ld_iload_n_2 (x_dk dn_190_0_0_ok 13 rfl)))
  (e_Lok (lk_11_78 ho_190 (x_dk dn_190_0_0_ok 14 rfl)))))))
  (e_Tok2
  (e_Tok2
  (e_Tok2
  (e_Tok2
  (e_Lok (ld_aload_n_0 (x_dk dn_190_0_0_ok 15 rfl)))
  (e_Lok (lk_11_10g ho_190 (x_dk dn_190_0_0_ok 16 rfl))))
  (e_Tok2
  (e_Lok (ld_iload_n_3 (x_dk dn_190_0_0_ok 17 rfl)))
  (e_Lok (lk_11_78 ho_190 (x_dk dn_190_0_0_ok 18 rfl)))))
  (e_Tok2
  (e_Tok2
  (e_Lok (ld_aload_n_0 (x_dk dn_190_0_0_ok 19 rfl)))
  (e_Lok (lk_11_10g ho_190 (x_dk dn_190_0_0_ok 20 rfl))))
  (e_Tok2
  (e_Lok (ld_iload_4 (x_dk dn_190_0_0_ok 21 rfl)))
  (e_Lok (lk_11_78 ho_190 (x_dk dn_190_0_0_ok 22 rfl))))))
  (e_Tok2
  (e_Tok2
  (e_Tok2
  (e_Lok (ld_aload_n_0 (x_dk dn_190_0_0_ok 23 rfl)))
  (e_Lok (lk_11_10g ho_190 (x_dk dn_190_0_0_ok 24 rfl))))
  (e_Tok2
  (e_Lok (ld_iload_5 (x_dk dn_190_0_1_ok 0 rfl)))
  (e_Lok (lk_11_78 ho_190 (x_dk dn_190_0_1_ok 1 rfl)))))
  (e_Tok2
  (e_Tok2
  (e_Lok (ld_aload_n_0 (x_dk dn_190_0_1_ok 2 rfl)))
  (e_Lok (lk_11_10g ho_190 (x_dk dn_190_0_1_ok 3 rfl))))
  (e_Tok2
  (e_Lok (lk_11_74g ho_190 (x_dk dn_190_0_1_ok 4 rfl)))
  (e_Lok (e_rt (I := eI) (k := 1) ⟨(x_dk dn_190_0_1_ok 5 rfl), rfl⟩)))))))
def te_190 : Nat → eE := te_190_0
theorem te_190_ok : ∀ pc, e_EOq eft cls elay eI n_190 pc (te_190 pc) := te_190_0_ok
theorem ho_191 : (xm_y n_191).cls = "RobotCellHouse" := rfl
def dn_191_0_0 : List (Nat × Instr × Nat) := [(0, .iload_n 1, 1), (1, .iconst 0, 1), (2, .aload_n 0, 1), (3, .getfield 10, 3), (6, .getfield 74, 3), (9, .invokestatic 82, 3), (12, .ifCond .ne 5, 3), (15, .iconst (-1), 1), (16, .ireturn, 1), (17, .aload_n 0, 1), (18, .getfield 10, 3), (21, .dup, 1), (22, .getfield 74, 3), (25, .iload_n 1, 1), (26, .isub, 1), (27, .putfield 74, 3), (30, .aload_n 0, 1), (31, .getfield 10, 3), (34, .getfield 74, 3), (37, .ireturn, 1)]
set_option maxRecDepth 20000 in
theorem dn_191_0_0_ok : dn_191_0_0.all (fun q => decide (decode (xm_b n_191) q.1 = .ok (q.2.1, q.2.2))) = true := xa_g_ok (by decide +kernel)
def te_191_0 : Nat → eE := (e_T 17 (e_T 6 (e_T 1 (e_T 0 (e_L 0 (0, ei_load 1 0 1, 0, 0)) (e_L 1 (0, ei_push (0, 0) 2, 0, 0))) (e_T 2 (e_L 2 (0, ei_load 0 2 3, 0, 0)) (e_T 3 (e_L 3 (0, ei_getf eft elay 11 0 6, 0, 0)) (e_L 6 (0, ei_getf eft elay 8 0 9, 0, 0))))) (e_T 12 (e_T 9 (e_L 9 (2, e_nof, 242, 3)) (e_L 12 (0, ei_if1 1 17 15, 0, 0))) (e_T 15 (e_L 15 (0, ei_push (0, (-1)) 16, 0, 0)) (e_T 16 (e_L 16 (1, e_nof, 1, 0)) (e_L 17 (0, ei_load 0 2 18, 0, 0)))))) (e_T 26 (e_T 21 (e_T 18 (e_L 18 (0, ei_getf eft elay 11 0 21, 0, 0)) (e_L 21 (0, ei_stk ef_dup 22, 0, 0))) (e_T 22 (e_L 22 (0, ei_getf eft elay 8 0 25, 0, 0)) (e_T 25 (e_L 25 (0, ei_load 1 0 26, 0, 0)) (e_L 26 (0, ei_bin eF_sub 27, 0, 0))))) (e_T 30 (e_T 27 (e_L 27 (0, ei_putf eft elay 8 0 0 30, 0, 0)) (e_L 30 (0, ei_load 0 2 31, 0, 0))) (e_T 31 (e_L 31 (0, ei_getf eft elay 11 0 34, 0, 0)) (e_T 34 (e_L 34 (0, ei_getf eft elay 8 0 37, 0, 0)) (e_L 37 (1, e_nof, 1, 0)))))))
set_option maxRecDepth 20000 in
set_option maxHeartbeats 4000000 in
theorem te_191_0_ok : ∀ pc, e_EOq eft cls elay eI n_191 pc (te_191_0 pc) :=
  (e_Tok2
  (e_Tok2
  (e_Tok2
  (e_Tok2
  (e_Lok (ld_iload_n_1 (x_dk dn_191_0_0_ok 0 rfl)))
  (e_Lok (ps_iconst_0 (x_dk dn_191_0_0_ok 1 rfl))))
  (e_Tok2
  (e_Lok (ld_aload_n_0 (x_dk dn_191_0_0_ok 2 rfl)))
  (e_Tok2
  (e_Lok (lk_11_10g ho_191 (x_dk dn_191_0_0_ok 3 rfl)))
  (e_Lok (lk_11_74g ho_191 (x_dk dn_191_0_0_ok 4 rfl))))))
  (e_Tok2
  (e_Tok2
  (e_Lok (lk_11_82 ho_191 (x_dk dn_191_0_0_ok 5 rfl)))
  (e_Lok (e_st (I := eI) (er_ifne (off := 5) (tg := 17) (x_dk dn_191_0_0_ok 6 rfl) (by decide)) nx_if1)))
  (e_Tok2
  (e_Lok (ps_iconst_m1 (x_dk dn_191_0_0_ok 7 rfl)))
  (e_Tok2
  (e_Lok (e_rt (I := eI) (k := 1) ⟨(x_dk dn_191_0_0_ok 8 rfl), rfl⟩))
  (e_Lok (ld_aload_n_0 (x_dk dn_191_0_0_ok 9 rfl)))))))
  (e_Tok2
  (e_Tok2
  (e_Tok2
  (e_Lok (lk_11_10g ho_191 (x_dk dn_191_0_0_ok 10 rfl)))
  (e_Lok (e_st (I := eI) (er_dup (x_dk dn_191_0_0_ok 11 rfl)) (nx_stk bf_dup))))
  (e_Tok2
  (e_Lok (lk_11_74g ho_191 (x_dk dn_191_0_0_ok 12 rfl)))
  (e_Tok2
  (e_Lok (ld_iload_n_1 (x_dk dn_191_0_0_ok 13 rfl)))
  (e_Lok (sm_isub (x_dk dn_191_0_0_ok 14 rfl))))))
  (e_Tok2
  (e_Tok2
  (e_Lok (lk_11_74p ho_191 (x_dk dn_191_0_0_ok 15 rfl)))
  (e_Lok (ld_aload_n_0 (x_dk dn_191_0_0_ok 16 rfl))))
  (e_Tok2
  (e_Lok (lk_11_10g ho_191 (x_dk dn_191_0_0_ok 17 rfl)))
  (e_Tok2
  (e_Lok (lk_11_74g ho_191 (x_dk dn_191_0_0_ok 18 rfl)))
  (e_Lok (e_rt (I := eI) (k := 1) ⟨(x_dk dn_191_0_0_ok 19 rfl), rfl⟩)))))))
def te_191 : Nat → eE := te_191_0
theorem te_191_ok : ∀ pc, e_EOq eft cls elay eI n_191 pc (te_191 pc) := te_191_0_ok
theorem ho_192 : (xm_y n_192).cls = "RobotCellHouse" := rfl
def dn_192_0_0 : List (Nat × Instr × Nat) := [(0, .aload_n 0, 1), (1, .getfield 42, 3), (4, .getfield 86, 3), (7, .istore_n 1, 1), (8, .aload_n 0, 1), (9, .invokevirtual 71, 3), (12, .iload_n 1, 1), (13, .ireturn, 1)]
set_option maxRecDepth 20000 in
theorem dn_192_0_0_ok : dn_192_0_0.all (fun q => decide (decode (xm_b n_192) q.1 = .ok (q.2.1, q.2.2))) = true := xa_g_ok (by decide +kernel)
def te_192_0 : Nat → eE := (e_T 7 (e_T 1 (e_T 0 (e_L 0 (0, ei_load 0 2 1, 0, 0)) (e_L 1 (0, ei_getf eft elay 11 5 4, 0, 0))) (e_T 4 (e_L 4 (0, ei_getf eft elay 2 0 7, 0, 0)) (e_L 7 (0, ei_stor 1 0 8, 0, 0)))) (e_T 9 (e_T 8 (e_L 8 (0, ei_load 0 2 9, 0, 0)) (e_L 9 (2, e_nof, 251, 1))) (e_T 12 (e_L 12 (0, ei_load 1 0 13, 0, 0)) (e_L 13 (1, e_nof, 1, 0)))))
set_option maxRecDepth 20000 in
set_option maxHeartbeats 4000000 in
theorem te_192_0_ok : ∀ pc, e_EOq eft cls elay eI n_192 pc (te_192_0 pc) :=
  (e_Tok2
  (e_Tok2
  (e_Tok2
  (e_Lok (ld_aload_n_0 (x_dk dn_192_0_0_ok 0 rfl)))
  (e_Lok (lk_11_42g ho_192 (x_dk dn_192_0_0_ok 1 rfl))))
  (e_Tok2
  (e_Lok (lk_11_86g ho_192 (x_dk dn_192_0_0_ok 2 rfl)))
  (e_Lok (e_st (I := eI) (er_istore_n (i := 1) (x_dk dn_192_0_0_ok 3 rfl) (by decide +kernel)) nx_stor))))
  (e_Tok2
  (e_Tok2
  (e_Lok (ld_aload_n_0 (x_dk dn_192_0_0_ok 4 rfl)))
  (e_Lok (lk_11_71 ho_192 (x_dk dn_192_0_0_ok 5 rfl))))
  (e_Tok2
  (e_Lok (ld_iload_n_1 (x_dk dn_192_0_0_ok 6 rfl)))
  (e_Lok (e_rt (I := eI) (k := 1) ⟨(x_dk dn_192_0_0_ok 7 rfl), rfl⟩)))))
def te_192 : Nat → eE := te_192_0
theorem te_192_ok : ∀ pc, e_EOq eft cls elay eI n_192 pc (te_192 pc) := te_192_0_ok
theorem ho_193 : (xm_y n_193).cls = "RobotCellHouse" := rfl
def dn_193_0_0 : List (Nat × Instr × Nat) := [(0, .iload_n 1, 1), (1, .sipush (-8000), 3), (4, .sipush 8000, 3), (7, .invokestatic 82, 3), (10, .ifCond .eq 16, 3), (13, .iload_n 2, 1), (14, .sipush (-8000), 3), (17, .sipush 8000, 3), (20, .invokestatic 82, 3), (23, .ifCond .ne 5, 3), (26, .iconst (-1), 1), (27, .ireturn, 1), (28, .iload_n 3, 1), (29, .iconst 0, 1), (30, .sipush 4095, 3), (33, .invokestatic 82, 3), (36, .ifCond .eq 15, 3), (39, .iload 4, 2), (41, .iconst 0, 1), (42, .sipush 800, 3), (45, .invokestatic 82, 3), (48, .ifCond .ne 5, 3), (51, .iconst (-1), 1), (52, .ireturn, 1), (53, .aload_n 0, 1)]
set_option maxRecDepth 20000 in
theorem dn_193_0_0_ok : dn_193_0_0.all (fun q => decide (decode (xm_b n_193) q.1 = .ok (q.2.1, q.2.2))) = true := xa_g_ok (by decide +kernel)
def dn_193_0_1 : List (Nat × Instr × Nat) := [(54, .getfield 91, 3), (57, .ifCond .eq 6, 3), (60, .bipush (-2), 2), (62, .ireturn, 1), (63, .aload_n 0, 1), (64, .getfield 94, 3), (67, .iconst 4, 1), (68, .if_icmp .lt 6, 3), (71, .bipush (-3), 2), (73, .ireturn, 1), (74, .aload_n 0, 1), (75, .getfield 27, 3), (78, .aload_n 0, 1), (79, .getfield 94, 3), (82, .aaload, 1), (83, .iload_n 1, 1), (84, .iload_n 2, 1), (85, .iload_n 3, 1), (86, .iload 4, 2), (88, .invokevirtual 97, 3), (91, .aload_n 0, 1), (92, .dup, 1), (93, .getfield 94, 3), (96, .iconst 1, 1), (97, .iadd, 1)]
set_option maxRecDepth 20000 in
theorem dn_193_0_1_ok : dn_193_0_1.all (fun q => decide (decode (xm_b n_193) q.1 = .ok (q.2.1, q.2.2))) = true := xa_g_ok (by decide +kernel)
def dn_193_0_2 : List (Nat × Instr × Nat) := [(98, .putfield 94, 3), (101, .aload_n 0, 1), (102, .getfield 94, 3), (105, .iconst 1, 1), (106, .isub, 1), (107, .ireturn, 1)]
set_option maxRecDepth 20000 in
theorem dn_193_0_2_ok : dn_193_0_2.all (fun q => decide (decode (xm_b n_193) q.1 = .ok (q.2.1, q.2.2))) = true := xa_g_ok (by decide +kernel)
def te_193_0 : Nat → eE := (e_T 29 (e_T 14 (e_T 4 (e_T 0 (e_L 0 (0, ei_load 1 0 1, 0, 0)) (e_T 1 (e_L 1 (0, ei_push (0, (-8000)) 4, 0, 0)) (e_L 4 (0, ei_push (0, 8000) 7, 0, 0)))) (e_T 10 (e_T 7 (e_L 7 (2, e_nof, 242, 3)) (e_L 10 (0, ei_if1 0 26 13, 0, 0))) (e_T 13 (e_L 13 (0, ei_load 2 0 14, 0, 0)) (e_L 14 (0, ei_push (0, (-8000)) 17, 0, 0))))) (e_T 23 (e_T 17 (e_L 17 (0, ei_push (0, 8000) 20, 0, 0)) (e_T 20 (e_L 20 (2, e_nof, 242, 3)) (e_L 23 (0, ei_if1 1 28 26, 0, 0)))) (e_T 27 (e_T 26 (e_L 26 (0, ei_push (0, (-1)) 27, 0, 0)) (e_L 27 (1, e_nof, 1, 0))) (e_T 28 (e_L 28 (0, ei_load 3 0 29, 0, 0)) (e_L 29 (0, ei_push (0, 0) 30, 0, 0)))))) (e_T 45 (e_T 36 (e_T 30 (e_L 30 (0, ei_push (0, 4095) 33, 0, 0)) (e_T 33 (e_L 33 (2, e_nof, 242, 3)) (e_L 36 (0, ei_if1 0 51 39, 0, 0)))) (e_T 41 (e_T 39 (e_L 39 (0, ei_load 4 0 41, 0, 0)) (e_L 41 (0, ei_push (0, 0) 42, 0, 0))) (e_T 42 (e_L 42 (0, ei_push (0, 800) 45, 0, 0)) (e_L 45 (2, e_nof, 242, 3))))) (e_T 52 (e_T 48 (e_L 48 (0, ei_if1 1 53 51, 0, 0)) (e_T 51 (e_L 51 (0, ei_push (0, (-1)) 52, 0, 0)) (e_L 52 (1, e_nof, 1, 0)))) (e_T 54 (e_T 53 (e_L 53 (0, ei_load 0 2 54, 0, 0)) (e_L 54 (0, ei_getf eft elay 11 13 57, 0, 0))) (e_T 57 (e_L 57 (0, ei_if1 0 63 60, 0, 0)) (e_L 60 (0, ei_push (0, (-2)) 62, 0, 0)))))))
set_option maxRecDepth 20000 in
set_option maxHeartbeats 4000000 in
theorem te_193_0_ok : ∀ pc, e_EOq eft cls elay eI n_193 pc (te_193_0 pc) :=
  (e_Tok2
  (e_Tok2
  (e_Tok2
  (e_Tok2
  (e_Lok (ld_iload_n_1 (x_dk dn_193_0_0_ok 0 rfl)))
  (e_Tok2
  (e_Lok (ps_sipush_m8000 (x_dk dn_193_0_0_ok 1 rfl)))
  (e_Lok (ps_sipush_8000 (x_dk dn_193_0_0_ok 2 rfl)))))
  (e_Tok2
  (e_Tok2
  (e_Lok (lk_11_82 ho_193 (x_dk dn_193_0_0_ok 3 rfl)))
  (e_Lok (e_st (I := eI) (er_ifeq (off := 16) (tg := 26) (x_dk dn_193_0_0_ok 4 rfl) (by decide)) nx_if1)))
  (e_Tok2
  (e_Lok (ld_iload_n_2 (x_dk dn_193_0_0_ok 5 rfl)))
  (e_Lok (ps_sipush_m8000 (x_dk dn_193_0_0_ok 6 rfl))))))
  (e_Tok2
  (e_Tok2
  (e_Lok (ps_sipush_8000 (x_dk dn_193_0_0_ok 7 rfl)))
  (e_Tok2
  (e_Lok (lk_11_82 ho_193 (x_dk dn_193_0_0_ok 8 rfl)))
  (e_Lok (e_st (I := eI) (er_ifne (off := 5) (tg := 28) (x_dk dn_193_0_0_ok 9 rfl) (by decide)) nx_if1))))
  (e_Tok2
  (e_Tok2
  (e_Lok (ps_iconst_m1 (x_dk dn_193_0_0_ok 10 rfl)))
  (e_Lok (e_rt (I := eI) (k := 1) ⟨(x_dk dn_193_0_0_ok 11 rfl), rfl⟩)))
  (e_Tok2
  (e_Lok (ld_iload_n_3 (x_dk dn_193_0_0_ok 12 rfl)))
  (e_Lok (ps_iconst_0 (x_dk dn_193_0_0_ok 13 rfl)))))))
  (e_Tok2
  (e_Tok2
  (e_Tok2
  (e_Lok (ps_sipush_4095 (x_dk dn_193_0_0_ok 14 rfl)))
  (e_Tok2
  (e_Lok (lk_11_82 ho_193 (x_dk dn_193_0_0_ok 15 rfl)))
  (e_Lok (e_st (I := eI) (er_ifeq (off := 15) (tg := 51) (x_dk dn_193_0_0_ok 16 rfl) (by decide)) nx_if1))))
  (e_Tok2
  (e_Tok2
  (e_Lok (ld_iload_4 (x_dk dn_193_0_0_ok 17 rfl)))
  (e_Lok (ps_iconst_0 (x_dk dn_193_0_0_ok 18 rfl))))
  (e_Tok2
  (e_Lok (ps_sipush_800 (x_dk dn_193_0_0_ok 19 rfl)))
  (e_Lok (lk_11_82 ho_193 (x_dk dn_193_0_0_ok 20 rfl))))))
  (e_Tok2
  (e_Tok2
  (e_Lok (e_st (I := eI) (er_ifne (off := 5) (tg := 53) (x_dk dn_193_0_0_ok 21 rfl) (by decide)) nx_if1))
  (e_Tok2
  (e_Lok (ps_iconst_m1 (x_dk dn_193_0_0_ok 22 rfl)))
  (e_Lok (e_rt (I := eI) (k := 1) ⟨(x_dk dn_193_0_0_ok 23 rfl), rfl⟩))))
  (e_Tok2
  (e_Tok2
  (e_Lok (ld_aload_n_0 (x_dk dn_193_0_0_ok 24 rfl)))
  (e_Lok (lk_11_91g ho_193 (x_dk dn_193_0_1_ok 0 rfl))))
  (e_Tok2
  (e_Lok (e_st (I := eI) (er_ifeq (off := 6) (tg := 63) (x_dk dn_193_0_1_ok 1 rfl) (by decide)) nx_if1))
  (e_Lok (ps_bipush_m2 (x_dk dn_193_0_1_ok 2 rfl))))))))
def te_193_28 : Nat → eE := (e_T 84 (e_T 73 (e_T 64 (e_T 62 (e_L 62 (1, e_nof, 1, 0)) (e_T 63 (e_L 63 (0, ei_load 0 2 64, 0, 0)) (e_L 64 (0, ei_getf eft elay 11 11 67, 0, 0)))) (e_T 68 (e_T 67 (e_L 67 (0, ei_push (0, 4) 68, 0, 0)) (e_L 68 (0, ei_if2 2 74 71, 0, 0))) (e_T 71 (e_L 71 (0, ei_push (0, (-3)) 73, 0, 0)) (e_L 73 (1, e_nof, 1, 0))))) (e_T 78 (e_T 74 (e_L 74 (0, ei_load 0 2 75, 0, 0)) (e_T 75 (e_L 75 (0, ei_getf eft elay 11 2 78, 0, 0)) (e_L 78 (0, ei_load 0 2 79, 0, 0)))) (e_T 82 (e_T 79 (e_L 79 (0, ei_getf eft elay 11 11 82, 0, 0)) (e_L 82 (0, ei_aald elay 83, 0, 0))) (e_T 83 (e_L 83 (0, ei_load 1 0 84, 0, 0)) (e_L 84 (0, ei_load 2 0 85, 0, 0)))))) (e_T 96 (e_T 88 (e_T 85 (e_L 85 (0, ei_load 3 0 86, 0, 0)) (e_T 86 (e_L 86 (0, ei_load 4 0 88, 0, 0)) (e_L 88 (2, e_nof, 1, 5)))) (e_T 92 (e_T 91 (e_L 91 (0, ei_load 0 2 92, 0, 0)) (e_L 92 (0, ei_stk ef_dup 93, 0, 0))) (e_T 93 (e_L 93 (0, ei_getf eft elay 11 11 96, 0, 0)) (e_L 96 (0, ei_push (0, 1) 97, 0, 0))))) (e_T 101 (e_T 97 (e_L 97 (0, ei_bin eF_add 98, 0, 0)) (e_T 98 (e_L 98 (0, ei_putf eft elay 11 11 0 101, 0, 0)) (e_L 101 (0, ei_load 0 2 102, 0, 0)))) (e_T 105 (e_T 102 (e_L 102 (0, ei_getf eft elay 11 11 105, 0, 0)) (e_L 105 (0, ei_push (0, 1) 106, 0, 0))) (e_T 106 (e_L 106 (0, ei_bin eF_sub 107, 0, 0)) (e_L 107 (1, e_nof, 1, 0)))))))
set_option maxRecDepth 20000 in
set_option maxHeartbeats 4000000 in
theorem te_193_28_ok : ∀ pc, e_EOq eft cls elay eI n_193 pc (te_193_28 pc) :=
  (e_Tok2
  (e_Tok2
  (e_Tok2
  (e_Tok2
  (e_Lok (e_rt (I := eI) (k := 1) ⟨(x_dk dn_193_0_1_ok 3 rfl), rfl⟩))
  (e_Tok2
  (e_Lok (ld_aload_n_0 (x_dk dn_193_0_1_ok 4 rfl)))
  (e_Lok (lk_11_94g ho_193 (x_dk dn_193_0_1_ok 5 rfl)))))
  (e_Tok2
  (e_Tok2
  (e_Lok (ps_iconst_4 (x_dk dn_193_0_1_ok 6 rfl)))
  (e_Lok (e_st (I := eI) (er_icmplt (off := 6) (tg := 74) (x_dk dn_193_0_1_ok 7 rfl) (by decide)) nx_if2)))
  (e_Tok2
  (e_Lok (ps_bipush_m3 (x_dk dn_193_0_1_ok 8 rfl)))
  (e_Lok (e_rt (I := eI) (k := 1) ⟨(x_dk dn_193_0_1_ok 9 rfl), rfl⟩)))))
  (e_Tok2
  (e_Tok2
  (e_Lok (ld_aload_n_0 (x_dk dn_193_0_1_ok 10 rfl)))
  (e_Tok2
  (e_Lok (lk_11_27g ho_193 (x_dk dn_193_0_1_ok 11 rfl)))
  (e_Lok (ld_aload_n_0 (x_dk dn_193_0_1_ok 12 rfl)))))
  (e_Tok2
  (e_Tok2
  (e_Lok (lk_11_94g ho_193 (x_dk dn_193_0_1_ok 13 rfl)))
  (e_Lok (e_st (I := eI) (er_aaload (x_dk dn_193_0_1_ok 14 rfl)) nx_aald)))
  (e_Tok2
  (e_Lok (ld_iload_n_1 (x_dk dn_193_0_1_ok 15 rfl)))
  (e_Lok (ld_iload_n_2 (x_dk dn_193_0_1_ok 16 rfl)))))))
  (e_Tok2
  (e_Tok2
  (e_Tok2
  (e_Lok (ld_iload_n_3 (x_dk dn_193_0_1_ok 17 rfl)))
  (e_Tok2
  (e_Lok (ld_iload_4 (x_dk dn_193_0_1_ok 18 rfl)))
  (e_Lok (lk_11_97 ho_193 (x_dk dn_193_0_1_ok 19 rfl)))))
  (e_Tok2
  (e_Tok2
  (e_Lok (ld_aload_n_0 (x_dk dn_193_0_1_ok 20 rfl)))
  (e_Lok (e_st (I := eI) (er_dup (x_dk dn_193_0_1_ok 21 rfl)) (nx_stk bf_dup))))
  (e_Tok2
  (e_Lok (lk_11_94g ho_193 (x_dk dn_193_0_1_ok 22 rfl)))
  (e_Lok (ps_iconst_1 (x_dk dn_193_0_1_ok 23 rfl))))))
  (e_Tok2
  (e_Tok2
  (e_Lok (sm_iadd (x_dk dn_193_0_1_ok 24 rfl)))
  (e_Tok2
  (e_Lok (lk_11_94p ho_193 (x_dk dn_193_0_2_ok 0 rfl)))
  (e_Lok (ld_aload_n_0 (x_dk dn_193_0_2_ok 1 rfl)))))
  (e_Tok2
  (e_Tok2
  (e_Lok (lk_11_94g ho_193 (x_dk dn_193_0_2_ok 2 rfl)))
  (e_Lok (ps_iconst_1 (x_dk dn_193_0_2_ok 3 rfl))))
  (e_Tok2
  (e_Lok (sm_isub (x_dk dn_193_0_2_ok 4 rfl)))
  (e_Lok (e_rt (I := eI) (k := 1) ⟨(x_dk dn_193_0_2_ok 5 rfl), rfl⟩)))))))
def te_193 : Nat → eE := (e_T 60 te_193_0 te_193_28)
theorem te_193_ok : ∀ pc, e_EOq eft cls elay eI n_193 pc (te_193 pc) := (e_Tok2 (te_193_0_ok) (te_193_28_ok))
theorem ho_194 : (xm_y n_194).cls = "RobotCellHouse" := rfl
def dn_194_0_0 : List (Nat × Instr × Nat) := [(0, .aload_n 0, 1), (1, .iload_n 1, 1), (2, .invokevirtual 103, 3), (5, .ifCond .eq 12, 3), (8, .iload_n 2, 1), (9, .iconst 0, 1), (10, .iconst 1, 1), (11, .invokestatic 82, 3), (14, .ifCond .ne 5, 3), (17, .iconst (-1), 1), (18, .ireturn, 1), (19, .iload_n 2, 1), (20, .ifCond .ne 8, 3), (23, .ldc 107, 2), (25, .goto 6, 3), (28, .sipush 8000, 3), (31, .istore 6, 2), (33, .iload_n 3, 1), (34, .iload 6, 2), (36, .ineg, 1), (37, .iconst 0, 1), (38, .invokestatic 82, 3), (41, .ifCond .eq 14, 3), (44, .iload 4, 2), (46, .iconst 0, 1)]
set_option maxRecDepth 20000 in
theorem dn_194_0_0_ok : dn_194_0_0.all (fun q => decide (decode (xm_b n_194) q.1 = .ok (q.2.1, q.2.2))) = true := xa_g_ok (by decide +kernel)
def dn_194_0_1 : List (Nat × Instr × Nat) := [(47, .iload 6, 2), (49, .invokestatic 82, 3), (52, .ifCond .ne 5, 3), (55, .iconst (-1), 1), (56, .ireturn, 1), (57, .iload 5, 2), (59, .iconst 0, 1), (60, .sipush 8000, 3), (63, .invokestatic 82, 3), (66, .ifCond .ne 5, 3), (69, .iconst (-1), 1), (70, .ireturn, 1), (71, .iload_n 2, 1), (72, .iconst 1, 1), (73, .if_icmp .ne 12, 3), (76, .iload 5, 2), (78, .iload_n 3, 1), (79, .iadd, 1), (80, .ifCond .ge 5, 3), (83, .iconst (-1), 1), (84, .ireturn, 1), (85, .iload_n 2, 1), (86, .iconst 1, 1), (87, .if_icmp .ne 11, 3), (90, .iload 5, 2)]
set_option maxRecDepth 20000 in
theorem dn_194_0_1_ok : dn_194_0_1.all (fun q => decide (decode (xm_b n_194) q.1 = .ok (q.2.1, q.2.2))) = true := xa_g_ok (by decide +kernel)
def dn_194_0_2 : List (Nat × Instr × Nat) := [(92, .iload 4, 2), (94, .iadd, 1), (95, .goto 5, 3), (98, .iload 5, 2), (100, .istore 7, 2), (102, .aload_n 0, 1), (103, .getfield 27, 3), (106, .iload_n 1, 1), (107, .aaload, 1), (108, .invokevirtual 108, 3), (111, .iload 7, 2), (113, .iadd, 1), (114, .sipush 8000, 3), (117, .if_icmp .le 5, 3), (120, .iconst (-1), 1), (121, .ireturn, 1), (122, .aload_n 0, 1), (123, .getfield 91, 3), (126, .ifCond .eq 6, 3), (129, .bipush (-2), 2), (131, .ireturn, 1), (132, .aload_n 0, 1), (133, .getfield 27, 3), (136, .iload_n 1, 1), (137, .aaload, 1)]
set_option maxRecDepth 20000 in
theorem dn_194_0_2_ok : dn_194_0_2.all (fun q => decide (decode (xm_b n_194) q.1 = .ok (q.2.1, q.2.2))) = true := xa_g_ok (by decide +kernel)
def dn_194_0_3 : List (Nat × Instr × Nat) := [(138, .getfield 112, 3), (141, .bipush 6, 2), (143, .if_icmp .lt 6, 3), (146, .bipush (-3), 2), (148, .ireturn, 1), (149, .aload_n 0, 1), (150, .getfield 27, 3), (153, .iload_n 1, 1), (154, .aaload, 1), (155, .iload_n 2, 1), (156, .iload_n 3, 1), (157, .iload 4, 2), (159, .iload 5, 2), (161, .invokevirtual 115, 3), (164, .ireturn, 1)]
set_option maxRecDepth 20000 in
theorem dn_194_0_3_ok : dn_194_0_3.all (fun q => decide (decode (xm_b n_194) q.1 = .ok (q.2.1, q.2.2))) = true := xa_g_ok (by decide +kernel)
def te_194_0 : Nat → eE := (e_T 18 (e_T 8 (e_T 1 (e_T 0 (e_L 0 (0, ei_load 0 2 1, 0, 0)) (e_L 1 (0, ei_load 1 0 2, 0, 0))) (e_T 2 (e_L 2 (2, e_nof, 246, 2)) (e_T 5 (e_L 5 (0, ei_if1 0 17 8, 0, 0)) (e_L 8 (0, ei_load 2 0 9, 0, 0))))) (e_T 11 (e_T 9 (e_L 9 (0, ei_push (0, 0) 10, 0, 0)) (e_T 10 (e_L 10 (0, ei_push (0, 1) 11, 0, 0)) (e_L 11 (2, e_nof, 242, 3)))) (e_T 14 (e_L 14 (0, ei_if1 1 19 17, 0, 0)) (e_T 17 (e_L 17 (0, ei_push (0, (-1)) 18, 0, 0)) (e_L 18 (1, e_nof, 1, 0)))))) (e_T 28 (e_T 20 (e_T 19 (e_L 19 (0, ei_load 2 0 20, 0, 0)) (e_L 20 (0, ei_if1 1 28 23, 0, 0))) (e_T 23 (e_L 23 (0, ei_push (0, 100000) 25, 0, 0)) (e_T 25 (e_L 25 (0, ei_goto 31, 0, 0)) (e_L 28 (0, ei_push (0, 8000) 31, 0, 0))))) (e_T 34 (e_T 31 (e_L 31 (0, ei_stor 6 0 33, 0, 0)) (e_T 33 (e_L 33 (0, ei_load 3 0 34, 0, 0)) (e_L 34 (0, ei_load 6 0 36, 0, 0)))) (e_T 36 (e_L 36 (0, ei_un (fun x => (0, e32 (-x))) 37, 0, 0)) (e_T 37 (e_L 37 (0, ei_push (0, 0) 38, 0, 0)) (e_L 38 (2, e_nof, 242, 3)))))))
set_option maxRecDepth 20000 in
set_option maxHeartbeats 4000000 in
theorem te_194_0_ok : ∀ pc, e_EOq eft cls elay eI n_194 pc (te_194_0 pc) :=
  (e_Tok2
  (e_Tok2
  (e_Tok2
  (e_Tok2
  (e_Lok (ld_aload_n_0 (x_dk dn_194_0_0_ok 0 rfl)))
  (e_Lok (ld_iload_n_1 (x_dk dn_194_0_0_ok 1 rfl))))
  (e_Tok2
  (e_Lok (lk_11_103 ho_194 (x_dk dn_194_0_0_ok 2 rfl)))
  (e_Tok2
  (e_Lok (e_st (I := eI) (er_ifeq (off := 12) (tg := 17) (x_dk dn_194_0_0_ok 3 rfl) (by decide)) nx_if1))
  (e_Lok (ld_iload_n_2 (x_dk dn_194_0_0_ok 4 rfl))))))
  (e_Tok2
  (e_Tok2
  (e_Lok (ps_iconst_0 (x_dk dn_194_0_0_ok 5 rfl)))
  (e_Tok2
  (e_Lok (ps_iconst_1 (x_dk dn_194_0_0_ok 6 rfl)))
  (e_Lok (lk_11_82 ho_194 (x_dk dn_194_0_0_ok 7 rfl)))))
  (e_Tok2
  (e_Lok (e_st (I := eI) (er_ifne (off := 5) (tg := 19) (x_dk dn_194_0_0_ok 8 rfl) (by decide)) nx_if1))
  (e_Tok2
  (e_Lok (ps_iconst_m1 (x_dk dn_194_0_0_ok 9 rfl)))
  (e_Lok (e_rt (I := eI) (k := 1) ⟨(x_dk dn_194_0_0_ok 10 rfl), rfl⟩))))))
  (e_Tok2
  (e_Tok2
  (e_Tok2
  (e_Lok (ld_iload_n_2 (x_dk dn_194_0_0_ok 11 rfl)))
  (e_Lok (e_st (I := eI) (er_ifne (off := 8) (tg := 28) (x_dk dn_194_0_0_ok 12 rfl) (by decide)) nx_if1)))
  (e_Tok2
  (e_Lok (e_st (I := eI) (er_ldc (ix := 107) (z := 100000) (v := 100000) (x_dk dn_194_0_0_ok 13 rfl) (in_t4 (List.mem_of_getElem? (i := 185) rfl) rfl) (by decide)) (nx_push (Or.inl rfl))))
  (e_Tok2
  (e_Lok (e_st (I := eI) (er_goto (off := 6) (tg := 31) (x_dk dn_194_0_0_ok 14 rfl) (by decide)) nx_goto))
  (e_Lok (ps_sipush_8000 (x_dk dn_194_0_0_ok 15 rfl))))))
  (e_Tok2
  (e_Tok2
  (e_Lok (e_st (I := eI) (er_istore (i := 6) (x_dk dn_194_0_0_ok 16 rfl) (by decide +kernel)) nx_stor))
  (e_Tok2
  (e_Lok (ld_iload_n_3 (x_dk dn_194_0_0_ok 17 rfl)))
  (e_Lok (ld_iload_6 (x_dk dn_194_0_0_ok 18 rfl)))))
  (e_Tok2
  (e_Lok (e_st (I := eI) (er_ineg (x_dk dn_194_0_0_ok 19 rfl)) (nx_un (fun _ => rfl))))
  (e_Tok2
  (e_Lok (ps_iconst_0 (x_dk dn_194_0_0_ok 20 rfl)))
  (e_Lok (lk_11_82 ho_194 (x_dk dn_194_0_0_ok 21 rfl))))))))
def te_194_22 : Nat → eE := (e_T 60 (e_T 49 (e_T 44 (e_T 41 (e_L 41 (0, ei_if1 0 55 44, 0, 0)) (e_L 44 (0, ei_load 4 0 46, 0, 0))) (e_T 46 (e_L 46 (0, ei_push (0, 0) 47, 0, 0)) (e_T 47 (e_L 47 (0, ei_load 6 0 49, 0, 0)) (e_L 49 (2, e_nof, 242, 3))))) (e_T 56 (e_T 52 (e_L 52 (0, ei_if1 1 57 55, 0, 0)) (e_T 55 (e_L 55 (0, ei_push (0, (-1)) 56, 0, 0)) (e_L 56 (1, e_nof, 1, 0)))) (e_T 57 (e_L 57 (0, ei_load 5 0 59, 0, 0)) (e_T 59 (e_L 59 (0, ei_push (0, 0) 60, 0, 0)) (e_L 60 (0, ei_push (0, 8000) 63, 0, 0)))))) (e_T 72 (e_T 69 (e_T 63 (e_L 63 (2, e_nof, 242, 3)) (e_T 66 (e_L 66 (0, ei_if1 1 71 69, 0, 0)) (e_L 69 (0, ei_push (0, (-1)) 70, 0, 0)))) (e_T 70 (e_L 70 (1, e_nof, 1, 0)) (e_T 71 (e_L 71 (0, ei_load 2 0 72, 0, 0)) (e_L 72 (0, ei_push (0, 1) 73, 0, 0))))) (e_T 78 (e_T 73 (e_L 73 (0, ei_if2 1 85 76, 0, 0)) (e_T 76 (e_L 76 (0, ei_load 5 0 78, 0, 0)) (e_L 78 (0, ei_load 3 0 79, 0, 0)))) (e_T 79 (e_L 79 (0, ei_bin eF_add 80, 0, 0)) (e_T 80 (e_L 80 (0, ei_if1 3 85 83, 0, 0)) (e_L 83 (0, ei_push (0, (-1)) 84, 0, 0)))))))
set_option maxRecDepth 20000 in
set_option maxHeartbeats 4000000 in
theorem te_194_22_ok : ∀ pc, e_EOq eft cls elay eI n_194 pc (te_194_22 pc) :=
  (e_Tok2
  (e_Tok2
  (e_Tok2
  (e_Tok2
  (e_Lok (e_st (I := eI) (er_ifeq (off := 14) (tg := 55) (x_dk dn_194_0_0_ok 22 rfl) (by decide)) nx_if1))
  (e_Lok (ld_iload_4 (x_dk dn_194_0_0_ok 23 rfl))))
  (e_Tok2
  (e_Lok (ps_iconst_0 (x_dk dn_194_0_0_ok 24 rfl)))
  (e_Tok2
  (e_Lok (ld_iload_6 (x_dk dn_194_0_1_ok 0 rfl)))
  (e_Lok (lk_11_82 ho_194 (x_dk dn_194_0_1_ok 1 rfl))))))
  (e_Tok2
  (e_Tok2
  (e_Lok (e_st (I := eI) (er_ifne (off := 5) (tg := 57) (x_dk dn_194_0_1_ok 2 rfl) (by decide)) nx_if1))
  (e_Tok2
  (e_Lok (ps_iconst_m1 (x_dk dn_194_0_1_ok 3 rfl)))
  (e_Lok (e_rt (I := eI) (k := 1) ⟨(x_dk dn_194_0_1_ok 4 rfl), rfl⟩))))
  (e_Tok2
  (e_Lok (ld_iload_5 (x_dk dn_194_0_1_ok 5 rfl)))
  (e_Tok2
  (e_Lok (ps_iconst_0 (x_dk dn_194_0_1_ok 6 rfl)))
  (e_Lok (ps_sipush_8000 (x_dk dn_194_0_1_ok 7 rfl)))))))
  (e_Tok2
  (e_Tok2
  (e_Tok2
  (e_Lok (lk_11_82 ho_194 (x_dk dn_194_0_1_ok 8 rfl)))
  (e_Tok2
  (e_Lok (e_st (I := eI) (er_ifne (off := 5) (tg := 71) (x_dk dn_194_0_1_ok 9 rfl) (by decide)) nx_if1))
  (e_Lok (ps_iconst_m1 (x_dk dn_194_0_1_ok 10 rfl)))))
  (e_Tok2
  (e_Lok (e_rt (I := eI) (k := 1) ⟨(x_dk dn_194_0_1_ok 11 rfl), rfl⟩))
  (e_Tok2
  (e_Lok (ld_iload_n_2 (x_dk dn_194_0_1_ok 12 rfl)))
  (e_Lok (ps_iconst_1 (x_dk dn_194_0_1_ok 13 rfl))))))
  (e_Tok2
  (e_Tok2
  (e_Lok (e_st (I := eI) (er_icmpne (off := 12) (tg := 85) (x_dk dn_194_0_1_ok 14 rfl) (by decide)) nx_if2))
  (e_Tok2
  (e_Lok (ld_iload_5 (x_dk dn_194_0_1_ok 15 rfl)))
  (e_Lok (ld_iload_n_3 (x_dk dn_194_0_1_ok 16 rfl)))))
  (e_Tok2
  (e_Lok (sm_iadd (x_dk dn_194_0_1_ok 17 rfl)))
  (e_Tok2
  (e_Lok (e_st (I := eI) (er_ifge (off := 5) (tg := 85) (x_dk dn_194_0_1_ok 18 rfl) (by decide)) nx_if1))
  (e_Lok (ps_iconst_m1 (x_dk dn_194_0_1_ok 19 rfl))))))))
def te_194_45 : Nat → eE := (e_T 102 (e_T 90 (e_T 85 (e_T 84 (e_L 84 (1, e_nof, 1, 0)) (e_L 85 (0, ei_load 2 0 86, 0, 0))) (e_T 86 (e_L 86 (0, ei_push (0, 1) 87, 0, 0)) (e_T 87 (e_L 87 (0, ei_if2 1 98 90, 0, 0)) (e_L 90 (0, ei_load 5 0 92, 0, 0))))) (e_T 95 (e_T 92 (e_L 92 (0, ei_load 4 0 94, 0, 0)) (e_T 94 (e_L 94 (0, ei_bin eF_add 95, 0, 0)) (e_L 95 (0, ei_goto 100, 0, 0)))) (e_T 98 (e_L 98 (0, ei_load 5 0 100, 0, 0)) (e_T 100 (e_L 100 (0, ei_stor 7 0 102, 0, 0)) (e_L 102 (0, ei_load 0 2 103, 0, 0)))))) (e_T 111 (e_T 106 (e_T 103 (e_L 103 (0, ei_getf eft elay 11 2 106, 0, 0)) (e_L 106 (0, ei_load 1 0 107, 0, 0))) (e_T 107 (e_L 107 (0, ei_aald elay 108, 0, 0)) (e_T 108 (e_L 108 (2, e_nof, 5, 1)) (e_L 111 (0, ei_load 7 0 113, 0, 0))))) (e_T 117 (e_T 113 (e_L 113 (0, ei_bin eF_add 114, 0, 0)) (e_T 114 (e_L 114 (0, ei_push (0, 8000) 117, 0, 0)) (e_L 117 (0, ei_if2 5 122 120, 0, 0)))) (e_T 120 (e_L 120 (0, ei_push (0, (-1)) 121, 0, 0)) (e_T 121 (e_L 121 (1, e_nof, 1, 0)) (e_L 122 (0, ei_load 0 2 123, 0, 0)))))))
set_option maxRecDepth 20000 in
set_option maxHeartbeats 4000000 in
theorem te_194_45_ok : ∀ pc, e_EOq eft cls elay eI n_194 pc (te_194_45 pc) :=
  (e_Tok2
  (e_Tok2
  (e_Tok2
  (e_Tok2
  (e_Lok (e_rt (I := eI) (k := 1) ⟨(x_dk dn_194_0_1_ok 20 rfl), rfl⟩))
  (e_Lok (ld_iload_n_2 (x_dk dn_194_0_1_ok 21 rfl))))
  (e_Tok2
  (e_Lok (ps_iconst_1 (x_dk dn_194_0_1_ok 22 rfl)))
  (e_Tok2
  (e_Lok (e_st (I := eI) (er_icmpne (off := 11) (tg := 98) (x_dk dn_194_0_1_ok 23 rfl) (by decide)) nx_if2))
  (e_Lok (ld_iload_5 (x_dk dn_194_0_1_ok 24 rfl))))))
  (e_Tok2
  (e_Tok2
  (e_Lok (ld_iload_4 (x_dk dn_194_0_2_ok 0 rfl)))
  (e_Tok2
  (e_Lok (sm_iadd (x_dk dn_194_0_2_ok 1 rfl)))
  (e_Lok (e_st (I := eI) (er_goto (off := 5) (tg := 100) (x_dk dn_194_0_2_ok 2 rfl) (by decide)) nx_goto))))
  (e_Tok2
  (e_Lok (ld_iload_5 (x_dk dn_194_0_2_ok 3 rfl)))
  (e_Tok2
  (e_Lok (e_st (I := eI) (er_istore (i := 7) (x_dk dn_194_0_2_ok 4 rfl) (by decide +kernel)) nx_stor))
  (e_Lok (ld_aload_n_0 (x_dk dn_194_0_2_ok 5 rfl)))))))
  (e_Tok2
  (e_Tok2
  (e_Tok2
  (e_Lok (lk_11_27g ho_194 (x_dk dn_194_0_2_ok 6 rfl)))
  (e_Lok (ld_iload_n_1 (x_dk dn_194_0_2_ok 7 rfl))))
  (e_Tok2
  (e_Lok (e_st (I := eI) (er_aaload (x_dk dn_194_0_2_ok 8 rfl)) nx_aald))
  (e_Tok2
  (e_Lok (lk_11_108 ho_194 (x_dk dn_194_0_2_ok 9 rfl)))
  (e_Lok (ld_iload_7 (x_dk dn_194_0_2_ok 10 rfl))))))
  (e_Tok2
  (e_Tok2
  (e_Lok (sm_iadd (x_dk dn_194_0_2_ok 11 rfl)))
  (e_Tok2
  (e_Lok (ps_sipush_8000 (x_dk dn_194_0_2_ok 12 rfl)))
  (e_Lok (e_st (I := eI) (er_icmple (off := 5) (tg := 122) (x_dk dn_194_0_2_ok 13 rfl) (by decide)) nx_if2))))
  (e_Tok2
  (e_Lok (ps_iconst_m1 (x_dk dn_194_0_2_ok 14 rfl)))
  (e_Tok2
  (e_Lok (e_rt (I := eI) (k := 1) ⟨(x_dk dn_194_0_2_ok 15 rfl), rfl⟩))
  (e_Lok (ld_aload_n_0 (x_dk dn_194_0_2_ok 16 rfl))))))))
def te_194_67 : Nat → eE := (e_T 143 (e_T 132 (e_T 126 (e_T 123 (e_L 123 (0, ei_getf eft elay 11 13 126, 0, 0)) (e_L 126 (0, ei_if1 0 132 129, 0, 0))) (e_T 129 (e_L 129 (0, ei_push (0, (-2)) 131, 0, 0)) (e_T 131 (e_L 131 (1, e_nof, 1, 0)) (e_L 132 (0, ei_load 0 2 133, 0, 0))))) (e_T 137 (e_T 133 (e_L 133 (0, ei_getf eft elay 11 2 136, 0, 0)) (e_T 136 (e_L 136 (0, ei_load 1 0 137, 0, 0)) (e_L 137 (0, ei_aald elay 138, 0, 0)))) (e_T 138 (e_L 138 (0, ei_getf eft elay 0 8 141, 0, 0)) (e_T 141 (e_L 141 (0, ei_push (0, 6) 143, 0, 0)) (e_L 143 (0, ei_if2 2 149 146, 0, 0)))))) (e_T 154 (e_T 149 (e_T 146 (e_L 146 (0, ei_push (0, (-3)) 148, 0, 0)) (e_T 148 (e_L 148 (1, e_nof, 1, 0)) (e_L 149 (0, ei_load 0 2 150, 0, 0)))) (e_T 150 (e_L 150 (0, ei_getf eft elay 11 2 153, 0, 0)) (e_T 153 (e_L 153 (0, ei_load 1 0 154, 0, 0)) (e_L 154 (0, ei_aald elay 155, 0, 0))))) (e_T 157 (e_T 155 (e_L 155 (0, ei_load 2 0 156, 0, 0)) (e_T 156 (e_L 156 (0, ei_load 3 0 157, 0, 0)) (e_L 157 (0, ei_load 4 0 159, 0, 0)))) (e_T 159 (e_L 159 (0, ei_load 5 0 161, 0, 0)) (e_T 161 (e_L 161 (2, e_nof, 2, 5)) (e_L 164 (1, e_nof, 1, 0)))))))
set_option maxRecDepth 20000 in
set_option maxHeartbeats 4000000 in
theorem te_194_67_ok : ∀ pc, e_EOq eft cls elay eI n_194 pc (te_194_67 pc) :=
  (e_Tok2
  (e_Tok2
  (e_Tok2
  (e_Tok2
  (e_Lok (lk_11_91g ho_194 (x_dk dn_194_0_2_ok 17 rfl)))
  (e_Lok (e_st (I := eI) (er_ifeq (off := 6) (tg := 132) (x_dk dn_194_0_2_ok 18 rfl) (by decide)) nx_if1)))
  (e_Tok2
  (e_Lok (ps_bipush_m2 (x_dk dn_194_0_2_ok 19 rfl)))
  (e_Tok2
  (e_Lok (e_rt (I := eI) (k := 1) ⟨(x_dk dn_194_0_2_ok 20 rfl), rfl⟩))
  (e_Lok (ld_aload_n_0 (x_dk dn_194_0_2_ok 21 rfl))))))
  (e_Tok2
  (e_Tok2
  (e_Lok (lk_11_27g ho_194 (x_dk dn_194_0_2_ok 22 rfl)))
  (e_Tok2
  (e_Lok (ld_iload_n_1 (x_dk dn_194_0_2_ok 23 rfl)))
  (e_Lok (e_st (I := eI) (er_aaload (x_dk dn_194_0_2_ok 24 rfl)) nx_aald))))
  (e_Tok2
  (e_Lok (lk_11_112g ho_194 (x_dk dn_194_0_3_ok 0 rfl)))
  (e_Tok2
  (e_Lok (ps_bipush_6 (x_dk dn_194_0_3_ok 1 rfl)))
  (e_Lok (e_st (I := eI) (er_icmplt (off := 6) (tg := 149) (x_dk dn_194_0_3_ok 2 rfl) (by decide)) nx_if2))))))
  (e_Tok2
  (e_Tok2
  (e_Tok2
  (e_Lok (ps_bipush_m3 (x_dk dn_194_0_3_ok 3 rfl)))
  (e_Tok2
  (e_Lok (e_rt (I := eI) (k := 1) ⟨(x_dk dn_194_0_3_ok 4 rfl), rfl⟩))
  (e_Lok (ld_aload_n_0 (x_dk dn_194_0_3_ok 5 rfl)))))
  (e_Tok2
  (e_Lok (lk_11_27g ho_194 (x_dk dn_194_0_3_ok 6 rfl)))
  (e_Tok2
  (e_Lok (ld_iload_n_1 (x_dk dn_194_0_3_ok 7 rfl)))
  (e_Lok (e_st (I := eI) (er_aaload (x_dk dn_194_0_3_ok 8 rfl)) nx_aald)))))
  (e_Tok2
  (e_Tok2
  (e_Lok (ld_iload_n_2 (x_dk dn_194_0_3_ok 9 rfl)))
  (e_Tok2
  (e_Lok (ld_iload_n_3 (x_dk dn_194_0_3_ok 10 rfl)))
  (e_Lok (ld_iload_4 (x_dk dn_194_0_3_ok 11 rfl)))))
  (e_Tok2
  (e_Lok (ld_iload_5 (x_dk dn_194_0_3_ok 12 rfl)))
  (e_Tok2
  (e_Lok (lk_11_115 ho_194 (x_dk dn_194_0_3_ok 13 rfl)))
  (e_Lok (e_rt (I := eI) (k := 1) ⟨(x_dk dn_194_0_3_ok 14 rfl), rfl⟩)))))))
def te_194 : Nat → eE := (e_T 83 (e_T 38 te_194_0 te_194_22) (e_T 122 te_194_45 te_194_67))
theorem te_194_ok : ∀ pc, e_EOq eft cls elay eI n_194 pc (te_194 pc) := (e_Tok2 ((e_Tok2 (te_194_0_ok) (te_194_22_ok))) ((e_Tok2 (te_194_45_ok) (te_194_67_ok))))
theorem ho_195 : (xm_y n_195).cls = "RobotCellHouse" := rfl
def dn_195_0_0 : List (Nat × Instr × Nat) := [(0, .aload_n 0, 1), (1, .iload_n 1, 1), (2, .iload_n 2, 1), (3, .invokevirtual 119, 3), (6, .ifCond .ne 5, 3), (9, .iconst (-1), 1), (10, .ireturn, 1), (11, .iload_n 3, 1), (12, .iconst 1, 1), (13, .sipush 2000, 3), (16, .invokestatic 82, 3), (19, .ifCond .eq 15, 3), (22, .iload 4, 2), (24, .iconst 1, 1), (25, .sipush 2000, 3), (28, .invokestatic 82, 3), (31, .ifCond .ne 5, 3), (34, .iconst (-1), 1), (35, .ireturn, 1), (36, .aload_n 0, 1), (37, .getfield 91, 3), (40, .ifCond .eq 6, 3), (43, .bipush (-2), 2), (45, .ireturn, 1), (46, .aload_n 0, 1)]
set_option maxRecDepth 20000 in
theorem dn_195_0_0_ok : dn_195_0_0.all (fun q => decide (decode (xm_b n_195) q.1 = .ok (q.2.1, q.2.2))) = true := xa_g_ok (by decide +kernel)
def dn_195_0_1 : List (Nat × Instr × Nat) := [(47, .getfield 27, 3), (50, .iload_n 1, 1), (51, .aaload, 1), (52, .getfield 123, 3), (55, .iload_n 2, 1), (56, .aaload, 1), (57, .iload_n 3, 1), (58, .putfield 127, 3), (61, .aload_n 0, 1), (62, .getfield 27, 3), (65, .iload_n 1, 1), (66, .aaload, 1), (67, .getfield 123, 3), (70, .iload_n 2, 1), (71, .aaload, 1), (72, .iload 4, 2), (74, .putfield 132, 3), (77, .iconst 0, 1), (78, .ireturn, 1)]
set_option maxRecDepth 20000 in
theorem dn_195_0_1_ok : dn_195_0_1.all (fun q => decide (decode (xm_b n_195) q.1 = .ok (q.2.1, q.2.2))) = true := xa_g_ok (by decide +kernel)
def te_195_0 : Nat → eE := (e_T 16 (e_T 6 (e_T 1 (e_T 0 (e_L 0 (0, ei_load 0 2 1, 0, 0)) (e_L 1 (0, ei_load 1 0 2, 0, 0))) (e_T 2 (e_L 2 (0, ei_load 2 0 3, 0, 0)) (e_T 3 (e_L 3 (2, e_nof, 247, 3)) (e_L 6 (0, ei_if1 1 11 9, 0, 0))))) (e_T 11 (e_T 9 (e_L 9 (0, ei_push (0, (-1)) 10, 0, 0)) (e_T 10 (e_L 10 (1, e_nof, 1, 0)) (e_L 11 (0, ei_load 3 0 12, 0, 0)))) (e_T 12 (e_L 12 (0, ei_push (0, 1) 13, 0, 0)) (e_T 13 (e_L 13 (0, ei_push (0, 2000) 16, 0, 0)) (e_L 16 (2, e_nof, 242, 3)))))) (e_T 28 (e_T 22 (e_T 19 (e_L 19 (0, ei_if1 0 34 22, 0, 0)) (e_L 22 (0, ei_load 4 0 24, 0, 0))) (e_T 24 (e_L 24 (0, ei_push (0, 1) 25, 0, 0)) (e_T 25 (e_L 25 (0, ei_push (0, 2000) 28, 0, 0)) (e_L 28 (2, e_nof, 242, 3))))) (e_T 35 (e_T 31 (e_L 31 (0, ei_if1 1 36 34, 0, 0)) (e_T 34 (e_L 34 (0, ei_push (0, (-1)) 35, 0, 0)) (e_L 35 (1, e_nof, 1, 0)))) (e_T 36 (e_L 36 (0, ei_load 0 2 37, 0, 0)) (e_T 37 (e_L 37 (0, ei_getf eft elay 11 13 40, 0, 0)) (e_L 40 (0, ei_if1 0 46 43, 0, 0)))))))
set_option maxRecDepth 20000 in
set_option maxHeartbeats 4000000 in
theorem te_195_0_ok : ∀ pc, e_EOq eft cls elay eI n_195 pc (te_195_0 pc) :=
  (e_Tok2
  (e_Tok2
  (e_Tok2
  (e_Tok2
  (e_Lok (ld_aload_n_0 (x_dk dn_195_0_0_ok 0 rfl)))
  (e_Lok (ld_iload_n_1 (x_dk dn_195_0_0_ok 1 rfl))))
  (e_Tok2
  (e_Lok (ld_iload_n_2 (x_dk dn_195_0_0_ok 2 rfl)))
  (e_Tok2
  (e_Lok (lk_11_119 ho_195 (x_dk dn_195_0_0_ok 3 rfl)))
  (e_Lok (e_st (I := eI) (er_ifne (off := 5) (tg := 11) (x_dk dn_195_0_0_ok 4 rfl) (by decide)) nx_if1)))))
  (e_Tok2
  (e_Tok2
  (e_Lok (ps_iconst_m1 (x_dk dn_195_0_0_ok 5 rfl)))
  (e_Tok2
  (e_Lok (e_rt (I := eI) (k := 1) ⟨(x_dk dn_195_0_0_ok 6 rfl), rfl⟩))
  (e_Lok (ld_iload_n_3 (x_dk dn_195_0_0_ok 7 rfl)))))
  (e_Tok2
  (e_Lok (ps_iconst_1 (x_dk dn_195_0_0_ok 8 rfl)))
  (e_Tok2
  (e_Lok (ps_sipush_2000 (x_dk dn_195_0_0_ok 9 rfl)))
  (e_Lok (lk_11_82 ho_195 (x_dk dn_195_0_0_ok 10 rfl)))))))
  (e_Tok2
  (e_Tok2
  (e_Tok2
  (e_Lok (e_st (I := eI) (er_ifeq (off := 15) (tg := 34) (x_dk dn_195_0_0_ok 11 rfl) (by decide)) nx_if1))
  (e_Lok (ld_iload_4 (x_dk dn_195_0_0_ok 12 rfl))))
  (e_Tok2
  (e_Lok (ps_iconst_1 (x_dk dn_195_0_0_ok 13 rfl)))
  (e_Tok2
  (e_Lok (ps_sipush_2000 (x_dk dn_195_0_0_ok 14 rfl)))
  (e_Lok (lk_11_82 ho_195 (x_dk dn_195_0_0_ok 15 rfl))))))
  (e_Tok2
  (e_Tok2
  (e_Lok (e_st (I := eI) (er_ifne (off := 5) (tg := 36) (x_dk dn_195_0_0_ok 16 rfl) (by decide)) nx_if1))
  (e_Tok2
  (e_Lok (ps_iconst_m1 (x_dk dn_195_0_0_ok 17 rfl)))
  (e_Lok (e_rt (I := eI) (k := 1) ⟨(x_dk dn_195_0_0_ok 18 rfl), rfl⟩))))
  (e_Tok2
  (e_Lok (ld_aload_n_0 (x_dk dn_195_0_0_ok 19 rfl)))
  (e_Tok2
  (e_Lok (lk_11_91g ho_195 (x_dk dn_195_0_0_ok 20 rfl)))
  (e_Lok (e_st (I := eI) (er_ifeq (off := 6) (tg := 46) (x_dk dn_195_0_0_ok 21 rfl) (by decide)) nx_if1)))))))
def te_195_22 : Nat → eE := (e_T 58 (e_T 50 (e_T 45 (e_T 43 (e_L 43 (0, ei_push (0, (-2)) 45, 0, 0)) (e_L 45 (1, e_nof, 1, 0))) (e_T 46 (e_L 46 (0, ei_load 0 2 47, 0, 0)) (e_T 47 (e_L 47 (0, ei_getf eft elay 11 2 50, 0, 0)) (e_L 50 (0, ei_load 1 0 51, 0, 0))))) (e_T 55 (e_T 51 (e_L 51 (0, ei_aald elay 52, 0, 0)) (e_T 52 (e_L 52 (0, ei_getf eft elay 0 0 55, 0, 0)) (e_L 55 (0, ei_load 2 0 56, 0, 0)))) (e_T 56 (e_L 56 (0, ei_aald elay 57, 0, 0)) (e_T 57 (e_L 57 (0, ei_load 3 0 58, 0, 0)) (e_L 58 (0, ei_putf eft elay 5 5 0 61, 0, 0)))))) (e_T 67 (e_T 62 (e_T 61 (e_L 61 (0, ei_load 0 2 62, 0, 0)) (e_L 62 (0, ei_getf eft elay 11 2 65, 0, 0))) (e_T 65 (e_L 65 (0, ei_load 1 0 66, 0, 0)) (e_T 66 (e_L 66 (0, ei_aald elay 67, 0, 0)) (e_L 67 (0, ei_getf eft elay 0 0 70, 0, 0))))) (e_T 72 (e_T 70 (e_L 70 (0, ei_load 2 0 71, 0, 0)) (e_T 71 (e_L 71 (0, ei_aald elay 72, 0, 0)) (e_L 72 (0, ei_load 4 0 74, 0, 0)))) (e_T 74 (e_L 74 (0, ei_putf eft elay 5 6 0 77, 0, 0)) (e_T 77 (e_L 77 (0, ei_push (0, 0) 78, 0, 0)) (e_L 78 (1, e_nof, 1, 0)))))))
set_option maxRecDepth 20000 in
set_option maxHeartbeats 4000000 in
theorem te_195_22_ok : ∀ pc, e_EOq eft cls elay eI n_195 pc (te_195_22 pc) :=
  (e_Tok2
  (e_Tok2
  (e_Tok2
  (e_Tok2
  (e_Lok (ps_bipush_m2 (x_dk dn_195_0_0_ok 22 rfl)))
  (e_Lok (e_rt (I := eI) (k := 1) ⟨(x_dk dn_195_0_0_ok 23 rfl), rfl⟩)))
  (e_Tok2
  (e_Lok (ld_aload_n_0 (x_dk dn_195_0_0_ok 24 rfl)))
  (e_Tok2
  (e_Lok (lk_11_27g ho_195 (x_dk dn_195_0_1_ok 0 rfl)))
  (e_Lok (ld_iload_n_1 (x_dk dn_195_0_1_ok 1 rfl))))))
  (e_Tok2
  (e_Tok2
  (e_Lok (e_st (I := eI) (er_aaload (x_dk dn_195_0_1_ok 2 rfl)) nx_aald))
  (e_Tok2
  (e_Lok (lk_11_123g ho_195 (x_dk dn_195_0_1_ok 3 rfl)))
  (e_Lok (ld_iload_n_2 (x_dk dn_195_0_1_ok 4 rfl)))))
  (e_Tok2
  (e_Lok (e_st (I := eI) (er_aaload (x_dk dn_195_0_1_ok 5 rfl)) nx_aald))
  (e_Tok2
  (e_Lok (ld_iload_n_3 (x_dk dn_195_0_1_ok 6 rfl)))
  (e_Lok (lk_11_127p ho_195 (x_dk dn_195_0_1_ok 7 rfl)))))))
  (e_Tok2
  (e_Tok2
  (e_Tok2
  (e_Lok (ld_aload_n_0 (x_dk dn_195_0_1_ok 8 rfl)))
  (e_Lok (lk_11_27g ho_195 (x_dk dn_195_0_1_ok 9 rfl))))
  (e_Tok2
  (e_Lok (ld_iload_n_1 (x_dk dn_195_0_1_ok 10 rfl)))
  (e_Tok2
  (e_Lok (e_st (I := eI) (er_aaload (x_dk dn_195_0_1_ok 11 rfl)) nx_aald))
  (e_Lok (lk_11_123g ho_195 (x_dk dn_195_0_1_ok 12 rfl))))))
  (e_Tok2
  (e_Tok2
  (e_Lok (ld_iload_n_2 (x_dk dn_195_0_1_ok 13 rfl)))
  (e_Tok2
  (e_Lok (e_st (I := eI) (er_aaload (x_dk dn_195_0_1_ok 14 rfl)) nx_aald))
  (e_Lok (ld_iload_4 (x_dk dn_195_0_1_ok 15 rfl)))))
  (e_Tok2
  (e_Lok (lk_11_132p ho_195 (x_dk dn_195_0_1_ok 16 rfl)))
  (e_Tok2
  (e_Lok (ps_iconst_0 (x_dk dn_195_0_1_ok 17 rfl)))
  (e_Lok (e_rt (I := eI) (k := 1) ⟨(x_dk dn_195_0_1_ok 18 rfl), rfl⟩)))))))
def te_195 : Nat → eE := (e_T 40 te_195_0 te_195_22)
theorem te_195_ok : ∀ pc, e_EOq eft cls elay eI n_195 pc (te_195 pc) := (e_Tok2 (te_195_0_ok) (te_195_22_ok))
theorem ho_196 : (xm_y n_196).cls = "RobotCellHouse" := rfl
def dn_196_0_0 : List (Nat × Instr × Nat) := [(0, .aload_n 0, 1), (1, .iload_n 1, 1), (2, .iload_n 2, 1), (3, .invokevirtual 119, 3), (6, .ifCond .eq 14, 3), (9, .iload_n 3, 1), (10, .iconst 0, 1), (11, .sipush 800, 3), (14, .invokestatic 82, 3), (17, .ifCond .ne 5, 3), (20, .iconst (-1), 1), (21, .ireturn, 1), (22, .aload_n 0, 1), (23, .getfield 91, 3), (26, .ifCond .eq 6, 3), (29, .bipush (-2), 2), (31, .ireturn, 1), (32, .aload_n 0, 1), (33, .getfield 27, 3), (36, .iload_n 1, 1), (37, .aaload, 1), (38, .getfield 123, 3), (41, .iload_n 2, 1), (42, .aaload, 1), (43, .getfield 135, 3)]
set_option maxRecDepth 20000 in
theorem dn_196_0_0_ok : dn_196_0_0.all (fun q => decide (decode (xm_b n_196) q.1 = .ok (q.2.1, q.2.2))) = true := xa_g_ok (by decide +kernel)
def dn_196_0_1 : List (Nat × Instr × Nat) := [(46, .istore 4, 2), (48, .aload_n 0, 1), (49, .getfield 27, 3), (52, .iload_n 1, 1), (53, .aaload, 1), (54, .getfield 123, 3), (57, .iload_n 2, 1), (58, .aaload, 1), (59, .iload_n 3, 1), (60, .putfield 135, 3), (63, .iload 4, 2), (65, .ireturn, 1)]
set_option maxRecDepth 20000 in
theorem dn_196_0_1_ok : dn_196_0_1.all (fun q => decide (decode (xm_b n_196) q.1 = .ok (q.2.1, q.2.2))) = true := xa_g_ok (by decide +kernel)
def te_196_0 : Nat → eE := (e_T 32 (e_T 14 (e_T 3 (e_T 1 (e_T 0 (e_L 0 (0, ei_load 0 2 1, 0, 0)) (e_L 1 (0, ei_load 1 0 2, 0, 0))) (e_T 2 (e_L 2 (0, ei_load 2 0 3, 0, 0)) (e_L 3 (2, e_nof, 247, 3)))) (e_T 9 (e_T 6 (e_L 6 (0, ei_if1 0 20 9, 0, 0)) (e_L 9 (0, ei_load 3 0 10, 0, 0))) (e_T 10 (e_L 10 (0, ei_push (0, 0) 11, 0, 0)) (e_T 11 (e_L 11 (0, ei_push (0, 800) 14, 0, 0)) (e_L 14 (2, e_nof, 242, 3)))))) (e_T 22 (e_T 20 (e_T 17 (e_L 17 (0, ei_if1 1 22 20, 0, 0)) (e_L 20 (0, ei_push (0, (-1)) 21, 0, 0))) (e_T 21 (e_L 21 (1, e_nof, 1, 0)) (e_L 22 (0, ei_load 0 2 23, 0, 0)))) (e_T 26 (e_T 23 (e_L 23 (0, ei_getf eft elay 11 13 26, 0, 0)) (e_L 26 (0, ei_if1 0 32 29, 0, 0))) (e_T 29 (e_L 29 (0, ei_push (0, (-2)) 31, 0, 0)) (e_T 31 (e_L 31 (1, e_nof, 1, 0)) (e_L 32 (0, ei_load 0 2 33, 0, 0))))))) (e_T 48 (e_T 38 (e_T 36 (e_T 33 (e_L 33 (0, ei_getf eft elay 11 2 36, 0, 0)) (e_L 36 (0, ei_load 1 0 37, 0, 0))) (e_T 37 (e_L 37 (0, ei_aald elay 38, 0, 0)) (e_L 38 (0, ei_getf eft elay 0 0 41, 0, 0)))) (e_T 42 (e_T 41 (e_L 41 (0, ei_load 2 0 42, 0, 0)) (e_L 42 (0, ei_aald elay 43, 0, 0))) (e_T 43 (e_L 43 (0, ei_getf eft elay 5 4 46, 0, 0)) (e_T 46 (e_L 46 (0, ei_stor 4 0 48, 0, 0)) (e_L 48 (0, ei_load 0 2 49, 0, 0)))))) (e_T 57 (e_T 52 (e_T 49 (e_L 49 (0, ei_getf eft elay 11 2 52, 0, 0)) (e_L 52 (0, ei_load 1 0 53, 0, 0))) (e_T 53 (e_L 53 (0, ei_aald elay 54, 0, 0)) (e_T 54 (e_L 54 (0, ei_getf eft elay 0 0 57, 0, 0)) (e_L 57 (0, ei_load 2 0 58, 0, 0))))) (e_T 59 (e_T 58 (e_L 58 (0, ei_aald elay 59, 0, 0)) (e_L 59 (0, ei_load 3 0 60, 0, 0))) (e_T 60 (e_L 60 (0, ei_putf eft elay 5 4 0 63, 0, 0)) (e_T 63 (e_L 63 (0, ei_load 4 0 65, 0, 0)) (e_L 65 (1, e_nof, 1, 0))))))))
set_option maxRecDepth 20000 in
set_option maxHeartbeats 4000000 in
theorem te_196_0_ok : ∀ pc, e_EOq eft cls elay eI n_196 pc (te_196_0 pc) :=
  (e_Tok2
  (e_Tok2
  (e_Tok2
  (e_Tok2
  (e_Tok2
  (e_Lok (ld_aload_n_0 (x_dk dn_196_0_0_ok 0 rfl)))
  (e_Lok (ld_iload_n_1 (x_dk dn_196_0_0_ok 1 rfl))))
  (e_Tok2
  (e_Lok (ld_iload_n_2 (x_dk dn_196_0_0_ok 2 rfl)))
  (e_Lok (lk_11_119 ho_196 (x_dk dn_196_0_0_ok 3 rfl)))))
  (e_Tok2
  (e_Tok2
  (e_Lok (e_st (I := eI) (er_ifeq (off := 14) (tg := 20) (x_dk dn_196_0_0_ok 4 rfl) (by decide)) nx_if1))
  (e_Lok (ld_iload_n_3 (x_dk dn_196_0_0_ok 5 rfl))))
  (e_Tok2
  (e_Lok (ps_iconst_0 (x_dk dn_196_0_0_ok 6 rfl)))
  (e_Tok2
  (e_Lok (ps_sipush_800 (x_dk dn_196_0_0_ok 7 rfl)))
  (e_Lok (lk_11_82 ho_196 (x_dk dn_196_0_0_ok 8 rfl)))))))
  (e_Tok2
  (e_Tok2
  (e_Tok2
  (e_Lok (e_st (I := eI) (er_ifne (off := 5) (tg := 22) (x_dk dn_196_0_0_ok 9 rfl) (by decide)) nx_if1))
  (e_Lok (ps_iconst_m1 (x_dk dn_196_0_0_ok 10 rfl))))
  (e_Tok2
  (e_Lok (e_rt (I := eI) (k := 1) ⟨(x_dk dn_196_0_0_ok 11 rfl), rfl⟩))
  (e_Lok (ld_aload_n_0 (x_dk dn_196_0_0_ok 12 rfl)))))
  (e_Tok2
  (e_Tok2
  (e_Lok (lk_11_91g ho_196 (x_dk dn_196_0_0_ok 13 rfl)))
  (e_Lok (e_st (I := eI) (er_ifeq (off := 6) (tg := 32) (x_dk dn_196_0_0_ok 14 rfl) (by decide)) nx_if1)))
  (e_Tok2
  (e_Lok (ps_bipush_m2 (x_dk dn_196_0_0_ok 15 rfl)))
  (e_Tok2
  (e_Lok (e_rt (I := eI) (k := 1) ⟨(x_dk dn_196_0_0_ok 16 rfl), rfl⟩))
  (e_Lok (ld_aload_n_0 (x_dk dn_196_0_0_ok 17 rfl))))))))
  (e_Tok2
  (e_Tok2
  (e_Tok2
  (e_Tok2
  (e_Lok (lk_11_27g ho_196 (x_dk dn_196_0_0_ok 18 rfl)))
  (e_Lok (ld_iload_n_1 (x_dk dn_196_0_0_ok 19 rfl))))
  (e_Tok2
  (e_Lok (e_st (I := eI) (er_aaload (x_dk dn_196_0_0_ok 20 rfl)) nx_aald))
  (e_Lok (lk_11_123g ho_196 (x_dk dn_196_0_0_ok 21 rfl)))))
  (e_Tok2
  (e_Tok2
  (e_Lok (ld_iload_n_2 (x_dk dn_196_0_0_ok 22 rfl)))
  (e_Lok (e_st (I := eI) (er_aaload (x_dk dn_196_0_0_ok 23 rfl)) nx_aald)))
  (e_Tok2
  (e_Lok (lk_11_135g ho_196 (x_dk dn_196_0_0_ok 24 rfl)))
  (e_Tok2
  (e_Lok (e_st (I := eI) (er_istore (i := 4) (x_dk dn_196_0_1_ok 0 rfl) (by decide +kernel)) nx_stor))
  (e_Lok (ld_aload_n_0 (x_dk dn_196_0_1_ok 1 rfl)))))))
  (e_Tok2
  (e_Tok2
  (e_Tok2
  (e_Lok (lk_11_27g ho_196 (x_dk dn_196_0_1_ok 2 rfl)))
  (e_Lok (ld_iload_n_1 (x_dk dn_196_0_1_ok 3 rfl))))
  (e_Tok2
  (e_Lok (e_st (I := eI) (er_aaload (x_dk dn_196_0_1_ok 4 rfl)) nx_aald))
  (e_Tok2
  (e_Lok (lk_11_123g ho_196 (x_dk dn_196_0_1_ok 5 rfl)))
  (e_Lok (ld_iload_n_2 (x_dk dn_196_0_1_ok 6 rfl))))))
  (e_Tok2
  (e_Tok2
  (e_Lok (e_st (I := eI) (er_aaload (x_dk dn_196_0_1_ok 7 rfl)) nx_aald))
  (e_Lok (ld_iload_n_3 (x_dk dn_196_0_1_ok 8 rfl))))
  (e_Tok2
  (e_Lok (lk_11_135p ho_196 (x_dk dn_196_0_1_ok 9 rfl)))
  (e_Tok2
  (e_Lok (ld_iload_4 (x_dk dn_196_0_1_ok 10 rfl)))
  (e_Lok (e_rt (I := eI) (k := 1) ⟨(x_dk dn_196_0_1_ok 11 rfl), rfl⟩))))))))
def te_196 : Nat → eE := te_196_0
theorem te_196_ok : ∀ pc, e_EOq eft cls elay eI n_196 pc (te_196 pc) := te_196_0_ok
theorem ho_197 : (xm_y n_197).cls = "RobotCellHouse" := rfl
def dn_197_0_0 : List (Nat × Instr × Nat) := [(0, .iload_n 1, 1), (1, .iload_n 2, 1), (2, .invokestatic 138, 3), (5, .ifCond .eq 14, 3), (8, .iload_n 3, 1), (9, .iconst 0, 1), (10, .sipush 8000, 3), (13, .invokestatic 82, 3), (16, .ifCond .ne 5, 3), (19, .iconst (-1), 1), (20, .ireturn, 1), (21, .aload_n 0, 1), (22, .getfield 91, 3), (25, .ifCond .eq 6, 3), (28, .bipush (-2), 2), (30, .ireturn, 1), (31, .aload_n 0, 1), (32, .getfield 46, 3), (35, .iload_n 1, 1), (36, .iload_n 2, 1), (37, .iconst 0, 1), (38, .iconst 0, 1), (39, .iload_n 3, 1), (40, .invokevirtual 141, 3), (43, .ireturn, 1)]
set_option maxRecDepth 20000 in
theorem dn_197_0_0_ok : dn_197_0_0.all (fun q => decide (decode (xm_b n_197) q.1 = .ok (q.2.1, q.2.2))) = true := xa_g_ok (by decide +kernel)
def te_197_0 : Nat → eE := (e_T 21 (e_T 9 (e_T 2 (e_T 0 (e_L 0 (0, ei_load 1 0 1, 0, 0)) (e_T 1 (e_L 1 (0, ei_load 2 0 2, 0, 0)) (e_L 2 (2, e_nof, 243, 2)))) (e_T 5 (e_L 5 (0, ei_if1 0 19 8, 0, 0)) (e_T 8 (e_L 8 (0, ei_load 3 0 9, 0, 0)) (e_L 9 (0, ei_push (0, 0) 10, 0, 0))))) (e_T 16 (e_T 10 (e_L 10 (0, ei_push (0, 8000) 13, 0, 0)) (e_T 13 (e_L 13 (2, e_nof, 242, 3)) (e_L 16 (0, ei_if1 1 21 19, 0, 0)))) (e_T 19 (e_L 19 (0, ei_push (0, (-1)) 20, 0, 0)) (e_T 20 (e_L 20 (1, e_nof, 1, 0)) (e_L 21 (0, ei_load 0 2 22, 0, 0)))))) (e_T 32 (e_T 28 (e_T 22 (e_L 22 (0, ei_getf eft elay 11 13 25, 0, 0)) (e_T 25 (e_L 25 (0, ei_if1 0 31 28, 0, 0)) (e_L 28 (0, ei_push (0, (-2)) 30, 0, 0)))) (e_T 30 (e_L 30 (1, e_nof, 1, 0)) (e_T 31 (e_L 31 (0, ei_load 0 2 32, 0, 0)) (e_L 32 (0, ei_getf eft elay 11 6 35, 0, 0))))) (e_T 37 (e_T 35 (e_L 35 (0, ei_load 1 0 36, 0, 0)) (e_T 36 (e_L 36 (0, ei_load 2 0 37, 0, 0)) (e_L 37 (0, ei_push (0, 0) 38, 0, 0)))) (e_T 39 (e_T 38 (e_L 38 (0, ei_push (0, 0) 39, 0, 0)) (e_L 39 (0, ei_load 3 0 40, 0, 0))) (e_T 40 (e_L 40 (2, e_nof, 167, 6)) (e_L 43 (1, e_nof, 1, 0)))))))
set_option maxRecDepth 20000 in
set_option maxHeartbeats 4000000 in
theorem te_197_0_ok : ∀ pc, e_EOq eft cls elay eI n_197 pc (te_197_0 pc) :=
  (e_Tok2
  (e_Tok2
  (e_Tok2
  (e_Tok2
  (e_Lok (ld_iload_n_1 (x_dk dn_197_0_0_ok 0 rfl)))
  (e_Tok2
  (e_Lok (ld_iload_n_2 (x_dk dn_197_0_0_ok 1 rfl)))
  (e_Lok (lk_11_138 ho_197 (x_dk dn_197_0_0_ok 2 rfl)))))
  (e_Tok2
  (e_Lok (e_st (I := eI) (er_ifeq (off := 14) (tg := 19) (x_dk dn_197_0_0_ok 3 rfl) (by decide)) nx_if1))
  (e_Tok2
  (e_Lok (ld_iload_n_3 (x_dk dn_197_0_0_ok 4 rfl)))
  (e_Lok (ps_iconst_0 (x_dk dn_197_0_0_ok 5 rfl))))))
  (e_Tok2
  (e_Tok2
  (e_Lok (ps_sipush_8000 (x_dk dn_197_0_0_ok 6 rfl)))
  (e_Tok2
  (e_Lok (lk_11_82 ho_197 (x_dk dn_197_0_0_ok 7 rfl)))
  (e_Lok (e_st (I := eI) (er_ifne (off := 5) (tg := 21) (x_dk dn_197_0_0_ok 8 rfl) (by decide)) nx_if1))))
  (e_Tok2
  (e_Lok (ps_iconst_m1 (x_dk dn_197_0_0_ok 9 rfl)))
  (e_Tok2
  (e_Lok (e_rt (I := eI) (k := 1) ⟨(x_dk dn_197_0_0_ok 10 rfl), rfl⟩))
  (e_Lok (ld_aload_n_0 (x_dk dn_197_0_0_ok 11 rfl)))))))
  (e_Tok2
  (e_Tok2
  (e_Tok2
  (e_Lok (lk_11_91g ho_197 (x_dk dn_197_0_0_ok 12 rfl)))
  (e_Tok2
  (e_Lok (e_st (I := eI) (er_ifeq (off := 6) (tg := 31) (x_dk dn_197_0_0_ok 13 rfl) (by decide)) nx_if1))
  (e_Lok (ps_bipush_m2 (x_dk dn_197_0_0_ok 14 rfl)))))
  (e_Tok2
  (e_Lok (e_rt (I := eI) (k := 1) ⟨(x_dk dn_197_0_0_ok 15 rfl), rfl⟩))
  (e_Tok2
  (e_Lok (ld_aload_n_0 (x_dk dn_197_0_0_ok 16 rfl)))
  (e_Lok (lk_11_46g ho_197 (x_dk dn_197_0_0_ok 17 rfl))))))
  (e_Tok2
  (e_Tok2
  (e_Lok (ld_iload_n_1 (x_dk dn_197_0_0_ok 18 rfl)))
  (e_Tok2
  (e_Lok (ld_iload_n_2 (x_dk dn_197_0_0_ok 19 rfl)))
  (e_Lok (ps_iconst_0 (x_dk dn_197_0_0_ok 20 rfl)))))
  (e_Tok2
  (e_Tok2
  (e_Lok (ps_iconst_0 (x_dk dn_197_0_0_ok 21 rfl)))
  (e_Lok (ld_iload_n_3 (x_dk dn_197_0_0_ok 22 rfl))))
  (e_Tok2
  (e_Lok (lk_11_141 ho_197 (x_dk dn_197_0_0_ok 23 rfl)))
  (e_Lok (e_rt (I := eI) (k := 1) ⟨(x_dk dn_197_0_0_ok 24 rfl), rfl⟩)))))))
def te_197 : Nat → eE := te_197_0
theorem te_197_ok : ∀ pc, e_EOq eft cls elay eI n_197 pc (te_197 pc) := te_197_0_ok
theorem ho_198 : (xm_y n_198).cls = "RobotCellHouse" := rfl
def dn_198_0_0 : List (Nat × Instr × Nat) := [(0, .iload_n 1, 1), (1, .iload_n 2, 1), (2, .iload_n 3, 1), (3, .iload 4, 2), (5, .invokestatic 145, 3), (8, .ifCond .ne 5, 3), (11, .iconst (-1), 1), (12, .ireturn, 1), (13, .aload_n 0, 1), (14, .getfield 91, 3), (17, .ifCond .eq 6, 3), (20, .bipush (-2), 2), (22, .ireturn, 1), (23, .aload_n 0, 1), (24, .getfield 46, 3), (27, .iload_n 1, 1), (28, .iload_n 2, 1), (29, .iload_n 3, 1), (30, .iload 4, 2), (32, .iconst (-1), 1), (33, .invokevirtual 141, 3), (36, .ireturn, 1)]
set_option maxRecDepth 20000 in
theorem dn_198_0_0_ok : dn_198_0_0.all (fun q => decide (decode (xm_b n_198) q.1 = .ok (q.2.1, q.2.2))) = true := xa_g_ok (by decide +kernel)
def te_198_0 : Nat → eE := (e_T 17 (e_T 5 (e_T 1 (e_T 0 (e_L 0 (0, ei_load 1 0 1, 0, 0)) (e_L 1 (0, ei_load 2 0 2, 0, 0))) (e_T 2 (e_L 2 (0, ei_load 3 0 3, 0, 0)) (e_T 3 (e_L 3 (0, ei_load 4 0 5, 0, 0)) (e_L 5 (2, e_nof, 244, 4))))) (e_T 12 (e_T 8 (e_L 8 (0, ei_if1 1 13 11, 0, 0)) (e_T 11 (e_L 11 (0, ei_push (0, (-1)) 12, 0, 0)) (e_L 12 (1, e_nof, 1, 0)))) (e_T 13 (e_L 13 (0, ei_load 0 2 14, 0, 0)) (e_T 14 (e_L 14 (0, ei_getf eft elay 11 13 17, 0, 0)) (e_L 17 (0, ei_if1 0 23 20, 0, 0)))))) (e_T 27 (e_T 22 (e_T 20 (e_L 20 (0, ei_push (0, (-2)) 22, 0, 0)) (e_L 22 (1, e_nof, 1, 0))) (e_T 23 (e_L 23 (0, ei_load 0 2 24, 0, 0)) (e_T 24 (e_L 24 (0, ei_getf eft elay 11 6 27, 0, 0)) (e_L 27 (0, ei_load 1 0 28, 0, 0))))) (e_T 30 (e_T 28 (e_L 28 (0, ei_load 2 0 29, 0, 0)) (e_T 29 (e_L 29 (0, ei_load 3 0 30, 0, 0)) (e_L 30 (0, ei_load 4 0 32, 0, 0)))) (e_T 32 (e_L 32 (0, ei_push (0, (-1)) 33, 0, 0)) (e_T 33 (e_L 33 (2, e_nof, 167, 6)) (e_L 36 (1, e_nof, 1, 0)))))))
set_option maxRecDepth 20000 in
set_option maxHeartbeats 4000000 in
theorem te_198_0_ok : ∀ pc, e_EOq eft cls elay eI n_198 pc (te_198_0 pc) :=
  (e_Tok2
  (e_Tok2
  (e_Tok2
  (e_Tok2
  (e_Lok (ld_iload_n_1 (x_dk dn_198_0_0_ok 0 rfl)))
  (e_Lok (ld_iload_n_2 (x_dk dn_198_0_0_ok 1 rfl))))
  (e_Tok2
  (e_Lok (ld_iload_n_3 (x_dk dn_198_0_0_ok 2 rfl)))
  (e_Tok2
  (e_Lok (ld_iload_4 (x_dk dn_198_0_0_ok 3 rfl)))
  (e_Lok (lk_11_145 ho_198 (x_dk dn_198_0_0_ok 4 rfl))))))
  (e_Tok2
  (e_Tok2
  (e_Lok (e_st (I := eI) (er_ifne (off := 5) (tg := 13) (x_dk dn_198_0_0_ok 5 rfl) (by decide)) nx_if1))
  (e_Tok2
  (e_Lok (ps_iconst_m1 (x_dk dn_198_0_0_ok 6 rfl)))
  (e_Lok (e_rt (I := eI) (k := 1) ⟨(x_dk dn_198_0_0_ok 7 rfl), rfl⟩))))
  (e_Tok2
  (e_Lok (ld_aload_n_0 (x_dk dn_198_0_0_ok 8 rfl)))
  (e_Tok2
  (e_Lok (lk_11_91g ho_198 (x_dk dn_198_0_0_ok 9 rfl)))
  (e_Lok (e_st (I := eI) (er_ifeq (off := 6) (tg := 23) (x_dk dn_198_0_0_ok 10 rfl) (by decide)) nx_if1))))))
  (e_Tok2
  (e_Tok2
  (e_Tok2
  (e_Lok (ps_bipush_m2 (x_dk dn_198_0_0_ok 11 rfl)))
  (e_Lok (e_rt (I := eI) (k := 1) ⟨(x_dk dn_198_0_0_ok 12 rfl), rfl⟩)))
  (e_Tok2
  (e_Lok (ld_aload_n_0 (x_dk dn_198_0_0_ok 13 rfl)))
  (e_Tok2
  (e_Lok (lk_11_46g ho_198 (x_dk dn_198_0_0_ok 14 rfl)))
  (e_Lok (ld_iload_n_1 (x_dk dn_198_0_0_ok 15 rfl))))))
  (e_Tok2
  (e_Tok2
  (e_Lok (ld_iload_n_2 (x_dk dn_198_0_0_ok 16 rfl)))
  (e_Tok2
  (e_Lok (ld_iload_n_3 (x_dk dn_198_0_0_ok 17 rfl)))
  (e_Lok (ld_iload_4 (x_dk dn_198_0_0_ok 18 rfl)))))
  (e_Tok2
  (e_Lok (ps_iconst_m1 (x_dk dn_198_0_0_ok 19 rfl)))
  (e_Tok2
  (e_Lok (lk_11_141 ho_198 (x_dk dn_198_0_0_ok 20 rfl)))
  (e_Lok (e_rt (I := eI) (k := 1) ⟨(x_dk dn_198_0_0_ok 21 rfl), rfl⟩)))))))
def te_198 : Nat → eE := te_198_0
theorem te_198_ok : ∀ pc, e_EOq eft cls elay eI n_198 pc (te_198 pc) := te_198_0_ok
theorem ho_199 : (xm_y n_199).cls = "RobotCellHouse" := rfl
def dn_199_0_0 : List (Nat × Instr × Nat) := [(0, .aload_n 0, 1), (1, .iload_n 1, 1), (2, .invokevirtual 103, 3), (5, .ifCond .eq 13, 3), (8, .iload_n 2, 1), (9, .iconst 0, 1), (10, .bipush 6, 2), (12, .invokestatic 82, 3), (15, .ifCond .ne 5, 3), (18, .iconst (-1), 1), (19, .ireturn, 1), (20, .iload_n 3, 1), (21, .iconst 0, 1), (22, .aload_n 0, 1), (23, .getfield 46, 3), (26, .getfield 149, 3), (29, .iconst 1, 1), (30, .isub, 1), (31, .invokestatic 82, 3), (34, .ifCond .ne 5, 3), (37, .iconst (-1), 1), (38, .ireturn, 1), (39, .aload_n 0, 1), (40, .getfield 91, 3), (43, .ifCond .eq 6, 3)]
set_option maxRecDepth 20000 in
theorem dn_199_0_0_ok : dn_199_0_0.all (fun q => decide (decode (xm_b n_199) q.1 = .ok (q.2.1, q.2.2))) = true := xa_g_ok (by decide +kernel)
def dn_199_0_1 : List (Nat × Instr × Nat) := [(46, .bipush (-2), 2), (48, .ireturn, 1), (49, .aload_n 0, 1), (50, .getfield 27, 3), (53, .iload_n 1, 1), (54, .aaload, 1), (55, .iload_n 2, 1), (56, .iload_n 3, 1), (57, .invokevirtual 152, 3), (60, .ifCond .eq 5, 3), (63, .iconst 0, 1), (64, .ireturn, 1), (65, .aload_n 0, 1), (66, .getfield 27, 3), (69, .iload_n 1, 1), (70, .aaload, 1), (71, .getfield 155, 3), (74, .iload_n 2, 1), (75, .dup2, 1), (76, .iaload, 1), (77, .iconst 1, 1), (78, .iload_n 3, 1), (79, .ishl, 1), (80, .ior, 1), (81, .iastore, 1)]
set_option maxRecDepth 20000 in
theorem dn_199_0_1_ok : dn_199_0_1.all (fun q => decide (decode (xm_b n_199) q.1 = .ok (q.2.1, q.2.2))) = true := xa_g_ok (by decide +kernel)
def dn_199_0_2 : List (Nat × Instr × Nat) := [(82, .iconst 1, 1), (83, .ireturn, 1)]
set_option maxRecDepth 20000 in
theorem dn_199_0_2_ok : dn_199_0_2.all (fun q => decide (decode (xm_b n_199) q.1 = .ok (q.2.1, q.2.2))) = true := xa_g_ok (by decide +kernel)
def te_199_0 : Nat → eE := (e_T 21 (e_T 9 (e_T 2 (e_T 0 (e_L 0 (0, ei_load 0 2 1, 0, 0)) (e_T 1 (e_L 1 (0, ei_load 1 0 2, 0, 0)) (e_L 2 (2, e_nof, 246, 2)))) (e_T 5 (e_L 5 (0, ei_if1 0 18 8, 0, 0)) (e_T 8 (e_L 8 (0, ei_load 2 0 9, 0, 0)) (e_L 9 (0, ei_push (0, 0) 10, 0, 0))))) (e_T 15 (e_T 10 (e_L 10 (0, ei_push (0, 6) 12, 0, 0)) (e_T 12 (e_L 12 (2, e_nof, 242, 3)) (e_L 15 (0, ei_if1 1 20 18, 0, 0)))) (e_T 19 (e_T 18 (e_L 18 (0, ei_push (0, (-1)) 19, 0, 0)) (e_L 19 (1, e_nof, 1, 0))) (e_T 20 (e_L 20 (0, ei_load 3 0 21, 0, 0)) (e_L 21 (0, ei_push (0, 0) 22, 0, 0)))))) (e_T 31 (e_T 26 (e_T 22 (e_L 22 (0, ei_load 0 2 23, 0, 0)) (e_T 23 (e_L 23 (0, ei_getf eft elay 11 6 26, 0, 0)) (e_L 26 (0, ei_getf eft elay 9 0 29, 0, 0)))) (e_T 29 (e_L 29 (0, ei_push (0, 1) 30, 0, 0)) (e_T 30 (e_L 30 (0, ei_bin eF_sub 31, 0, 0)) (e_L 31 (2, e_nof, 242, 3))))) (e_T 38 (e_T 34 (e_L 34 (0, ei_if1 1 39 37, 0, 0)) (e_T 37 (e_L 37 (0, ei_push (0, (-1)) 38, 0, 0)) (e_L 38 (1, e_nof, 1, 0)))) (e_T 40 (e_T 39 (e_L 39 (0, ei_load 0 2 40, 0, 0)) (e_L 40 (0, ei_getf eft elay 11 13 43, 0, 0))) (e_T 43 (e_L 43 (0, ei_if1 0 49 46, 0, 0)) (e_L 46 (0, ei_push (0, (-2)) 48, 0, 0)))))))
set_option maxRecDepth 20000 in
set_option maxHeartbeats 4000000 in
theorem te_199_0_ok : ∀ pc, e_EOq eft cls elay eI n_199 pc (te_199_0 pc) :=
  (e_Tok2
  (e_Tok2
  (e_Tok2
  (e_Tok2
  (e_Lok (ld_aload_n_0 (x_dk dn_199_0_0_ok 0 rfl)))
  (e_Tok2
  (e_Lok (ld_iload_n_1 (x_dk dn_199_0_0_ok 1 rfl)))
  (e_Lok (lk_11_103 ho_199 (x_dk dn_199_0_0_ok 2 rfl)))))
  (e_Tok2
  (e_Lok (e_st (I := eI) (er_ifeq (off := 13) (tg := 18) (x_dk dn_199_0_0_ok 3 rfl) (by decide)) nx_if1))
  (e_Tok2
  (e_Lok (ld_iload_n_2 (x_dk dn_199_0_0_ok 4 rfl)))
  (e_Lok (ps_iconst_0 (x_dk dn_199_0_0_ok 5 rfl))))))
  (e_Tok2
  (e_Tok2
  (e_Lok (ps_bipush_6 (x_dk dn_199_0_0_ok 6 rfl)))
  (e_Tok2
  (e_Lok (lk_11_82 ho_199 (x_dk dn_199_0_0_ok 7 rfl)))
  (e_Lok (e_st (I := eI) (er_ifne (off := 5) (tg := 20) (x_dk dn_199_0_0_ok 8 rfl) (by decide)) nx_if1))))
  (e_Tok2
  (e_Tok2
  (e_Lok (ps_iconst_m1 (x_dk dn_199_0_0_ok 9 rfl)))
  (e_Lok (e_rt (I := eI) (k := 1) ⟨(x_dk dn_199_0_0_ok 10 rfl), rfl⟩)))
  (e_Tok2
  (e_Lok (ld_iload_n_3 (x_dk dn_199_0_0_ok 11 rfl)))
  (e_Lok (ps_iconst_0 (x_dk dn_199_0_0_ok 12 rfl)))))))
  (e_Tok2
  (e_Tok2
  (e_Tok2
  (e_Lok (ld_aload_n_0 (x_dk dn_199_0_0_ok 13 rfl)))
  (e_Tok2
  (e_Lok (lk_11_46g ho_199 (x_dk dn_199_0_0_ok 14 rfl)))
  (e_Lok (lk_11_149g ho_199 (x_dk dn_199_0_0_ok 15 rfl)))))
  (e_Tok2
  (e_Lok (ps_iconst_1 (x_dk dn_199_0_0_ok 16 rfl)))
  (e_Tok2
  (e_Lok (sm_isub (x_dk dn_199_0_0_ok 17 rfl)))
  (e_Lok (lk_11_82 ho_199 (x_dk dn_199_0_0_ok 18 rfl))))))
  (e_Tok2
  (e_Tok2
  (e_Lok (e_st (I := eI) (er_ifne (off := 5) (tg := 39) (x_dk dn_199_0_0_ok 19 rfl) (by decide)) nx_if1))
  (e_Tok2
  (e_Lok (ps_iconst_m1 (x_dk dn_199_0_0_ok 20 rfl)))
  (e_Lok (e_rt (I := eI) (k := 1) ⟨(x_dk dn_199_0_0_ok 21 rfl), rfl⟩))))
  (e_Tok2
  (e_Tok2
  (e_Lok (ld_aload_n_0 (x_dk dn_199_0_0_ok 22 rfl)))
  (e_Lok (lk_11_91g ho_199 (x_dk dn_199_0_0_ok 23 rfl))))
  (e_Tok2
  (e_Lok (e_st (I := eI) (er_ifeq (off := 6) (tg := 49) (x_dk dn_199_0_0_ok 24 rfl) (by decide)) nx_if1))
  (e_Lok (ps_bipush_m2 (x_dk dn_199_0_1_ok 0 rfl))))))))
def te_199_26 : Nat → eE := (e_T 66 (e_T 55 (e_T 50 (e_T 48 (e_L 48 (1, e_nof, 1, 0)) (e_T 49 (e_L 49 (0, ei_load 0 2 50, 0, 0)) (e_L 50 (0, ei_getf eft elay 11 2 53, 0, 0)))) (e_T 53 (e_L 53 (0, ei_load 1 0 54, 0, 0)) (e_T 54 (e_L 54 (0, ei_aald elay 55, 0, 0)) (e_L 55 (0, ei_load 2 0 56, 0, 0))))) (e_T 60 (e_T 56 (e_L 56 (0, ei_load 3 0 57, 0, 0)) (e_T 57 (e_L 57 (2, e_nof, 6, 3)) (e_L 60 (0, ei_if1 0 65 63, 0, 0)))) (e_T 64 (e_T 63 (e_L 63 (0, ei_push (0, 0) 64, 0, 0)) (e_L 64 (1, e_nof, 1, 0))) (e_T 65 (e_L 65 (0, ei_load 0 2 66, 0, 0)) (e_L 66 (0, ei_getf eft elay 11 2 69, 0, 0)))))) (e_T 76 (e_T 71 (e_T 69 (e_L 69 (0, ei_load 1 0 70, 0, 0)) (e_T 70 (e_L 70 (0, ei_aald elay 71, 0, 0)) (e_L 71 (0, ei_getf eft elay 0 5 74, 0, 0)))) (e_T 74 (e_L 74 (0, ei_load 2 0 75, 0, 0)) (e_T 75 (e_L 75 (0, ei_stk ef_dup2 76, 0, 0)) (e_L 76 (0, ei_ald elay false 77, 0, 0))))) (e_T 79 (e_T 77 (e_L 77 (0, ei_push (0, 1) 78, 0, 0)) (e_T 78 (e_L 78 (0, ei_load 3 0 79, 0, 0)) (e_L 79 (0, ei_bin (eB (fun x y => x <<< (y &&& 31))) 80, 0, 0)))) (e_T 81 (e_T 80 (e_L 80 (0, ei_bin (eB (fun x y => x ||| y)) 81, 0, 0)) (e_L 81 (0, ei_ast elay false 82, 0, 0))) (e_T 82 (e_L 82 (0, ei_push (0, 1) 83, 0, 0)) (e_L 83 (1, e_nof, 1, 0)))))))
set_option maxRecDepth 20000 in
set_option maxHeartbeats 4000000 in
theorem te_199_26_ok : ∀ pc, e_EOq eft cls elay eI n_199 pc (te_199_26 pc) :=
  (e_Tok2
  (e_Tok2
  (e_Tok2
  (e_Tok2
  (e_Lok (e_rt (I := eI) (k := 1) ⟨(x_dk dn_199_0_1_ok 1 rfl), rfl⟩))
  (e_Tok2
  (e_Lok (ld_aload_n_0 (x_dk dn_199_0_1_ok 2 rfl)))
  (e_Lok (lk_11_27g ho_199 (x_dk dn_199_0_1_ok 3 rfl)))))
  (e_Tok2
  (e_Lok (ld_iload_n_1 (x_dk dn_199_0_1_ok 4 rfl)))
  (e_Tok2
  (e_Lok (e_st (I := eI) (er_aaload (x_dk dn_199_0_1_ok 5 rfl)) nx_aald))
  (e_Lok (ld_iload_n_2 (x_dk dn_199_0_1_ok 6 rfl))))))
  (e_Tok2
  (e_Tok2
  (e_Lok (ld_iload_n_3 (x_dk dn_199_0_1_ok 7 rfl)))
  (e_Tok2
  (e_Lok (lk_11_152 ho_199 (x_dk dn_199_0_1_ok 8 rfl)))
  (e_Lok (e_st (I := eI) (er_ifeq (off := 5) (tg := 65) (x_dk dn_199_0_1_ok 9 rfl) (by decide)) nx_if1))))
  (e_Tok2
  (e_Tok2
  (e_Lok (ps_iconst_0 (x_dk dn_199_0_1_ok 10 rfl)))
  (e_Lok (e_rt (I := eI) (k := 1) ⟨(x_dk dn_199_0_1_ok 11 rfl), rfl⟩)))
  (e_Tok2
  (e_Lok (ld_aload_n_0 (x_dk dn_199_0_1_ok 12 rfl)))
  (e_Lok (lk_11_27g ho_199 (x_dk dn_199_0_1_ok 13 rfl)))))))
  (e_Tok2
  (e_Tok2
  (e_Tok2
  (e_Lok (ld_iload_n_1 (x_dk dn_199_0_1_ok 14 rfl)))
  (e_Tok2
  (e_Lok (e_st (I := eI) (er_aaload (x_dk dn_199_0_1_ok 15 rfl)) nx_aald))
  (e_Lok (lk_11_155g ho_199 (x_dk dn_199_0_1_ok 16 rfl)))))
  (e_Tok2
  (e_Lok (ld_iload_n_2 (x_dk dn_199_0_1_ok 17 rfl)))
  (e_Tok2
  (e_Lok (e_st (I := eI) (er_dup2 (x_dk dn_199_0_1_ok 18 rfl)) (nx_stk bf_dup2)))
  (e_Lok (sm_iaload (x_dk dn_199_0_1_ok 19 rfl))))))
  (e_Tok2
  (e_Tok2
  (e_Lok (ps_iconst_1 (x_dk dn_199_0_1_ok 20 rfl)))
  (e_Tok2
  (e_Lok (ld_iload_n_3 (x_dk dn_199_0_1_ok 21 rfl)))
  (e_Lok (e_st (I := eI) (er_ishl (x_dk dn_199_0_1_ok 22 rfl)) nx_bin))))
  (e_Tok2
  (e_Tok2
  (e_Lok (e_st (I := eI) (er_ior (x_dk dn_199_0_1_ok 23 rfl)) nx_bin))
  (e_Lok (sm_iastore (x_dk dn_199_0_1_ok 24 rfl))))
  (e_Tok2
  (e_Lok (ps_iconst_1 (x_dk dn_199_0_2_ok 0 rfl)))
  (e_Lok (e_rt (I := eI) (k := 1) ⟨(x_dk dn_199_0_2_ok 1 rfl), rfl⟩)))))))
def te_199 : Nat → eE := (e_T 46 te_199_0 te_199_26)
theorem te_199_ok : ∀ pc, e_EOq eft cls elay eI n_199 pc (te_199 pc) := (e_Tok2 (te_199_0_ok) (te_199_26_ok))
theorem ho_200 : (xm_y n_200).cls = "RobotCellHouse" := rfl
def dn_200_0_0 : List (Nat × Instr × Nat) := [(0, .iload_n 1, 1), (1, .iload_n 2, 1), (2, .invokestatic 138, 3), (5, .ifCond .eq 12, 3), (8, .iload_n 3, 1), (9, .iconst 0, 1), (10, .iconst 3, 1), (11, .invokestatic 82, 3), (14, .ifCond .ne 5, 3), (17, .iconst (-1), 1), (18, .ireturn, 1), (19, .iload 4, 2), (21, .iconst 0, 1), (22, .sipush 16000, 3), (25, .invokestatic 82, 3), (28, .ifCond .eq 15, 3), (31, .iload 5, 2), (33, .iconst 0, 1), (34, .sipush 2000, 3), (37, .invokestatic 82, 3), (40, .ifCond .ne 5, 3), (43, .iconst (-1), 1), (44, .ireturn, 1), (45, .iload_n 1, 1), (46, .iload 4, 2)]
set_option maxRecDepth 20000 in
theorem dn_200_0_0_ok : dn_200_0_0.all (fun q => decide (decode (xm_b n_200) q.1 = .ok (q.2.1, q.2.2))) = true := xa_g_ok (by decide +kernel)
def dn_200_0_1 : List (Nat × Instr × Nat) := [(48, .iload_n 3, 1), (49, .invokestatic 158, 3), (52, .imul, 1), (53, .iadd, 1), (54, .iload_n 2, 1), (55, .iload 4, 2), (57, .iload_n 3, 1), (58, .invokestatic 164, 3), (61, .imul, 1), (62, .iadd, 1), (63, .invokestatic 138, 3), (66, .ifCond .ne 5, 3), (69, .iconst (-1), 1), (70, .ireturn, 1), (71, .aload_n 0, 1), (72, .getfield 91, 3), (75, .ifCond .eq 6, 3), (78, .bipush (-2), 2), (80, .ireturn, 1), (81, .aload_n 0, 1), (82, .getfield 37, 3), (85, .getfield 167, 3), (88, .iconst 4, 1), (89, .if_icmp .lt 6, 3), (92, .bipush (-3), 2)]
set_option maxRecDepth 20000 in
theorem dn_200_0_1_ok : dn_200_0_1.all (fun q => decide (decode (xm_b n_200) q.1 = .ok (q.2.1, q.2.2))) = true := xa_g_ok (by decide +kernel)
def dn_200_0_2 : List (Nat × Instr × Nat) := [(94, .ireturn, 1), (95, .aload_n 0, 1), (96, .getfield 37, 3), (99, .iload_n 1, 1), (100, .iload_n 2, 1), (101, .iload_n 3, 1), (102, .iload 4, 2), (104, .iload 5, 2), (106, .invokevirtual 170, 3), (109, .ireturn, 1)]
set_option maxRecDepth 20000 in
theorem dn_200_0_2_ok : dn_200_0_2.all (fun q => decide (decode (xm_b n_200) q.1 = .ok (q.2.1, q.2.2))) = true := xa_g_ok (by decide +kernel)
def te_200_0 : Nat → eE := (e_T 25 (e_T 10 (e_T 2 (e_T 0 (e_L 0 (0, ei_load 1 0 1, 0, 0)) (e_T 1 (e_L 1 (0, ei_load 2 0 2, 0, 0)) (e_L 2 (2, e_nof, 243, 2)))) (e_T 8 (e_T 5 (e_L 5 (0, ei_if1 0 17 8, 0, 0)) (e_L 8 (0, ei_load 3 0 9, 0, 0))) (e_T 9 (e_L 9 (0, ei_push (0, 0) 10, 0, 0)) (e_L 10 (0, ei_push (0, 3) 11, 0, 0))))) (e_T 18 (e_T 14 (e_T 11 (e_L 11 (2, e_nof, 242, 3)) (e_L 14 (0, ei_if1 1 19 17, 0, 0))) (e_T 17 (e_L 17 (0, ei_push (0, (-1)) 18, 0, 0)) (e_L 18 (1, e_nof, 1, 0)))) (e_T 21 (e_T 19 (e_L 19 (0, ei_load 4 0 21, 0, 0)) (e_L 21 (0, ei_push (0, 0) 22, 0, 0))) (e_T 22 (e_L 22 (0, ei_push (0, 16000) 25, 0, 0)) (e_L 25 (2, e_nof, 242, 3)))))) (e_T 43 (e_T 33 (e_T 28 (e_L 28 (0, ei_if1 0 43 31, 0, 0)) (e_T 31 (e_L 31 (0, ei_load 5 0 33, 0, 0)) (e_L 33 (0, ei_push (0, 0) 34, 0, 0)))) (e_T 37 (e_T 34 (e_L 34 (0, ei_push (0, 2000) 37, 0, 0)) (e_L 37 (2, e_nof, 242, 3))) (e_T 40 (e_L 40 (0, ei_if1 1 45 43, 0, 0)) (e_L 43 (0, ei_push (0, (-1)) 44, 0, 0))))) (e_T 48 (e_T 45 (e_T 44 (e_L 44 (1, e_nof, 1, 0)) (e_L 45 (0, ei_load 1 0 46, 0, 0))) (e_T 46 (e_L 46 (0, ei_load 4 0 48, 0, 0)) (e_L 48 (0, ei_load 3 0 49, 0, 0)))) (e_T 52 (e_T 49 (e_L 49 (2, e_nof, 73, 1)) (e_L 52 (0, ei_bin eF_mul 53, 0, 0))) (e_T 53 (e_L 53 (0, ei_bin eF_add 54, 0, 0)) (e_L 54 (0, ei_load 2 0 55, 0, 0)))))))
set_option maxRecDepth 20000 in
set_option maxHeartbeats 4000000 in
theorem te_200_0_ok : ∀ pc, e_EOq eft cls elay eI n_200 pc (te_200_0 pc) :=
  (e_Tok2
  (e_Tok2
  (e_Tok2
  (e_Tok2
  (e_Lok (ld_iload_n_1 (x_dk dn_200_0_0_ok 0 rfl)))
  (e_Tok2
  (e_Lok (ld_iload_n_2 (x_dk dn_200_0_0_ok 1 rfl)))
  (e_Lok (lk_11_138 ho_200 (x_dk dn_200_0_0_ok 2 rfl)))))
  (e_Tok2
  (e_Tok2
  (e_Lok (e_st (I := eI) (er_ifeq (off := 12) (tg := 17) (x_dk dn_200_0_0_ok 3 rfl) (by decide)) nx_if1))
  (e_Lok (ld_iload_n_3 (x_dk dn_200_0_0_ok 4 rfl))))
  (e_Tok2
  (e_Lok (ps_iconst_0 (x_dk dn_200_0_0_ok 5 rfl)))
  (e_Lok (ps_iconst_3 (x_dk dn_200_0_0_ok 6 rfl))))))
  (e_Tok2
  (e_Tok2
  (e_Tok2
  (e_Lok (lk_11_82 ho_200 (x_dk dn_200_0_0_ok 7 rfl)))
  (e_Lok (e_st (I := eI) (er_ifne (off := 5) (tg := 19) (x_dk dn_200_0_0_ok 8 rfl) (by decide)) nx_if1)))
  (e_Tok2
  (e_Lok (ps_iconst_m1 (x_dk dn_200_0_0_ok 9 rfl)))
  (e_Lok (e_rt (I := eI) (k := 1) ⟨(x_dk dn_200_0_0_ok 10 rfl), rfl⟩))))
  (e_Tok2
  (e_Tok2
  (e_Lok (ld_iload_4 (x_dk dn_200_0_0_ok 11 rfl)))
  (e_Lok (ps_iconst_0 (x_dk dn_200_0_0_ok 12 rfl))))
  (e_Tok2
  (e_Lok (ps_sipush_16000 (x_dk dn_200_0_0_ok 13 rfl)))
  (e_Lok (lk_11_82 ho_200 (x_dk dn_200_0_0_ok 14 rfl)))))))
  (e_Tok2
  (e_Tok2
  (e_Tok2
  (e_Lok (e_st (I := eI) (er_ifeq (off := 15) (tg := 43) (x_dk dn_200_0_0_ok 15 rfl) (by decide)) nx_if1))
  (e_Tok2
  (e_Lok (ld_iload_5 (x_dk dn_200_0_0_ok 16 rfl)))
  (e_Lok (ps_iconst_0 (x_dk dn_200_0_0_ok 17 rfl)))))
  (e_Tok2
  (e_Tok2
  (e_Lok (ps_sipush_2000 (x_dk dn_200_0_0_ok 18 rfl)))
  (e_Lok (lk_11_82 ho_200 (x_dk dn_200_0_0_ok 19 rfl))))
  (e_Tok2
  (e_Lok (e_st (I := eI) (er_ifne (off := 5) (tg := 45) (x_dk dn_200_0_0_ok 20 rfl) (by decide)) nx_if1))
  (e_Lok (ps_iconst_m1 (x_dk dn_200_0_0_ok 21 rfl))))))
  (e_Tok2
  (e_Tok2
  (e_Tok2
  (e_Lok (e_rt (I := eI) (k := 1) ⟨(x_dk dn_200_0_0_ok 22 rfl), rfl⟩))
  (e_Lok (ld_iload_n_1 (x_dk dn_200_0_0_ok 23 rfl))))
  (e_Tok2
  (e_Lok (ld_iload_4 (x_dk dn_200_0_0_ok 24 rfl)))
  (e_Lok (ld_iload_n_3 (x_dk dn_200_0_1_ok 0 rfl)))))
  (e_Tok2
  (e_Tok2
  (e_Lok (lk_11_158 ho_200 (x_dk dn_200_0_1_ok 1 rfl)))
  (e_Lok (sm_imul (x_dk dn_200_0_1_ok 2 rfl))))
  (e_Tok2
  (e_Lok (sm_iadd (x_dk dn_200_0_1_ok 3 rfl)))
  (e_Lok (ld_iload_n_2 (x_dk dn_200_0_1_ok 4 rfl))))))))
def te_200_30 : Nat → eE := (e_T 81 (e_T 66 (e_T 58 (e_T 55 (e_L 55 (0, ei_load 4 0 57, 0, 0)) (e_T 57 (e_L 57 (0, ei_load 3 0 58, 0, 0)) (e_L 58 (2, e_nof, 74, 1)))) (e_T 62 (e_T 61 (e_L 61 (0, ei_bin eF_mul 62, 0, 0)) (e_L 62 (0, ei_bin eF_add 63, 0, 0))) (e_T 63 (e_L 63 (2, e_nof, 243, 2)) (e_L 66 (0, ei_if1 1 71 69, 0, 0))))) (e_T 72 (e_T 70 (e_T 69 (e_L 69 (0, ei_push (0, (-1)) 70, 0, 0)) (e_L 70 (1, e_nof, 1, 0))) (e_T 71 (e_L 71 (0, ei_load 0 2 72, 0, 0)) (e_L 72 (0, ei_getf eft elay 11 13 75, 0, 0)))) (e_T 78 (e_T 75 (e_L 75 (0, ei_if1 0 81 78, 0, 0)) (e_L 78 (0, ei_push (0, (-2)) 80, 0, 0))) (e_T 80 (e_L 80 (1, e_nof, 1, 0)) (e_L 81 (0, ei_load 0 2 82, 0, 0)))))) (e_T 95 (e_T 88 (e_T 82 (e_L 82 (0, ei_getf eft elay 11 4 85, 0, 0)) (e_T 85 (e_L 85 (0, ei_getf eft elay 4 0 88, 0, 0)) (e_L 88 (0, ei_push (0, 4) 89, 0, 0)))) (e_T 92 (e_T 89 (e_L 89 (0, ei_if2 2 95 92, 0, 0)) (e_L 92 (0, ei_push (0, (-3)) 94, 0, 0))) (e_T 94 (e_L 94 (1, e_nof, 1, 0)) (e_L 95 (0, ei_load 0 2 96, 0, 0))))) (e_T 101 (e_T 99 (e_T 96 (e_L 96 (0, ei_getf eft elay 11 4 99, 0, 0)) (e_L 99 (0, ei_load 1 0 100, 0, 0))) (e_T 100 (e_L 100 (0, ei_load 2 0 101, 0, 0)) (e_L 101 (0, ei_load 3 0 102, 0, 0)))) (e_T 104 (e_T 102 (e_L 102 (0, ei_load 4 0 104, 0, 0)) (e_L 104 (0, ei_load 5 0 106, 0, 0))) (e_T 106 (e_L 106 (2, e_nof, 75, 6)) (e_L 109 (1, e_nof, 1, 0)))))))
set_option maxRecDepth 20000 in
set_option maxHeartbeats 4000000 in
theorem te_200_30_ok : ∀ pc, e_EOq eft cls elay eI n_200 pc (te_200_30 pc) :=
  (e_Tok2
  (e_Tok2
  (e_Tok2
  (e_Tok2
  (e_Lok (ld_iload_4 (x_dk dn_200_0_1_ok 5 rfl)))
  (e_Tok2
  (e_Lok (ld_iload_n_3 (x_dk dn_200_0_1_ok 6 rfl)))
  (e_Lok (lk_11_164 ho_200 (x_dk dn_200_0_1_ok 7 rfl)))))
  (e_Tok2
  (e_Tok2
  (e_Lok (sm_imul (x_dk dn_200_0_1_ok 8 rfl)))
  (e_Lok (sm_iadd (x_dk dn_200_0_1_ok 9 rfl))))
  (e_Tok2
  (e_Lok (lk_11_138 ho_200 (x_dk dn_200_0_1_ok 10 rfl)))
  (e_Lok (e_st (I := eI) (er_ifne (off := 5) (tg := 71) (x_dk dn_200_0_1_ok 11 rfl) (by decide)) nx_if1)))))
  (e_Tok2
  (e_Tok2
  (e_Tok2
  (e_Lok (ps_iconst_m1 (x_dk dn_200_0_1_ok 12 rfl)))
  (e_Lok (e_rt (I := eI) (k := 1) ⟨(x_dk dn_200_0_1_ok 13 rfl), rfl⟩)))
  (e_Tok2
  (e_Lok (ld_aload_n_0 (x_dk dn_200_0_1_ok 14 rfl)))
  (e_Lok (lk_11_91g ho_200 (x_dk dn_200_0_1_ok 15 rfl)))))
  (e_Tok2
  (e_Tok2
  (e_Lok (e_st (I := eI) (er_ifeq (off := 6) (tg := 81) (x_dk dn_200_0_1_ok 16 rfl) (by decide)) nx_if1))
  (e_Lok (ps_bipush_m2 (x_dk dn_200_0_1_ok 17 rfl))))
  (e_Tok2
  (e_Lok (e_rt (I := eI) (k := 1) ⟨(x_dk dn_200_0_1_ok 18 rfl), rfl⟩))
  (e_Lok (ld_aload_n_0 (x_dk dn_200_0_1_ok 19 rfl)))))))
  (e_Tok2
  (e_Tok2
  (e_Tok2
  (e_Lok (lk_11_37g ho_200 (x_dk dn_200_0_1_ok 20 rfl)))
  (e_Tok2
  (e_Lok (lk_11_167g ho_200 (x_dk dn_200_0_1_ok 21 rfl)))
  (e_Lok (ps_iconst_4 (x_dk dn_200_0_1_ok 22 rfl)))))
  (e_Tok2
  (e_Tok2
  (e_Lok (e_st (I := eI) (er_icmplt (off := 6) (tg := 95) (x_dk dn_200_0_1_ok 23 rfl) (by decide)) nx_if2))
  (e_Lok (ps_bipush_m3 (x_dk dn_200_0_1_ok 24 rfl))))
  (e_Tok2
  (e_Lok (e_rt (I := eI) (k := 1) ⟨(x_dk dn_200_0_2_ok 0 rfl), rfl⟩))
  (e_Lok (ld_aload_n_0 (x_dk dn_200_0_2_ok 1 rfl))))))
  (e_Tok2
  (e_Tok2
  (e_Tok2
  (e_Lok (lk_11_37g ho_200 (x_dk dn_200_0_2_ok 2 rfl)))
  (e_Lok (ld_iload_n_1 (x_dk dn_200_0_2_ok 3 rfl))))
  (e_Tok2
  (e_Lok (ld_iload_n_2 (x_dk dn_200_0_2_ok 4 rfl)))
  (e_Lok (ld_iload_n_3 (x_dk dn_200_0_2_ok 5 rfl)))))
  (e_Tok2
  (e_Tok2
  (e_Lok (ld_iload_4 (x_dk dn_200_0_2_ok 6 rfl)))
  (e_Lok (ld_iload_5 (x_dk dn_200_0_2_ok 7 rfl))))
  (e_Tok2
  (e_Lok (lk_11_170 ho_200 (x_dk dn_200_0_2_ok 8 rfl)))
  (e_Lok (e_rt (I := eI) (k := 1) ⟨(x_dk dn_200_0_2_ok 9 rfl), rfl⟩)))))))
def te_200 : Nat → eE := (e_T 54 te_200_0 te_200_30)
theorem te_200_ok : ∀ pc, e_EOq eft cls elay eI n_200 pc (te_200 pc) := (e_Tok2 (te_200_0_ok) (te_200_30_ok))
theorem ho_201 : (xm_y n_201).cls = "RobotCellHouse" := rfl
def dn_201_0_0 : List (Nat × Instr × Nat) := [(0, .aload_n 0, 1), (1, .iload_n 1, 1), (2, .invokevirtual 173, 3), (5, .ifCond .eq 13, 3), (8, .iload_n 2, 1), (9, .iconst 0, 1), (10, .bipush 100, 2), (12, .invokestatic 82, 3), (15, .ifCond .ne 5, 3), (18, .iconst (-1), 1), (19, .ireturn, 1), (20, .aload_n 0, 1), (21, .getfield 91, 3), (24, .ifCond .eq 6, 3), (27, .bipush (-2), 2), (29, .ireturn, 1), (30, .aload_n 0, 1), (31, .getfield 37, 3), (34, .getfield 176, 3), (37, .iload_n 1, 1), (38, .iaload, 1), (39, .istore_n 3, 1), (40, .aload_n 0, 1), (41, .getfield 37, 3), (44, .getfield 176, 3)]
set_option maxRecDepth 20000 in
theorem dn_201_0_0_ok : dn_201_0_0.all (fun q => decide (decode (xm_b n_201) q.1 = .ok (q.2.1, q.2.2))) = true := xa_g_ok (by decide +kernel)
def dn_201_0_1 : List (Nat × Instr × Nat) := [(47, .iload_n 1, 1), (48, .iload_n 2, 1), (49, .iastore, 1), (50, .iload_n 3, 1), (51, .ireturn, 1)]
set_option maxRecDepth 20000 in
theorem dn_201_0_1_ok : dn_201_0_1.all (fun q => decide (decode (xm_b n_201) q.1 = .ok (q.2.1, q.2.2))) = true := xa_g_ok (by decide +kernel)
def te_201_0 : Nat → eE := (e_T 27 (e_T 10 (e_T 2 (e_T 0 (e_L 0 (0, ei_load 0 2 1, 0, 0)) (e_T 1 (e_L 1 (0, ei_load 1 0 2, 0, 0)) (e_L 2 (2, e_nof, 248, 2)))) (e_T 8 (e_T 5 (e_L 5 (0, ei_if1 0 18 8, 0, 0)) (e_L 8 (0, ei_load 2 0 9, 0, 0))) (e_T 9 (e_L 9 (0, ei_push (0, 0) 10, 0, 0)) (e_L 10 (0, ei_push (0, 100) 12, 0, 0))))) (e_T 19 (e_T 15 (e_T 12 (e_L 12 (2, e_nof, 242, 3)) (e_L 15 (0, ei_if1 1 20 18, 0, 0))) (e_T 18 (e_L 18 (0, ei_push (0, (-1)) 19, 0, 0)) (e_L 19 (1, e_nof, 1, 0)))) (e_T 21 (e_T 20 (e_L 20 (0, ei_load 0 2 21, 0, 0)) (e_L 21 (0, ei_getf eft elay 11 13 24, 0, 0))) (e_T 24 (e_L 24 (0, ei_if1 0 30 27, 0, 0)) (e_L 27 (0, ei_push (0, (-2)) 29, 0, 0)))))) (e_T 39 (e_T 31 (e_T 29 (e_L 29 (1, e_nof, 1, 0)) (e_T 30 (e_L 30 (0, ei_load 0 2 31, 0, 0)) (e_L 31 (0, ei_getf eft elay 11 4 34, 0, 0)))) (e_T 37 (e_T 34 (e_L 34 (0, ei_getf eft elay 4 3 37, 0, 0)) (e_L 37 (0, ei_load 1 0 38, 0, 0))) (e_T 38 (e_L 38 (0, ei_ald elay false 39, 0, 0)) (e_L 39 (0, ei_stor 3 0 40, 0, 0))))) (e_T 47 (e_T 41 (e_T 40 (e_L 40 (0, ei_load 0 2 41, 0, 0)) (e_L 41 (0, ei_getf eft elay 11 4 44, 0, 0))) (e_T 44 (e_L 44 (0, ei_getf eft elay 4 3 47, 0, 0)) (e_L 47 (0, ei_load 1 0 48, 0, 0)))) (e_T 49 (e_T 48 (e_L 48 (0, ei_load 2 0 49, 0, 0)) (e_L 49 (0, ei_ast elay false 50, 0, 0))) (e_T 50 (e_L 50 (0, ei_load 3 0 51, 0, 0)) (e_L 51 (1, e_nof, 1, 0)))))))
set_option maxRecDepth 20000 in
set_option maxHeartbeats 4000000 in
theorem te_201_0_ok : ∀ pc, e_EOq eft cls elay eI n_201 pc (te_201_0 pc) :=
  (e_Tok2
  (e_Tok2
  (e_Tok2
  (e_Tok2
  (e_Lok (ld_aload_n_0 (x_dk dn_201_0_0_ok 0 rfl)))
  (e_Tok2
  (e_Lok (ld_iload_n_1 (x_dk dn_201_0_0_ok 1 rfl)))
  (e_Lok (lk_11_173 ho_201 (x_dk dn_201_0_0_ok 2 rfl)))))
  (e_Tok2
  (e_Tok2
  (e_Lok (e_st (I := eI) (er_ifeq (off := 13) (tg := 18) (x_dk dn_201_0_0_ok 3 rfl) (by decide)) nx_if1))
  (e_Lok (ld_iload_n_2 (x_dk dn_201_0_0_ok 4 rfl))))
  (e_Tok2
  (e_Lok (ps_iconst_0 (x_dk dn_201_0_0_ok 5 rfl)))
  (e_Lok (ps_bipush_100 (x_dk dn_201_0_0_ok 6 rfl))))))
  (e_Tok2
  (e_Tok2
  (e_Tok2
  (e_Lok (lk_11_82 ho_201 (x_dk dn_201_0_0_ok 7 rfl)))
  (e_Lok (e_st (I := eI) (er_ifne (off := 5) (tg := 20) (x_dk dn_201_0_0_ok 8 rfl) (by decide)) nx_if1)))
  (e_Tok2
  (e_Lok (ps_iconst_m1 (x_dk dn_201_0_0_ok 9 rfl)))
  (e_Lok (e_rt (I := eI) (k := 1) ⟨(x_dk dn_201_0_0_ok 10 rfl), rfl⟩))))
  (e_Tok2
  (e_Tok2
  (e_Lok (ld_aload_n_0 (x_dk dn_201_0_0_ok 11 rfl)))
  (e_Lok (lk_11_91g ho_201 (x_dk dn_201_0_0_ok 12 rfl))))
  (e_Tok2
  (e_Lok (e_st (I := eI) (er_ifeq (off := 6) (tg := 30) (x_dk dn_201_0_0_ok 13 rfl) (by decide)) nx_if1))
  (e_Lok (ps_bipush_m2 (x_dk dn_201_0_0_ok 14 rfl)))))))
  (e_Tok2
  (e_Tok2
  (e_Tok2
  (e_Lok (e_rt (I := eI) (k := 1) ⟨(x_dk dn_201_0_0_ok 15 rfl), rfl⟩))
  (e_Tok2
  (e_Lok (ld_aload_n_0 (x_dk dn_201_0_0_ok 16 rfl)))
  (e_Lok (lk_11_37g ho_201 (x_dk dn_201_0_0_ok 17 rfl)))))
  (e_Tok2
  (e_Tok2
  (e_Lok (lk_11_176g ho_201 (x_dk dn_201_0_0_ok 18 rfl)))
  (e_Lok (ld_iload_n_1 (x_dk dn_201_0_0_ok 19 rfl))))
  (e_Tok2
  (e_Lok (sm_iaload (x_dk dn_201_0_0_ok 20 rfl)))
  (e_Lok (e_st (I := eI) (er_istore_n (i := 3) (x_dk dn_201_0_0_ok 21 rfl) (by decide +kernel)) nx_stor)))))
  (e_Tok2
  (e_Tok2
  (e_Tok2
  (e_Lok (ld_aload_n_0 (x_dk dn_201_0_0_ok 22 rfl)))
  (e_Lok (lk_11_37g ho_201 (x_dk dn_201_0_0_ok 23 rfl))))
  (e_Tok2
  (e_Lok (lk_11_176g ho_201 (x_dk dn_201_0_0_ok 24 rfl)))
  (e_Lok (ld_iload_n_1 (x_dk dn_201_0_1_ok 0 rfl)))))
  (e_Tok2
  (e_Tok2
  (e_Lok (ld_iload_n_2 (x_dk dn_201_0_1_ok 1 rfl)))
  (e_Lok (sm_iastore (x_dk dn_201_0_1_ok 2 rfl))))
  (e_Tok2
  (e_Lok (ld_iload_n_3 (x_dk dn_201_0_1_ok 3 rfl)))
  (e_Lok (e_rt (I := eI) (k := 1) ⟨(x_dk dn_201_0_1_ok 4 rfl), rfl⟩)))))))
def te_201 : Nat → eE := te_201_0
theorem te_201_ok : ∀ pc, e_EOq eft cls elay eI n_201 pc (te_201 pc) := te_201_0_ok
theorem ho_202 : (xm_y n_202).cls = "RobotCellHouse" := rfl
def dn_202_0_0 : List (Nat × Instr × Nat) := [(0, .aload_n 0, 1), (1, .iload_n 1, 1), (2, .invokevirtual 173, 3), (5, .ifCond .eq 20, 3), (8, .iload_n 2, 1), (9, .invokestatic 178, 3), (12, .ifCond .eq 13, 3), (15, .iload_n 3, 1), (16, .ifCond .lt 9, 3), (19, .iload 4, 2), (21, .iload_n 3, 1), (22, .if_icmp .ge 5, 3), (25, .iconst (-1), 1), (26, .ireturn, 1), (27, .aload_n 0, 1), (28, .getfield 91, 3), (31, .ifCond .eq 6, 3), (34, .bipush (-2), 2), (36, .ireturn, 1), (37, .aload_n 0, 1), (38, .getfield 37, 3), (41, .getfield 181, 3), (44, .iload_n 1, 1), (45, .iload_n 2, 1), (46, .iastore, 1)]
set_option maxRecDepth 20000 in
theorem dn_202_0_0_ok : dn_202_0_0.all (fun q => decide (decode (xm_b n_202) q.1 = .ok (q.2.1, q.2.2))) = true := xa_g_ok (by decide +kernel)
def dn_202_0_1 : List (Nat × Instr × Nat) := [(47, .aload_n 0, 1), (48, .getfield 37, 3), (51, .getfield 184, 3), (54, .iload_n 1, 1), (55, .iload_n 3, 1), (56, .iastore, 1), (57, .aload_n 0, 1), (58, .getfield 37, 3), (61, .getfield 187, 3), (64, .iload_n 1, 1), (65, .iload 4, 2), (67, .iastore, 1), (68, .iconst 0, 1), (69, .ireturn, 1)]
set_option maxRecDepth 20000 in
theorem dn_202_0_1_ok : dn_202_0_1.all (fun q => decide (decode (xm_b n_202) q.1 = .ok (q.2.1, q.2.2))) = true := xa_g_ok (by decide +kernel)
def te_202_0 : Nat → eE := (e_T 36 (e_T 16 (e_T 5 (e_T 1 (e_T 0 (e_L 0 (0, ei_load 0 2 1, 0, 0)) (e_L 1 (0, ei_load 1 0 2, 0, 0))) (e_T 2 (e_L 2 (2, e_nof, 248, 2)) (e_L 5 (0, ei_if1 0 25 8, 0, 0)))) (e_T 9 (e_T 8 (e_L 8 (0, ei_load 2 0 9, 0, 0)) (e_L 9 (2, e_nof, 245, 1))) (e_T 12 (e_L 12 (0, ei_if1 0 25 15, 0, 0)) (e_T 15 (e_L 15 (0, ei_load 3 0 16, 0, 0)) (e_L 16 (0, ei_if1 2 25 19, 0, 0)))))) (e_T 26 (e_T 21 (e_T 19 (e_L 19 (0, ei_load 4 0 21, 0, 0)) (e_L 21 (0, ei_load 3 0 22, 0, 0))) (e_T 22 (e_L 22 (0, ei_if2 3 27 25, 0, 0)) (e_T 25 (e_L 25 (0, ei_push (0, (-1)) 26, 0, 0)) (e_L 26 (1, e_nof, 1, 0))))) (e_T 28 (e_T 27 (e_L 27 (0, ei_load 0 2 28, 0, 0)) (e_L 28 (0, ei_getf eft elay 11 13 31, 0, 0))) (e_T 31 (e_L 31 (0, ei_if1 0 37 34, 0, 0)) (e_T 34 (e_L 34 (0, ei_push (0, (-2)) 36, 0, 0)) (e_L 36 (1, e_nof, 1, 0))))))) (e_T 54 (e_T 45 (e_T 38 (e_T 37 (e_L 37 (0, ei_load 0 2 38, 0, 0)) (e_L 38 (0, ei_getf eft elay 11 4 41, 0, 0))) (e_T 41 (e_L 41 (0, ei_getf eft elay 4 4 44, 0, 0)) (e_T 44 (e_L 44 (0, ei_load 1 0 45, 0, 0)) (e_L 45 (0, ei_load 2 0 46, 0, 0))))) (e_T 47 (e_T 46 (e_L 46 (0, ei_ast elay false 47, 0, 0)) (e_L 47 (0, ei_load 0 2 48, 0, 0))) (e_T 48 (e_L 48 (0, ei_getf eft elay 11 4 51, 0, 0)) (e_T 51 (e_L 51 (0, ei_getf eft elay 4 5 54, 0, 0)) (e_L 54 (0, ei_load 1 0 55, 0, 0)))))) (e_T 61 (e_T 56 (e_T 55 (e_L 55 (0, ei_load 3 0 56, 0, 0)) (e_L 56 (0, ei_ast elay false 57, 0, 0))) (e_T 57 (e_L 57 (0, ei_load 0 2 58, 0, 0)) (e_T 58 (e_L 58 (0, ei_getf eft elay 11 4 61, 0, 0)) (e_L 61 (0, ei_getf eft elay 4 6 64, 0, 0))))) (e_T 65 (e_T 64 (e_L 64 (0, ei_load 1 0 65, 0, 0)) (e_L 65 (0, ei_load 4 0 67, 0, 0))) (e_T 67 (e_L 67 (0, ei_ast elay false 68, 0, 0)) (e_T 68 (e_L 68 (0, ei_push (0, 0) 69, 0, 0)) (e_L 69 (1, e_nof, 1, 0))))))))
set_option maxRecDepth 20000 in
set_option maxHeartbeats 4000000 in
theorem te_202_0_ok : ∀ pc, e_EOq eft cls elay eI n_202 pc (te_202_0 pc) :=
  (e_Tok2
  (e_Tok2
  (e_Tok2
  (e_Tok2
  (e_Tok2
  (e_Lok (ld_aload_n_0 (x_dk dn_202_0_0_ok 0 rfl)))
  (e_Lok (ld_iload_n_1 (x_dk dn_202_0_0_ok 1 rfl))))
  (e_Tok2
  (e_Lok (lk_11_173 ho_202 (x_dk dn_202_0_0_ok 2 rfl)))
  (e_Lok (e_st (I := eI) (er_ifeq (off := 20) (tg := 25) (x_dk dn_202_0_0_ok 3 rfl) (by decide)) nx_if1))))
  (e_Tok2
  (e_Tok2
  (e_Lok (ld_iload_n_2 (x_dk dn_202_0_0_ok 4 rfl)))
  (e_Lok (lk_11_178 ho_202 (x_dk dn_202_0_0_ok 5 rfl))))
  (e_Tok2
  (e_Lok (e_st (I := eI) (er_ifeq (off := 13) (tg := 25) (x_dk dn_202_0_0_ok 6 rfl) (by decide)) nx_if1))
  (e_Tok2
  (e_Lok (ld_iload_n_3 (x_dk dn_202_0_0_ok 7 rfl)))
  (e_Lok (e_st (I := eI) (er_iflt (off := 9) (tg := 25) (x_dk dn_202_0_0_ok 8 rfl) (by decide)) nx_if1))))))
  (e_Tok2
  (e_Tok2
  (e_Tok2
  (e_Lok (ld_iload_4 (x_dk dn_202_0_0_ok 9 rfl)))
  (e_Lok (ld_iload_n_3 (x_dk dn_202_0_0_ok 10 rfl))))
  (e_Tok2
  (e_Lok (e_st (I := eI) (er_icmpge (off := 5) (tg := 27) (x_dk dn_202_0_0_ok 11 rfl) (by decide)) nx_if2))
  (e_Tok2
  (e_Lok (ps_iconst_m1 (x_dk dn_202_0_0_ok 12 rfl)))
  (e_Lok (e_rt (I := eI) (k := 1) ⟨(x_dk dn_202_0_0_ok 13 rfl), rfl⟩)))))
  (e_Tok2
  (e_Tok2
  (e_Lok (ld_aload_n_0 (x_dk dn_202_0_0_ok 14 rfl)))
  (e_Lok (lk_11_91g ho_202 (x_dk dn_202_0_0_ok 15 rfl))))
  (e_Tok2
  (e_Lok (e_st (I := eI) (er_ifeq (off := 6) (tg := 37) (x_dk dn_202_0_0_ok 16 rfl) (by decide)) nx_if1))
  (e_Tok2
  (e_Lok (ps_bipush_m2 (x_dk dn_202_0_0_ok 17 rfl)))
  (e_Lok (e_rt (I := eI) (k := 1) ⟨(x_dk dn_202_0_0_ok 18 rfl), rfl⟩)))))))
  (e_Tok2
  (e_Tok2
  (e_Tok2
  (e_Tok2
  (e_Lok (ld_aload_n_0 (x_dk dn_202_0_0_ok 19 rfl)))
  (e_Lok (lk_11_37g ho_202 (x_dk dn_202_0_0_ok 20 rfl))))
  (e_Tok2
  (e_Lok (lk_11_181g ho_202 (x_dk dn_202_0_0_ok 21 rfl)))
  (e_Tok2
  (e_Lok (ld_iload_n_1 (x_dk dn_202_0_0_ok 22 rfl)))
  (e_Lok (ld_iload_n_2 (x_dk dn_202_0_0_ok 23 rfl))))))
  (e_Tok2
  (e_Tok2
  (e_Lok (sm_iastore (x_dk dn_202_0_0_ok 24 rfl)))
  (e_Lok (ld_aload_n_0 (x_dk dn_202_0_1_ok 0 rfl))))
  (e_Tok2
  (e_Lok (lk_11_37g ho_202 (x_dk dn_202_0_1_ok 1 rfl)))
  (e_Tok2
  (e_Lok (lk_11_184g ho_202 (x_dk dn_202_0_1_ok 2 rfl)))
  (e_Lok (ld_iload_n_1 (x_dk dn_202_0_1_ok 3 rfl)))))))
  (e_Tok2
  (e_Tok2
  (e_Tok2
  (e_Lok (ld_iload_n_3 (x_dk dn_202_0_1_ok 4 rfl)))
  (e_Lok (sm_iastore (x_dk dn_202_0_1_ok 5 rfl))))
  (e_Tok2
  (e_Lok (ld_aload_n_0 (x_dk dn_202_0_1_ok 6 rfl)))
  (e_Tok2
  (e_Lok (lk_11_37g ho_202 (x_dk dn_202_0_1_ok 7 rfl)))
  (e_Lok (lk_11_187g ho_202 (x_dk dn_202_0_1_ok 8 rfl))))))
  (e_Tok2
  (e_Tok2
  (e_Lok (ld_iload_n_1 (x_dk dn_202_0_1_ok 9 rfl)))
  (e_Lok (ld_iload_4 (x_dk dn_202_0_1_ok 10 rfl))))
  (e_Tok2
  (e_Lok (sm_iastore (x_dk dn_202_0_1_ok 11 rfl)))
  (e_Tok2
  (e_Lok (ps_iconst_0 (x_dk dn_202_0_1_ok 12 rfl)))
  (e_Lok (e_rt (I := eI) (k := 1) ⟨(x_dk dn_202_0_1_ok 13 rfl), rfl⟩))))))))
def te_202 : Nat → eE := te_202_0
theorem te_202_ok : ∀ pc, e_EOq eft cls elay eI n_202 pc (te_202 pc) := te_202_0_ok
end
end
-- part 41ao
section
noncomputable section
theorem ho_203 : (xm_y n_203).cls = "RobotCellHouse" := rfl
def dn_203_0_0 : List (Nat × Instr × Nat) := [(0, .aload_n 0, 1), (1, .iload_n 1, 1), (2, .invokevirtual 173, 3), (5, .ifCond .eq 31, 3), (8, .iload_n 2, 1), (9, .iconst 0, 1), (10, .aload_n 0, 1), (11, .getfield 37, 3), (14, .getfield 190, 3), (17, .iload_n 1, 1), (18, .iaload, 1), (19, .invokestatic 82, 3), (22, .ifCond .eq 14, 3), (25, .iload_n 3, 1), (26, .iconst 0, 1), (27, .sipush 800, 3), (30, .invokestatic 82, 3), (33, .ifCond .ne 5, 3), (36, .iconst (-1), 1), (37, .ireturn, 1), (38, .aload_n 0, 1), (39, .getfield 91, 3), (42, .ifCond .eq 6, 3), (45, .bipush (-2), 2), (47, .ireturn, 1)]
set_option maxRecDepth 20000 in
theorem dn_203_0_0_ok : dn_203_0_0.all (fun q => decide (decode (xm_b n_203) q.1 = .ok (q.2.1, q.2.2))) = true := xa_g_ok (by decide +kernel)
def dn_203_0_1 : List (Nat × Instr × Nat) := [(48, .aload_n 0, 1), (49, .getfield 37, 3), (52, .iload_n 1, 1), (53, .iload_n 2, 1), (54, .iconst 0, 1), (55, .iconst 0, 1), (56, .iload_n 3, 1), (57, .invokevirtual 192, 3), (60, .ireturn, 1)]
set_option maxRecDepth 20000 in
theorem dn_203_0_1_ok : dn_203_0_1.all (fun q => decide (decode (xm_b n_203) q.1 = .ok (q.2.1, q.2.2))) = true := xa_g_ok (by decide +kernel)
def te_203_0 : Nat → eE := (e_T 30 (e_T 11 (e_T 5 (e_T 1 (e_T 0 (e_L 0 (0, ei_load 0 2 1, 0, 0)) (e_L 1 (0, ei_load 1 0 2, 0, 0))) (e_T 2 (e_L 2 (2, e_nof, 248, 2)) (e_L 5 (0, ei_if1 0 36 8, 0, 0)))) (e_T 9 (e_T 8 (e_L 8 (0, ei_load 2 0 9, 0, 0)) (e_L 9 (0, ei_push (0, 0) 10, 0, 0))) (e_T 10 (e_L 10 (0, ei_load 0 2 11, 0, 0)) (e_L 11 (0, ei_getf eft elay 11 4 14, 0, 0))))) (e_T 19 (e_T 17 (e_T 14 (e_L 14 (0, ei_getf eft elay 4 2 17, 0, 0)) (e_L 17 (0, ei_load 1 0 18, 0, 0))) (e_T 18 (e_L 18 (0, ei_ald elay false 19, 0, 0)) (e_L 19 (2, e_nof, 242, 3)))) (e_T 25 (e_T 22 (e_L 22 (0, ei_if1 0 36 25, 0, 0)) (e_L 25 (0, ei_load 3 0 26, 0, 0))) (e_T 26 (e_L 26 (0, ei_push (0, 0) 27, 0, 0)) (e_T 27 (e_L 27 (0, ei_push (0, 800) 30, 0, 0)) (e_L 30 (2, e_nof, 242, 3))))))) (e_T 47 (e_T 38 (e_T 36 (e_T 33 (e_L 33 (0, ei_if1 1 38 36, 0, 0)) (e_L 36 (0, ei_push (0, (-1)) 37, 0, 0))) (e_T 37 (e_L 37 (1, e_nof, 1, 0)) (e_L 38 (0, ei_load 0 2 39, 0, 0)))) (e_T 42 (e_T 39 (e_L 39 (0, ei_getf eft elay 11 13 42, 0, 0)) (e_L 42 (0, ei_if1 0 48 45, 0, 0))) (e_T 45 (e_L 45 (0, ei_push (0, (-2)) 47, 0, 0)) (e_L 47 (1, e_nof, 1, 0))))) (e_T 53 (e_T 49 (e_T 48 (e_L 48 (0, ei_load 0 2 49, 0, 0)) (e_L 49 (0, ei_getf eft elay 11 4 52, 0, 0))) (e_T 52 (e_L 52 (0, ei_load 1 0 53, 0, 0)) (e_L 53 (0, ei_load 2 0 54, 0, 0)))) (e_T 55 (e_T 54 (e_L 54 (0, ei_push (0, 0) 55, 0, 0)) (e_L 55 (0, ei_push (0, 0) 56, 0, 0))) (e_T 56 (e_L 56 (0, ei_load 3 0 57, 0, 0)) (e_T 57 (e_L 57 (2, e_nof, 76, 6)) (e_L 60 (1, e_nof, 1, 0))))))))
set_option maxRecDepth 20000 in
set_option maxHeartbeats 4000000 in
theorem te_203_0_ok : ∀ pc, e_EOq eft cls elay eI n_203 pc (te_203_0 pc) :=
  (e_Tok2
  (e_Tok2
  (e_Tok2
  (e_Tok2
  (e_Tok2
  (e_Lok (ld_aload_n_0 (x_dk dn_203_0_0_ok 0 rfl)))
  (e_Lok (ld_iload_n_1 (x_dk dn_203_0_0_ok 1 rfl))))
  (e_Tok2
  (e_Lok (lk_11_173 ho_203 (x_dk dn_203_0_0_ok 2 rfl)))
  (e_Lok (e_st (I := eI) (er_ifeq (off := 31) (tg := 36) (x_dk dn_203_0_0_ok 3 rfl) (by decide)) nx_if1))))
  (e_Tok2
  (e_Tok2
  (e_Lok (ld_iload_n_2 (x_dk dn_203_0_0_ok 4 rfl)))
  (e_Lok (ps_iconst_0 (x_dk dn_203_0_0_ok 5 rfl))))
  (e_Tok2
  (e_Lok (ld_aload_n_0 (x_dk dn_203_0_0_ok 6 rfl)))
  (e_Lok (lk_11_37g ho_203 (x_dk dn_203_0_0_ok 7 rfl))))))
  (e_Tok2
  (e_Tok2
  (e_Tok2
  (e_Lok (lk_11_190g ho_203 (x_dk dn_203_0_0_ok 8 rfl)))
  (e_Lok (ld_iload_n_1 (x_dk dn_203_0_0_ok 9 rfl))))
  (e_Tok2
  (e_Lok (sm_iaload (x_dk dn_203_0_0_ok 10 rfl)))
  (e_Lok (lk_11_82 ho_203 (x_dk dn_203_0_0_ok 11 rfl)))))
  (e_Tok2
  (e_Tok2
  (e_Lok (e_st (I := eI) (er_ifeq (off := 14) (tg := 36) (x_dk dn_203_0_0_ok 12 rfl) (by decide)) nx_if1))
  (e_Lok (ld_iload_n_3 (x_dk dn_203_0_0_ok 13 rfl))))
  (e_Tok2
  (e_Lok (ps_iconst_0 (x_dk dn_203_0_0_ok 14 rfl)))
  (e_Tok2
  (e_Lok (ps_sipush_800 (x_dk dn_203_0_0_ok 15 rfl)))
  (e_Lok (lk_11_82 ho_203 (x_dk dn_203_0_0_ok 16 rfl))))))))
  (e_Tok2
  (e_Tok2
  (e_Tok2
  (e_Tok2
  (e_Lok (e_st (I := eI) (er_ifne (off := 5) (tg := 38) (x_dk dn_203_0_0_ok 17 rfl) (by decide)) nx_if1))
  (e_Lok (ps_iconst_m1 (x_dk dn_203_0_0_ok 18 rfl))))
  (e_Tok2
  (e_Lok (e_rt (I := eI) (k := 1) ⟨(x_dk dn_203_0_0_ok 19 rfl), rfl⟩))
  (e_Lok (ld_aload_n_0 (x_dk dn_203_0_0_ok 20 rfl)))))
  (e_Tok2
  (e_Tok2
  (e_Lok (lk_11_91g ho_203 (x_dk dn_203_0_0_ok 21 rfl)))
  (e_Lok (e_st (I := eI) (er_ifeq (off := 6) (tg := 48) (x_dk dn_203_0_0_ok 22 rfl) (by decide)) nx_if1)))
  (e_Tok2
  (e_Lok (ps_bipush_m2 (x_dk dn_203_0_0_ok 23 rfl)))
  (e_Lok (e_rt (I := eI) (k := 1) ⟨(x_dk dn_203_0_0_ok 24 rfl), rfl⟩)))))
  (e_Tok2
  (e_Tok2
  (e_Tok2
  (e_Lok (ld_aload_n_0 (x_dk dn_203_0_1_ok 0 rfl)))
  (e_Lok (lk_11_37g ho_203 (x_dk dn_203_0_1_ok 1 rfl))))
  (e_Tok2
  (e_Lok (ld_iload_n_1 (x_dk dn_203_0_1_ok 2 rfl)))
  (e_Lok (ld_iload_n_2 (x_dk dn_203_0_1_ok 3 rfl)))))
  (e_Tok2
  (e_Tok2
  (e_Lok (ps_iconst_0 (x_dk dn_203_0_1_ok 4 rfl)))
  (e_Lok (ps_iconst_0 (x_dk dn_203_0_1_ok 5 rfl))))
  (e_Tok2
  (e_Lok (ld_iload_n_3 (x_dk dn_203_0_1_ok 6 rfl)))
  (e_Tok2
  (e_Lok (lk_11_192 ho_203 (x_dk dn_203_0_1_ok 7 rfl)))
  (e_Lok (e_rt (I := eI) (k := 1) ⟨(x_dk dn_203_0_1_ok 8 rfl), rfl⟩))))))))
def te_203 : Nat → eE := te_203_0
theorem te_203_ok : ∀ pc, e_EOq eft cls elay eI n_203 pc (te_203 pc) := te_203_0_ok
theorem ho_204 : (xm_y n_204).cls = "RobotCellHouse" := rfl
def dn_204_0_0 : List (Nat × Instr × Nat) := [(0, .iload_n 1, 1), (1, .iload_n 2, 1), (2, .invokestatic 138, 3), (5, .ifCond .eq 14, 3), (8, .iload_n 3, 1), (9, .iconst 0, 1), (10, .sipush 800, 3), (13, .invokestatic 82, 3), (16, .ifCond .ne 5, 3), (19, .iconst (-1), 1), (20, .ireturn, 1), (21, .aload_n 0, 1), (22, .getfield 91, 3), (25, .ifCond .eq 6, 3), (28, .bipush (-2), 2), (30, .ireturn, 1), (31, .aload_n 0, 1), (32, .getfield 37, 3), (35, .bipush 8, 2), (37, .iconst 0, 1), (38, .iload_n 1, 1), (39, .iload_n 2, 1), (40, .iload_n 3, 1), (41, .invokevirtual 192, 3), (44, .ireturn, 1)]
set_option maxRecDepth 20000 in
theorem dn_204_0_0_ok : dn_204_0_0.all (fun q => decide (decode (xm_b n_204) q.1 = .ok (q.2.1, q.2.2))) = true := xa_g_ok (by decide +kernel)
def te_204_0 : Nat → eE := (e_T 21 (e_T 9 (e_T 2 (e_T 0 (e_L 0 (0, ei_load 1 0 1, 0, 0)) (e_T 1 (e_L 1 (0, ei_load 2 0 2, 0, 0)) (e_L 2 (2, e_nof, 243, 2)))) (e_T 5 (e_L 5 (0, ei_if1 0 19 8, 0, 0)) (e_T 8 (e_L 8 (0, ei_load 3 0 9, 0, 0)) (e_L 9 (0, ei_push (0, 0) 10, 0, 0))))) (e_T 16 (e_T 10 (e_L 10 (0, ei_push (0, 800) 13, 0, 0)) (e_T 13 (e_L 13 (2, e_nof, 242, 3)) (e_L 16 (0, ei_if1 1 21 19, 0, 0)))) (e_T 19 (e_L 19 (0, ei_push (0, (-1)) 20, 0, 0)) (e_T 20 (e_L 20 (1, e_nof, 1, 0)) (e_L 21 (0, ei_load 0 2 22, 0, 0)))))) (e_T 32 (e_T 28 (e_T 22 (e_L 22 (0, ei_getf eft elay 11 13 25, 0, 0)) (e_T 25 (e_L 25 (0, ei_if1 0 31 28, 0, 0)) (e_L 28 (0, ei_push (0, (-2)) 30, 0, 0)))) (e_T 30 (e_L 30 (1, e_nof, 1, 0)) (e_T 31 (e_L 31 (0, ei_load 0 2 32, 0, 0)) (e_L 32 (0, ei_getf eft elay 11 4 35, 0, 0))))) (e_T 38 (e_T 35 (e_L 35 (0, ei_push (0, 8) 37, 0, 0)) (e_T 37 (e_L 37 (0, ei_push (0, 0) 38, 0, 0)) (e_L 38 (0, ei_load 1 0 39, 0, 0)))) (e_T 40 (e_T 39 (e_L 39 (0, ei_load 2 0 40, 0, 0)) (e_L 40 (0, ei_load 3 0 41, 0, 0))) (e_T 41 (e_L 41 (2, e_nof, 76, 6)) (e_L 44 (1, e_nof, 1, 0)))))))
set_option maxRecDepth 20000 in
set_option maxHeartbeats 4000000 in
theorem te_204_0_ok : ∀ pc, e_EOq eft cls elay eI n_204 pc (te_204_0 pc) :=
  (e_Tok2
  (e_Tok2
  (e_Tok2
  (e_Tok2
  (e_Lok (ld_iload_n_1 (x_dk dn_204_0_0_ok 0 rfl)))
  (e_Tok2
  (e_Lok (ld_iload_n_2 (x_dk dn_204_0_0_ok 1 rfl)))
  (e_Lok (lk_11_138 ho_204 (x_dk dn_204_0_0_ok 2 rfl)))))
  (e_Tok2
  (e_Lok (e_st (I := eI) (er_ifeq (off := 14) (tg := 19) (x_dk dn_204_0_0_ok 3 rfl) (by decide)) nx_if1))
  (e_Tok2
  (e_Lok (ld_iload_n_3 (x_dk dn_204_0_0_ok 4 rfl)))
  (e_Lok (ps_iconst_0 (x_dk dn_204_0_0_ok 5 rfl))))))
  (e_Tok2
  (e_Tok2
  (e_Lok (ps_sipush_800 (x_dk dn_204_0_0_ok 6 rfl)))
  (e_Tok2
  (e_Lok (lk_11_82 ho_204 (x_dk dn_204_0_0_ok 7 rfl)))
  (e_Lok (e_st (I := eI) (er_ifne (off := 5) (tg := 21) (x_dk dn_204_0_0_ok 8 rfl) (by decide)) nx_if1))))
  (e_Tok2
  (e_Lok (ps_iconst_m1 (x_dk dn_204_0_0_ok 9 rfl)))
  (e_Tok2
  (e_Lok (e_rt (I := eI) (k := 1) ⟨(x_dk dn_204_0_0_ok 10 rfl), rfl⟩))
  (e_Lok (ld_aload_n_0 (x_dk dn_204_0_0_ok 11 rfl)))))))
  (e_Tok2
  (e_Tok2
  (e_Tok2
  (e_Lok (lk_11_91g ho_204 (x_dk dn_204_0_0_ok 12 rfl)))
  (e_Tok2
  (e_Lok (e_st (I := eI) (er_ifeq (off := 6) (tg := 31) (x_dk dn_204_0_0_ok 13 rfl) (by decide)) nx_if1))
  (e_Lok (ps_bipush_m2 (x_dk dn_204_0_0_ok 14 rfl)))))
  (e_Tok2
  (e_Lok (e_rt (I := eI) (k := 1) ⟨(x_dk dn_204_0_0_ok 15 rfl), rfl⟩))
  (e_Tok2
  (e_Lok (ld_aload_n_0 (x_dk dn_204_0_0_ok 16 rfl)))
  (e_Lok (lk_11_37g ho_204 (x_dk dn_204_0_0_ok 17 rfl))))))
  (e_Tok2
  (e_Tok2
  (e_Lok (ps_bipush_8 (x_dk dn_204_0_0_ok 18 rfl)))
  (e_Tok2
  (e_Lok (ps_iconst_0 (x_dk dn_204_0_0_ok 19 rfl)))
  (e_Lok (ld_iload_n_1 (x_dk dn_204_0_0_ok 20 rfl)))))
  (e_Tok2
  (e_Tok2
  (e_Lok (ld_iload_n_2 (x_dk dn_204_0_0_ok 21 rfl)))
  (e_Lok (ld_iload_n_3 (x_dk dn_204_0_0_ok 22 rfl))))
  (e_Tok2
  (e_Lok (lk_11_192 ho_204 (x_dk dn_204_0_0_ok 23 rfl)))
  (e_Lok (e_rt (I := eI) (k := 1) ⟨(x_dk dn_204_0_0_ok 24 rfl), rfl⟩)))))))
def te_204 : Nat → eE := te_204_0
theorem te_204_ok : ∀ pc, e_EOq eft cls elay eI n_204 pc (te_204 pc) := te_204_0_ok
theorem ho_205 : (xm_y n_205).cls = "RobotCellHouse" := rfl
def dn_205_0_0 : List (Nat × Instr × Nat) := [(0, .aload_n 0, 1), (1, .iload_n 1, 1), (2, .invokevirtual 103, 3), (5, .ifCond .eq 15, 3), (8, .iload_n 2, 1), (9, .iload_n 3, 1), (10, .iload 4, 2), (12, .iload 5, 2), (14, .invokestatic 145, 3), (17, .ifCond .ne 5, 3), (20, .iconst (-1), 1), (21, .ireturn, 1), (22, .aload_n 0, 1), (23, .getfield 91, 3), (26, .ifCond .eq 6, 3), (29, .bipush (-2), 2), (31, .ireturn, 1), (32, .aload_n 0, 1), (33, .getfield 46, 3), (36, .iload_n 1, 1), (37, .iload_n 2, 1), (38, .iload_n 3, 1), (39, .iload 4, 2), (41, .iload 5, 2), (43, .invokevirtual 195, 3)]
set_option maxRecDepth 20000 in
theorem dn_205_0_0_ok : dn_205_0_0.all (fun q => decide (decode (xm_b n_205) q.1 = .ok (q.2.1, q.2.2))) = true := xa_g_ok (by decide +kernel)
def dn_205_0_1 : List (Nat × Instr × Nat) := [(46, .ireturn, 1)]
set_option maxRecDepth 20000 in
theorem dn_205_0_1_ok : dn_205_0_1.all (fun q => decide (decode (xm_b n_205) q.1 = .ok (q.2.1, q.2.2))) = true := xa_g_ok (by decide +kernel)
def te_205_0 : Nat → eE := (e_T 22 (e_T 9 (e_T 2 (e_T 0 (e_L 0 (0, ei_load 0 2 1, 0, 0)) (e_T 1 (e_L 1 (0, ei_load 1 0 2, 0, 0)) (e_L 2 (2, e_nof, 246, 2)))) (e_T 5 (e_L 5 (0, ei_if1 0 20 8, 0, 0)) (e_T 8 (e_L 8 (0, ei_load 2 0 9, 0, 0)) (e_L 9 (0, ei_load 3 0 10, 0, 0))))) (e_T 14 (e_T 10 (e_L 10 (0, ei_load 4 0 12, 0, 0)) (e_T 12 (e_L 12 (0, ei_load 5 0 14, 0, 0)) (e_L 14 (2, e_nof, 244, 4)))) (e_T 20 (e_T 17 (e_L 17 (0, ei_if1 1 22 20, 0, 0)) (e_L 20 (0, ei_push (0, (-1)) 21, 0, 0))) (e_T 21 (e_L 21 (1, e_nof, 1, 0)) (e_L 22 (0, ei_load 0 2 23, 0, 0)))))) (e_T 33 (e_T 29 (e_T 23 (e_L 23 (0, ei_getf eft elay 11 13 26, 0, 0)) (e_T 26 (e_L 26 (0, ei_if1 0 32 29, 0, 0)) (e_L 29 (0, ei_push (0, (-2)) 31, 0, 0)))) (e_T 31 (e_L 31 (1, e_nof, 1, 0)) (e_T 32 (e_L 32 (0, ei_load 0 2 33, 0, 0)) (e_L 33 (0, ei_getf eft elay 11 6 36, 0, 0))))) (e_T 38 (e_T 36 (e_L 36 (0, ei_load 1 0 37, 0, 0)) (e_T 37 (e_L 37 (0, ei_load 2 0 38, 0, 0)) (e_L 38 (0, ei_load 3 0 39, 0, 0)))) (e_T 41 (e_T 39 (e_L 39 (0, ei_load 4 0 41, 0, 0)) (e_L 41 (0, ei_load 5 0 43, 0, 0))) (e_T 43 (e_L 43 (2, e_nof, 168, 6)) (e_L 46 (1, e_nof, 1, 0)))))))
set_option maxRecDepth 20000 in
set_option maxHeartbeats 4000000 in
theorem te_205_0_ok : ∀ pc, e_EOq eft cls elay eI n_205 pc (te_205_0 pc) :=
  (e_Tok2
  (e_Tok2
  (e_Tok2
  (e_Tok2
  (e_Lok (ld_aload_n_0 (x_dk dn_205_0_0_ok 0 rfl)))
  (e_Tok2
  (e_Lok (ld_iload_n_1 (x_dk dn_205_0_0_ok 1 rfl)))
  (e_Lok (lk_11_103 ho_205 (x_dk dn_205_0_0_ok 2 rfl)))))
  (e_Tok2
  (e_Lok (e_st (I := eI) (er_ifeq (off := 15) (tg := 20) (x_dk dn_205_0_0_ok 3 rfl) (by decide)) nx_if1))
  (e_Tok2
  (e_Lok (ld_iload_n_2 (x_dk dn_205_0_0_ok 4 rfl)))
  (e_Lok (ld_iload_n_3 (x_dk dn_205_0_0_ok 5 rfl))))))
  (e_Tok2
  (e_Tok2
  (e_Lok (ld_iload_4 (x_dk dn_205_0_0_ok 6 rfl)))
  (e_Tok2
  (e_Lok (ld_iload_5 (x_dk dn_205_0_0_ok 7 rfl)))
  (e_Lok (lk_11_145 ho_205 (x_dk dn_205_0_0_ok 8 rfl)))))
  (e_Tok2
  (e_Tok2
  (e_Lok (e_st (I := eI) (er_ifne (off := 5) (tg := 22) (x_dk dn_205_0_0_ok 9 rfl) (by decide)) nx_if1))
  (e_Lok (ps_iconst_m1 (x_dk dn_205_0_0_ok 10 rfl))))
  (e_Tok2
  (e_Lok (e_rt (I := eI) (k := 1) ⟨(x_dk dn_205_0_0_ok 11 rfl), rfl⟩))
  (e_Lok (ld_aload_n_0 (x_dk dn_205_0_0_ok 12 rfl)))))))
  (e_Tok2
  (e_Tok2
  (e_Tok2
  (e_Lok (lk_11_91g ho_205 (x_dk dn_205_0_0_ok 13 rfl)))
  (e_Tok2
  (e_Lok (e_st (I := eI) (er_ifeq (off := 6) (tg := 32) (x_dk dn_205_0_0_ok 14 rfl) (by decide)) nx_if1))
  (e_Lok (ps_bipush_m2 (x_dk dn_205_0_0_ok 15 rfl)))))
  (e_Tok2
  (e_Lok (e_rt (I := eI) (k := 1) ⟨(x_dk dn_205_0_0_ok 16 rfl), rfl⟩))
  (e_Tok2
  (e_Lok (ld_aload_n_0 (x_dk dn_205_0_0_ok 17 rfl)))
  (e_Lok (lk_11_46g ho_205 (x_dk dn_205_0_0_ok 18 rfl))))))
  (e_Tok2
  (e_Tok2
  (e_Lok (ld_iload_n_1 (x_dk dn_205_0_0_ok 19 rfl)))
  (e_Tok2
  (e_Lok (ld_iload_n_2 (x_dk dn_205_0_0_ok 20 rfl)))
  (e_Lok (ld_iload_n_3 (x_dk dn_205_0_0_ok 21 rfl)))))
  (e_Tok2
  (e_Tok2
  (e_Lok (ld_iload_4 (x_dk dn_205_0_0_ok 22 rfl)))
  (e_Lok (ld_iload_5 (x_dk dn_205_0_0_ok 23 rfl))))
  (e_Tok2
  (e_Lok (lk_11_195 ho_205 (x_dk dn_205_0_0_ok 24 rfl)))
  (e_Lok (e_rt (I := eI) (k := 1) ⟨(x_dk dn_205_0_1_ok 0 rfl), rfl⟩)))))))
def te_205 : Nat → eE := te_205_0
theorem te_205_ok : ∀ pc, e_EOq eft cls elay eI n_205 pc (te_205 pc) := te_205_0_ok
theorem ho_206 : (xm_y n_206).cls = "RobotCellHouse" := rfl
def dn_206_0_0 : List (Nat × Instr × Nat) := [(0, .iload_n 1, 1), (1, .iconst 0, 1), (2, .aload_n 0, 1), (3, .getfield 46, 3), (6, .getfield 198, 3), (9, .iconst 1, 1), (10, .isub, 1), (11, .invokestatic 82, 3), (14, .ifCond .eq 14, 3), (17, .iload_n 2, 1), (18, .iconst (-1), 1), (19, .sipush 32000, 3), (22, .invokestatic 82, 3), (25, .ifCond .ne 5, 3), (28, .iconst (-1), 1), (29, .ireturn, 1), (30, .aload_n 0, 1), (31, .getfield 91, 3), (34, .ifCond .eq 6, 3), (37, .bipush (-2), 2), (39, .ireturn, 1), (40, .aload_n 0, 1), (41, .getfield 46, 3), (44, .getfield 201, 3), (47, .iload_n 1, 1)]
set_option maxRecDepth 20000 in
theorem dn_206_0_0_ok : dn_206_0_0.all (fun q => decide (decode (xm_b n_206) q.1 = .ok (q.2.1, q.2.2))) = true := xa_g_ok (by decide +kernel)
def dn_206_0_1 : List (Nat × Instr × Nat) := [(48, .iaload, 1), (49, .istore_n 3, 1), (50, .aload_n 0, 1), (51, .getfield 46, 3), (54, .getfield 201, 3), (57, .iload_n 1, 1), (58, .iload_n 2, 1), (59, .iastore, 1), (60, .iload_n 3, 1), (61, .ireturn, 1)]
set_option maxRecDepth 20000 in
theorem dn_206_0_1_ok : dn_206_0_1.all (fun q => decide (decode (xm_b n_206) q.1 = .ok (q.2.1, q.2.2))) = true := xa_g_ok (by decide +kernel)
def te_206_0 : Nat → eE := (e_T 30 (e_T 11 (e_T 3 (e_T 1 (e_T 0 (e_L 0 (0, ei_load 1 0 1, 0, 0)) (e_L 1 (0, ei_push (0, 0) 2, 0, 0))) (e_T 2 (e_L 2 (0, ei_load 0 2 3, 0, 0)) (e_L 3 (0, ei_getf eft elay 11 6 6, 0, 0)))) (e_T 9 (e_T 6 (e_L 6 (0, ei_getf eft elay 9 1 9, 0, 0)) (e_L 9 (0, ei_push (0, 1) 10, 0, 0))) (e_T 10 (e_L 10 (0, ei_bin eF_sub 11, 0, 0)) (e_L 11 (2, e_nof, 242, 3))))) (e_T 19 (e_T 17 (e_T 14 (e_L 14 (0, ei_if1 0 28 17, 0, 0)) (e_L 17 (0, ei_load 2 0 18, 0, 0))) (e_T 18 (e_L 18 (0, ei_push (0, (-1)) 19, 0, 0)) (e_L 19 (0, ei_push (0, 32000) 22, 0, 0)))) (e_T 25 (e_T 22 (e_L 22 (2, e_nof, 242, 3)) (e_L 25 (0, ei_if1 1 30 28, 0, 0))) (e_T 28 (e_L 28 (0, ei_push (0, (-1)) 29, 0, 0)) (e_T 29 (e_L 29 (1, e_nof, 1, 0)) (e_L 30 (0, ei_load 0 2 31, 0, 0))))))) (e_T 48 (e_T 39 (e_T 34 (e_T 31 (e_L 31 (0, ei_getf eft elay 11 13 34, 0, 0)) (e_L 34 (0, ei_if1 0 40 37, 0, 0))) (e_T 37 (e_L 37 (0, ei_push (0, (-2)) 39, 0, 0)) (e_L 39 (1, e_nof, 1, 0)))) (e_T 41 (e_T 40 (e_L 40 (0, ei_load 0 2 41, 0, 0)) (e_L 41 (0, ei_getf eft elay 11 6 44, 0, 0))) (e_T 44 (e_L 44 (0, ei_getf eft elay 9 8 47, 0, 0)) (e_T 47 (e_L 47 (0, ei_load 1 0 48, 0, 0)) (e_L 48 (0, ei_ald elay false 49, 0, 0)))))) (e_T 54 (e_T 50 (e_T 49 (e_L 49 (0, ei_stor 3 0 50, 0, 0)) (e_L 50 (0, ei_load 0 2 51, 0, 0))) (e_T 51 (e_L 51 (0, ei_getf eft elay 11 6 54, 0, 0)) (e_L 54 (0, ei_getf eft elay 9 8 57, 0, 0)))) (e_T 58 (e_T 57 (e_L 57 (0, ei_load 1 0 58, 0, 0)) (e_L 58 (0, ei_load 2 0 59, 0, 0))) (e_T 59 (e_L 59 (0, ei_ast elay false 60, 0, 0)) (e_T 60 (e_L 60 (0, ei_load 3 0 61, 0, 0)) (e_L 61 (1, e_nof, 1, 0))))))))
set_option maxRecDepth 20000 in
set_option maxHeartbeats 4000000 in
theorem te_206_0_ok : ∀ pc, e_EOq eft cls elay eI n_206 pc (te_206_0 pc) :=
  (e_Tok2
  (e_Tok2
  (e_Tok2
  (e_Tok2
  (e_Tok2
  (e_Lok (ld_iload_n_1 (x_dk dn_206_0_0_ok 0 rfl)))
  (e_Lok (ps_iconst_0 (x_dk dn_206_0_0_ok 1 rfl))))
  (e_Tok2
  (e_Lok (ld_aload_n_0 (x_dk dn_206_0_0_ok 2 rfl)))
  (e_Lok (lk_11_46g ho_206 (x_dk dn_206_0_0_ok 3 rfl)))))
  (e_Tok2
  (e_Tok2
  (e_Lok (lk_11_198g ho_206 (x_dk dn_206_0_0_ok 4 rfl)))
  (e_Lok (ps_iconst_1 (x_dk dn_206_0_0_ok 5 rfl))))
  (e_Tok2
  (e_Lok (sm_isub (x_dk dn_206_0_0_ok 6 rfl)))
  (e_Lok (lk_11_82 ho_206 (x_dk dn_206_0_0_ok 7 rfl))))))
  (e_Tok2
  (e_Tok2
  (e_Tok2
  (e_Lok (e_st (I := eI) (er_ifeq (off := 14) (tg := 28) (x_dk dn_206_0_0_ok 8 rfl) (by decide)) nx_if1))
  (e_Lok (ld_iload_n_2 (x_dk dn_206_0_0_ok 9 rfl))))
  (e_Tok2
  (e_Lok (ps_iconst_m1 (x_dk dn_206_0_0_ok 10 rfl)))
  (e_Lok (ps_sipush_32000 (x_dk dn_206_0_0_ok 11 rfl)))))
  (e_Tok2
  (e_Tok2
  (e_Lok (lk_11_82 ho_206 (x_dk dn_206_0_0_ok 12 rfl)))
  (e_Lok (e_st (I := eI) (er_ifne (off := 5) (tg := 30) (x_dk dn_206_0_0_ok 13 rfl) (by decide)) nx_if1)))
  (e_Tok2
  (e_Lok (ps_iconst_m1 (x_dk dn_206_0_0_ok 14 rfl)))
  (e_Tok2
  (e_Lok (e_rt (I := eI) (k := 1) ⟨(x_dk dn_206_0_0_ok 15 rfl), rfl⟩))
  (e_Lok (ld_aload_n_0 (x_dk dn_206_0_0_ok 16 rfl))))))))
  (e_Tok2
  (e_Tok2
  (e_Tok2
  (e_Tok2
  (e_Lok (lk_11_91g ho_206 (x_dk dn_206_0_0_ok 17 rfl)))
  (e_Lok (e_st (I := eI) (er_ifeq (off := 6) (tg := 40) (x_dk dn_206_0_0_ok 18 rfl) (by decide)) nx_if1)))
  (e_Tok2
  (e_Lok (ps_bipush_m2 (x_dk dn_206_0_0_ok 19 rfl)))
  (e_Lok (e_rt (I := eI) (k := 1) ⟨(x_dk dn_206_0_0_ok 20 rfl), rfl⟩))))
  (e_Tok2
  (e_Tok2
  (e_Lok (ld_aload_n_0 (x_dk dn_206_0_0_ok 21 rfl)))
  (e_Lok (lk_11_46g ho_206 (x_dk dn_206_0_0_ok 22 rfl))))
  (e_Tok2
  (e_Lok (lk_11_201g ho_206 (x_dk dn_206_0_0_ok 23 rfl)))
  (e_Tok2
  (e_Lok (ld_iload_n_1 (x_dk dn_206_0_0_ok 24 rfl)))
  (e_Lok (sm_iaload (x_dk dn_206_0_1_ok 0 rfl)))))))
  (e_Tok2
  (e_Tok2
  (e_Tok2
  (e_Lok (e_st (I := eI) (er_istore_n (i := 3) (x_dk dn_206_0_1_ok 1 rfl) (by decide +kernel)) nx_stor))
  (e_Lok (ld_aload_n_0 (x_dk dn_206_0_1_ok 2 rfl))))
  (e_Tok2
  (e_Lok (lk_11_46g ho_206 (x_dk dn_206_0_1_ok 3 rfl)))
  (e_Lok (lk_11_201g ho_206 (x_dk dn_206_0_1_ok 4 rfl)))))
  (e_Tok2
  (e_Tok2
  (e_Lok (ld_iload_n_1 (x_dk dn_206_0_1_ok 5 rfl)))
  (e_Lok (ld_iload_n_2 (x_dk dn_206_0_1_ok 6 rfl))))
  (e_Tok2
  (e_Lok (sm_iastore (x_dk dn_206_0_1_ok 7 rfl)))
  (e_Tok2
  (e_Lok (ld_iload_n_3 (x_dk dn_206_0_1_ok 8 rfl)))
  (e_Lok (e_rt (I := eI) (k := 1) ⟨(x_dk dn_206_0_1_ok 9 rfl), rfl⟩))))))))
def te_206 : Nat → eE := te_206_0
theorem te_206_ok : ∀ pc, e_EOq eft cls elay eI n_206 pc (te_206 pc) := te_206_0_ok
theorem ho_207 : (xm_y n_207).cls = "RobotCellHouse" := rfl
def dn_207_0_0 : List (Nat × Instr × Nat) := [(0, .iload_n 1, 1), (1, .iconst 0, 1), (2, .sipush 1000, 3), (5, .invokestatic 82, 3), (8, .ifCond .ne 5, 3), (11, .iconst (-1), 1), (12, .ireturn, 1), (13, .aload_n 0, 1), (14, .getfield 91, 3), (17, .ifCond .eq 6, 3), (20, .bipush (-2), 2), (22, .ireturn, 1), (23, .aload_n 0, 1), (24, .getfield 42, 3), (27, .getfield 204, 3), (30, .bipush 8, 2), (32, .if_icmp .lt 6, 3), (35, .bipush (-3), 2), (37, .ireturn, 1), (38, .aload_n 0, 1), (39, .getfield 42, 3), (42, .getfield 207, 3), (45, .aload_n 0, 1), (46, .getfield 42, 3), (49, .getfield 204, 3)]
set_option maxRecDepth 20000 in
theorem dn_207_0_0_ok : dn_207_0_0.all (fun q => decide (decode (xm_b n_207) q.1 = .ok (q.2.1, q.2.2))) = true := xa_g_ok (by decide +kernel)
def dn_207_0_1 : List (Nat × Instr × Nat) := [(52, .iload_n 1, 1), (53, .iastore, 1), (54, .aload_n 0, 1), (55, .getfield 42, 3), (58, .dup, 1), (59, .getfield 204, 3), (62, .iconst 1, 1), (63, .iadd, 1), (64, .putfield 204, 3), (67, .aload_n 0, 1), (68, .getfield 42, 3), (71, .getfield 204, 3), (74, .iconst 1, 1), (75, .isub, 1), (76, .ireturn, 1)]
set_option maxRecDepth 20000 in
theorem dn_207_0_1_ok : dn_207_0_1.all (fun q => decide (decode (xm_b n_207) q.1 = .ok (q.2.1, q.2.2))) = true := xa_g_ok (by decide +kernel)
def te_207_0 : Nat → eE := (e_T 38 (e_T 17 (e_T 8 (e_T 1 (e_T 0 (e_L 0 (0, ei_load 1 0 1, 0, 0)) (e_L 1 (0, ei_push (0, 0) 2, 0, 0))) (e_T 2 (e_L 2 (0, ei_push (0, 1000) 5, 0, 0)) (e_T 5 (e_L 5 (2, e_nof, 242, 3)) (e_L 8 (0, ei_if1 1 13 11, 0, 0))))) (e_T 12 (e_T 11 (e_L 11 (0, ei_push (0, (-1)) 12, 0, 0)) (e_L 12 (1, e_nof, 1, 0))) (e_T 13 (e_L 13 (0, ei_load 0 2 14, 0, 0)) (e_T 14 (e_L 14 (0, ei_getf eft elay 11 13 17, 0, 0)) (e_L 17 (0, ei_if1 0 23 20, 0, 0)))))) (e_T 27 (e_T 22 (e_T 20 (e_L 20 (0, ei_push (0, (-2)) 22, 0, 0)) (e_L 22 (1, e_nof, 1, 0))) (e_T 23 (e_L 23 (0, ei_load 0 2 24, 0, 0)) (e_T 24 (e_L 24 (0, ei_getf eft elay 11 5 27, 0, 0)) (e_L 27 (0, ei_getf eft elay 2 2 30, 0, 0))))) (e_T 32 (e_T 30 (e_L 30 (0, ei_push (0, 8) 32, 0, 0)) (e_L 32 (0, ei_if2 2 38 35, 0, 0))) (e_T 35 (e_L 35 (0, ei_push (0, (-3)) 37, 0, 0)) (e_T 37 (e_L 37 (1, e_nof, 1, 0)) (e_L 38 (0, ei_load 0 2 39, 0, 0))))))) (e_T 58 (e_T 49 (e_T 42 (e_T 39 (e_L 39 (0, ei_getf eft elay 11 5 42, 0, 0)) (e_L 42 (0, ei_getf eft elay 2 9 45, 0, 0))) (e_T 45 (e_L 45 (0, ei_load 0 2 46, 0, 0)) (e_T 46 (e_L 46 (0, ei_getf eft elay 11 5 49, 0, 0)) (e_L 49 (0, ei_getf eft elay 2 2 52, 0, 0))))) (e_T 53 (e_T 52 (e_L 52 (0, ei_load 1 0 53, 0, 0)) (e_L 53 (0, ei_ast elay false 54, 0, 0))) (e_T 54 (e_L 54 (0, ei_load 0 2 55, 0, 0)) (e_T 55 (e_L 55 (0, ei_getf eft elay 11 5 58, 0, 0)) (e_L 58 (0, ei_stk ef_dup 59, 0, 0)))))) (e_T 67 (e_T 62 (e_T 59 (e_L 59 (0, ei_getf eft elay 2 2 62, 0, 0)) (e_L 62 (0, ei_push (0, 1) 63, 0, 0))) (e_T 63 (e_L 63 (0, ei_bin eF_add 64, 0, 0)) (e_T 64 (e_L 64 (0, ei_putf eft elay 2 2 0 67, 0, 0)) (e_L 67 (0, ei_load 0 2 68, 0, 0))))) (e_T 71 (e_T 68 (e_L 68 (0, ei_getf eft elay 11 5 71, 0, 0)) (e_L 71 (0, ei_getf eft elay 2 2 74, 0, 0))) (e_T 74 (e_L 74 (0, ei_push (0, 1) 75, 0, 0)) (e_T 75 (e_L 75 (0, ei_bin eF_sub 76, 0, 0)) (e_L 76 (1, e_nof, 1, 0))))))))
set_option maxRecDepth 20000 in
set_option maxHeartbeats 4000000 in
theorem te_207_0_ok : ∀ pc, e_EOq eft cls elay eI n_207 pc (te_207_0 pc) :=
  (e_Tok2
  (e_Tok2
  (e_Tok2
  (e_Tok2
  (e_Tok2
  (e_Lok (ld_iload_n_1 (x_dk dn_207_0_0_ok 0 rfl)))
  (e_Lok (ps_iconst_0 (x_dk dn_207_0_0_ok 1 rfl))))
  (e_Tok2
  (e_Lok (ps_sipush_1000 (x_dk dn_207_0_0_ok 2 rfl)))
  (e_Tok2
  (e_Lok (lk_11_82 ho_207 (x_dk dn_207_0_0_ok 3 rfl)))
  (e_Lok (e_st (I := eI) (er_ifne (off := 5) (tg := 13) (x_dk dn_207_0_0_ok 4 rfl) (by decide)) nx_if1)))))
  (e_Tok2
  (e_Tok2
  (e_Lok (ps_iconst_m1 (x_dk dn_207_0_0_ok 5 rfl)))
  (e_Lok (e_rt (I := eI) (k := 1) ⟨(x_dk dn_207_0_0_ok 6 rfl), rfl⟩)))
  (e_Tok2
  (e_Lok (ld_aload_n_0 (x_dk dn_207_0_0_ok 7 rfl)))
  (e_Tok2
  (e_Lok (lk_11_91g ho_207 (x_dk dn_207_0_0_ok 8 rfl)))
  (e_Lok (e_st (I := eI) (er_ifeq (off := 6) (tg := 23) (x_dk dn_207_0_0_ok 9 rfl) (by decide)) nx_if1))))))
  (e_Tok2
  (e_Tok2
  (e_Tok2
  (e_Lok (ps_bipush_m2 (x_dk dn_207_0_0_ok 10 rfl)))
  (e_Lok (e_rt (I := eI) (k := 1) ⟨(x_dk dn_207_0_0_ok 11 rfl), rfl⟩)))
  (e_Tok2
  (e_Lok (ld_aload_n_0 (x_dk dn_207_0_0_ok 12 rfl)))
  (e_Tok2
  (e_Lok (lk_11_42g ho_207 (x_dk dn_207_0_0_ok 13 rfl)))
  (e_Lok (lk_11_204g ho_207 (x_dk dn_207_0_0_ok 14 rfl))))))
  (e_Tok2
  (e_Tok2
  (e_Lok (ps_bipush_8 (x_dk dn_207_0_0_ok 15 rfl)))
  (e_Lok (e_st (I := eI) (er_icmplt (off := 6) (tg := 38) (x_dk dn_207_0_0_ok 16 rfl) (by decide)) nx_if2)))
  (e_Tok2
  (e_Lok (ps_bipush_m3 (x_dk dn_207_0_0_ok 17 rfl)))
  (e_Tok2
  (e_Lok (e_rt (I := eI) (k := 1) ⟨(x_dk dn_207_0_0_ok 18 rfl), rfl⟩))
  (e_Lok (ld_aload_n_0 (x_dk dn_207_0_0_ok 19 rfl))))))))
  (e_Tok2
  (e_Tok2
  (e_Tok2
  (e_Tok2
  (e_Lok (lk_11_42g ho_207 (x_dk dn_207_0_0_ok 20 rfl)))
  (e_Lok (lk_11_207g ho_207 (x_dk dn_207_0_0_ok 21 rfl))))
  (e_Tok2
  (e_Lok (ld_aload_n_0 (x_dk dn_207_0_0_ok 22 rfl)))
  (e_Tok2
  (e_Lok (lk_11_42g ho_207 (x_dk dn_207_0_0_ok 23 rfl)))
  (e_Lok (lk_11_204g ho_207 (x_dk dn_207_0_0_ok 24 rfl))))))
  (e_Tok2
  (e_Tok2
  (e_Lok (ld_iload_n_1 (x_dk dn_207_0_1_ok 0 rfl)))
  (e_Lok (sm_iastore (x_dk dn_207_0_1_ok 1 rfl))))
  (e_Tok2
  (e_Lok (ld_aload_n_0 (x_dk dn_207_0_1_ok 2 rfl)))
  (e_Tok2
  (e_Lok (lk_11_42g ho_207 (x_dk dn_207_0_1_ok 3 rfl)))
  (e_Lok (e_st (I := eI) (er_dup (x_dk dn_207_0_1_ok 4 rfl)) (nx_stk bf_dup)))))))
  (e_Tok2
  (e_Tok2
  (e_Tok2
  (e_Lok (lk_11_204g ho_207 (x_dk dn_207_0_1_ok 5 rfl)))
  (e_Lok (ps_iconst_1 (x_dk dn_207_0_1_ok 6 rfl))))
  (e_Tok2
  (e_Lok (sm_iadd (x_dk dn_207_0_1_ok 7 rfl)))
  (e_Tok2
  (e_Lok (lk_11_204p ho_207 (x_dk dn_207_0_1_ok 8 rfl)))
  (e_Lok (ld_aload_n_0 (x_dk dn_207_0_1_ok 9 rfl))))))
  (e_Tok2
  (e_Tok2
  (e_Lok (lk_11_42g ho_207 (x_dk dn_207_0_1_ok 10 rfl)))
  (e_Lok (lk_11_204g ho_207 (x_dk dn_207_0_1_ok 11 rfl))))
  (e_Tok2
  (e_Lok (ps_iconst_1 (x_dk dn_207_0_1_ok 12 rfl)))
  (e_Tok2
  (e_Lok (sm_isub (x_dk dn_207_0_1_ok 13 rfl)))
  (e_Lok (e_rt (I := eI) (k := 1) ⟨(x_dk dn_207_0_1_ok 14 rfl), rfl⟩))))))))
def te_207 : Nat → eE := te_207_0
theorem te_207_ok : ∀ pc, e_EOq eft cls elay eI n_207 pc (te_207 pc) := te_207_0_ok
theorem ho_208 : (xm_y n_208).cls = "RobotCellHouse" := rfl
def dn_208_0_0 : List (Nat × Instr × Nat) := [(0, .iload_n 1, 1), (1, .iconst 0, 1), (2, .bipush 7, 2), (4, .invokestatic 82, 3), (7, .ifCond .ne 5, 3), (10, .iconst (-1), 1), (11, .ireturn, 1), (12, .aload_n 0, 1), (13, .getfield 91, 3), (16, .ifCond .eq 6, 3), (19, .bipush (-2), 2), (21, .ireturn, 1), (22, .aload_n 0, 1), (23, .getfield 42, 3), (26, .getfield 210, 3), (29, .iload_n 1, 1), (30, .iload_n 2, 1), (31, .bastore, 1), (32, .iconst 0, 1), (33, .ireturn, 1)]
set_option maxRecDepth 20000 in
theorem dn_208_0_0_ok : dn_208_0_0.all (fun q => decide (decode (xm_b n_208) q.1 = .ok (q.2.1, q.2.2))) = true := xa_g_ok (by decide +kernel)
def te_208_0 : Nat → eE := (e_T 16 (e_T 7 (e_T 1 (e_T 0 (e_L 0 (0, ei_load 1 0 1, 0, 0)) (e_L 1 (0, ei_push (0, 0) 2, 0, 0))) (e_T 2 (e_L 2 (0, ei_push (0, 7) 4, 0, 0)) (e_T 4 (e_L 4 (2, e_nof, 242, 3)) (e_L 7 (0, ei_if1 1 12 10, 0, 0))))) (e_T 11 (e_T 10 (e_L 10 (0, ei_push (0, (-1)) 11, 0, 0)) (e_L 11 (1, e_nof, 1, 0))) (e_T 12 (e_L 12 (0, ei_load 0 2 13, 0, 0)) (e_T 13 (e_L 13 (0, ei_getf eft elay 11 13 16, 0, 0)) (e_L 16 (0, ei_if1 0 22 19, 0, 0)))))) (e_T 26 (e_T 21 (e_T 19 (e_L 19 (0, ei_push (0, (-2)) 21, 0, 0)) (e_L 21 (1, e_nof, 1, 0))) (e_T 22 (e_L 22 (0, ei_load 0 2 23, 0, 0)) (e_T 23 (e_L 23 (0, ei_getf eft elay 11 5 26, 0, 0)) (e_L 26 (0, ei_getf eft elay 2 10 29, 0, 0))))) (e_T 30 (e_T 29 (e_L 29 (0, ei_load 1 0 30, 0, 0)) (e_L 30 (0, ei_load 2 0 31, 0, 0))) (e_T 31 (e_L 31 (0, ei_ast elay true 32, 0, 0)) (e_T 32 (e_L 32 (0, ei_push (0, 0) 33, 0, 0)) (e_L 33 (1, e_nof, 1, 0)))))))
set_option maxRecDepth 20000 in
set_option maxHeartbeats 4000000 in
theorem te_208_0_ok : ∀ pc, e_EOq eft cls elay eI n_208 pc (te_208_0 pc) :=
  (e_Tok2
  (e_Tok2
  (e_Tok2
  (e_Tok2
  (e_Lok (ld_iload_n_1 (x_dk dn_208_0_0_ok 0 rfl)))
  (e_Lok (ps_iconst_0 (x_dk dn_208_0_0_ok 1 rfl))))
  (e_Tok2
  (e_Lok (ps_bipush_7 (x_dk dn_208_0_0_ok 2 rfl)))
  (e_Tok2
  (e_Lok (lk_11_82 ho_208 (x_dk dn_208_0_0_ok 3 rfl)))
  (e_Lok (e_st (I := eI) (er_ifne (off := 5) (tg := 12) (x_dk dn_208_0_0_ok 4 rfl) (by decide)) nx_if1)))))
  (e_Tok2
  (e_Tok2
  (e_Lok (ps_iconst_m1 (x_dk dn_208_0_0_ok 5 rfl)))
  (e_Lok (e_rt (I := eI) (k := 1) ⟨(x_dk dn_208_0_0_ok 6 rfl), rfl⟩)))
  (e_Tok2
  (e_Lok (ld_aload_n_0 (x_dk dn_208_0_0_ok 7 rfl)))
  (e_Tok2
  (e_Lok (lk_11_91g ho_208 (x_dk dn_208_0_0_ok 8 rfl)))
  (e_Lok (e_st (I := eI) (er_ifeq (off := 6) (tg := 22) (x_dk dn_208_0_0_ok 9 rfl) (by decide)) nx_if1))))))
  (e_Tok2
  (e_Tok2
  (e_Tok2
  (e_Lok (ps_bipush_m2 (x_dk dn_208_0_0_ok 10 rfl)))
  (e_Lok (e_rt (I := eI) (k := 1) ⟨(x_dk dn_208_0_0_ok 11 rfl), rfl⟩)))
  (e_Tok2
  (e_Lok (ld_aload_n_0 (x_dk dn_208_0_0_ok 12 rfl)))
  (e_Tok2
  (e_Lok (lk_11_42g ho_208 (x_dk dn_208_0_0_ok 13 rfl)))
  (e_Lok (lk_11_210g ho_208 (x_dk dn_208_0_0_ok 14 rfl))))))
  (e_Tok2
  (e_Tok2
  (e_Lok (ld_iload_n_1 (x_dk dn_208_0_0_ok 15 rfl)))
  (e_Lok (ld_iload_n_2 (x_dk dn_208_0_0_ok 16 rfl))))
  (e_Tok2
  (e_Lok (e_st (I := eI) (er_bastore (x_dk dn_208_0_0_ok 17 rfl)) nx_ast))
  (e_Tok2
  (e_Lok (ps_iconst_0 (x_dk dn_208_0_0_ok 18 rfl)))
  (e_Lok (e_rt (I := eI) (k := 1) ⟨(x_dk dn_208_0_0_ok 19 rfl), rfl⟩)))))))
def te_208 : Nat → eE := te_208_0
theorem te_208_ok : ∀ pc, e_EOq eft cls elay eI n_208 pc (te_208 pc) := te_208_0_ok
theorem ho_209 : (xm_y n_209).cls = "RobotCellHouse" := rfl
def dn_209_0_0 : List (Nat × Instr × Nat) := [(0, .iload_n 1, 1), (1, .invokestatic 178, 3), (4, .ifCond .eq 10, 3), (7, .iload_n 2, 1), (8, .invokestatic 178, 3), (11, .ifCond .ne 5, 3), (14, .iconst (-1), 1), (15, .ireturn, 1), (16, .aload_n 0, 1), (17, .getfield 91, 3), (20, .ifCond .ne 15, 3), (23, .aload_n 0, 1), (24, .getfield 32, 3), (27, .iload_n 1, 1), (28, .iload_n 2, 1), (29, .invokevirtual 214, 3), (32, .ifCond .ne 6, 3), (35, .bipush (-2), 2), (37, .ireturn, 1), (38, .aload_n 0, 1), (39, .getfield 32, 3), (42, .iload_n 1, 1), (43, .iload_n 2, 1), (44, .iload_n 3, 1), (45, .invokevirtual 219, 3)]
set_option maxRecDepth 20000 in
theorem dn_209_0_0_ok : dn_209_0_0.all (fun q => decide (decode (xm_b n_209) q.1 = .ok (q.2.1, q.2.2))) = true := xa_g_ok (by decide +kernel)
def dn_209_0_1 : List (Nat × Instr × Nat) := [(48, .iconst 0, 1), (49, .ireturn, 1)]
set_option maxRecDepth 20000 in
theorem dn_209_0_1_ok : dn_209_0_1.all (fun q => decide (decode (xm_b n_209) q.1 = .ok (q.2.1, q.2.2))) = true := xa_g_ok (by decide +kernel)
def te_209_0 : Nat → eE := (e_T 24 (e_T 11 (e_T 4 (e_T 0 (e_L 0 (0, ei_load 1 0 1, 0, 0)) (e_T 1 (e_L 1 (2, e_nof, 245, 1)) (e_L 4 (0, ei_if1 0 14 7, 0, 0)))) (e_T 7 (e_L 7 (0, ei_load 2 0 8, 0, 0)) (e_T 8 (e_L 8 (2, e_nof, 245, 1)) (e_L 11 (0, ei_if1 1 16 14, 0, 0))))) (e_T 16 (e_T 14 (e_L 14 (0, ei_push (0, (-1)) 15, 0, 0)) (e_T 15 (e_L 15 (1, e_nof, 1, 0)) (e_L 16 (0, ei_load 0 2 17, 0, 0)))) (e_T 20 (e_T 17 (e_L 17 (0, ei_getf eft elay 11 13 20, 0, 0)) (e_L 20 (0, ei_if1 1 35 23, 0, 0))) (e_T 23 (e_L 23 (0, ei_load 0 2 24, 0, 0)) (e_L 24 (0, ei_getf eft elay 11 3 27, 0, 0)))))) (e_T 38 (e_T 29 (e_T 27 (e_L 27 (0, ei_load 1 0 28, 0, 0)) (e_T 28 (e_L 28 (0, ei_load 2 0 29, 0, 0)) (e_L 29 (2, e_nof, 111, 3)))) (e_T 35 (e_T 32 (e_L 32 (0, ei_if1 1 38 35, 0, 0)) (e_L 35 (0, ei_push (0, (-2)) 37, 0, 0))) (e_T 37 (e_L 37 (1, e_nof, 1, 0)) (e_L 38 (0, ei_load 0 2 39, 0, 0))))) (e_T 43 (e_T 39 (e_L 39 (0, ei_getf eft elay 11 3 42, 0, 0)) (e_T 42 (e_L 42 (0, ei_load 1 0 43, 0, 0)) (e_L 43 (0, ei_load 2 0 44, 0, 0)))) (e_T 45 (e_T 44 (e_L 44 (0, ei_load 3 0 45, 0, 0)) (e_L 45 (2, e_nof, 112, 4))) (e_T 48 (e_L 48 (0, ei_push (0, 0) 49, 0, 0)) (e_L 49 (1, e_nof, 1, 0)))))))
set_option maxRecDepth 20000 in
set_option maxHeartbeats 4000000 in
theorem te_209_0_ok : ∀ pc, e_EOq eft cls elay eI n_209 pc (te_209_0 pc) :=
  (e_Tok2
  (e_Tok2
  (e_Tok2
  (e_Tok2
  (e_Lok (ld_iload_n_1 (x_dk dn_209_0_0_ok 0 rfl)))
  (e_Tok2
  (e_Lok (lk_11_178 ho_209 (x_dk dn_209_0_0_ok 1 rfl)))
  (e_Lok (e_st (I := eI) (er_ifeq (off := 10) (tg := 14) (x_dk dn_209_0_0_ok 2 rfl) (by decide)) nx_if1))))
  (e_Tok2
  (e_Lok (ld_iload_n_2 (x_dk dn_209_0_0_ok 3 rfl)))
  (e_Tok2
  (e_Lok (lk_11_178 ho_209 (x_dk dn_209_0_0_ok 4 rfl)))
  (e_Lok (e_st (I := eI) (er_ifne (off := 5) (tg := 16) (x_dk dn_209_0_0_ok 5 rfl) (by decide)) nx_if1)))))
  (e_Tok2
  (e_Tok2
  (e_Lok (ps_iconst_m1 (x_dk dn_209_0_0_ok 6 rfl)))
  (e_Tok2
  (e_Lok (e_rt (I := eI) (k := 1) ⟨(x_dk dn_209_0_0_ok 7 rfl), rfl⟩))
  (e_Lok (ld_aload_n_0 (x_dk dn_209_0_0_ok 8 rfl)))))
  (e_Tok2
  (e_Tok2
  (e_Lok (lk_11_91g ho_209 (x_dk dn_209_0_0_ok 9 rfl)))
  (e_Lok (e_st (I := eI) (er_ifne (off := 15) (tg := 35) (x_dk dn_209_0_0_ok 10 rfl) (by decide)) nx_if1)))
  (e_Tok2
  (e_Lok (ld_aload_n_0 (x_dk dn_209_0_0_ok 11 rfl)))
  (e_Lok (lk_11_32g ho_209 (x_dk dn_209_0_0_ok 12 rfl)))))))
  (e_Tok2
  (e_Tok2
  (e_Tok2
  (e_Lok (ld_iload_n_1 (x_dk dn_209_0_0_ok 13 rfl)))
  (e_Tok2
  (e_Lok (ld_iload_n_2 (x_dk dn_209_0_0_ok 14 rfl)))
  (e_Lok (lk_11_214 ho_209 (x_dk dn_209_0_0_ok 15 rfl)))))
  (e_Tok2
  (e_Tok2
  (e_Lok (e_st (I := eI) (er_ifne (off := 6) (tg := 38) (x_dk dn_209_0_0_ok 16 rfl) (by decide)) nx_if1))
  (e_Lok (ps_bipush_m2 (x_dk dn_209_0_0_ok 17 rfl))))
  (e_Tok2
  (e_Lok (e_rt (I := eI) (k := 1) ⟨(x_dk dn_209_0_0_ok 18 rfl), rfl⟩))
  (e_Lok (ld_aload_n_0 (x_dk dn_209_0_0_ok 19 rfl))))))
  (e_Tok2
  (e_Tok2
  (e_Lok (lk_11_32g ho_209 (x_dk dn_209_0_0_ok 20 rfl)))
  (e_Tok2
  (e_Lok (ld_iload_n_1 (x_dk dn_209_0_0_ok 21 rfl)))
  (e_Lok (ld_iload_n_2 (x_dk dn_209_0_0_ok 22 rfl)))))
  (e_Tok2
  (e_Tok2
  (e_Lok (ld_iload_n_3 (x_dk dn_209_0_0_ok 23 rfl)))
  (e_Lok (lk_11_219 ho_209 (x_dk dn_209_0_0_ok 24 rfl))))
  (e_Tok2
  (e_Lok (ps_iconst_0 (x_dk dn_209_0_1_ok 0 rfl)))
  (e_Lok (e_rt (I := eI) (k := 1) ⟨(x_dk dn_209_0_1_ok 1 rfl), rfl⟩)))))))
def te_209 : Nat → eE := te_209_0
theorem te_209_ok : ∀ pc, e_EOq eft cls elay eI n_209 pc (te_209 pc) := te_209_0_ok
theorem ho_210 : (xm_y n_210).cls = "RobotCellHouse" := rfl
def dn_210_0_0 : List (Nat × Instr × Nat) := [(0, .aload_n 0, 1), (1, .iload_n 1, 1), (2, .invokevirtual 103, 3), (5, .ifCond .ne 5, 3), (8, .iconst (-1), 1), (9, .ireturn, 1), (10, .aload_n 0, 1), (11, .getfield 91, 3), (14, .ifCond .eq 6, 3), (17, .bipush (-2), 2), (19, .ireturn, 1), (20, .aload_n 0, 1), (21, .getfield 10, 3), (24, .invokevirtual 223, 3), (27, .aload_n 0, 1), (28, .getfield 10, 3), (31, .iconst 0, 1), (32, .putfield 74, 3), (35, .aload_n 0, 1), (36, .getfield 10, 3), (39, .getfield 226, 3), (42, .ifCond .eq 14, 3), (45, .bipush (-10), 2), (47, .aload_n 0, 1), (48, .getfield 10, 3)]
set_option maxRecDepth 20000 in
theorem dn_210_0_0_ok : dn_210_0_0.all (fun q => decide (decode (xm_b n_210) q.1 = .ok (q.2.1, q.2.2))) = true := xa_g_ok (by decide +kernel)
def dn_210_0_1 : List (Nat × Instr × Nat) := [(51, .getfield 229, 3), (54, .isub, 1), (55, .ireturn, 1), (56, .aload_n 0, 1), (57, .getfield 10, 3), (60, .aload_n 0, 1), (61, .getfield 27, 3), (64, .iload_n 1, 1), (65, .aaload, 1), (66, .aload_n 0, 1), (67, .getfield 10, 3), (70, .getfield 232, 3), (73, .invokevirtual 236, 3), (76, .putfield 232, 3), (79, .aload_n 0, 1), (80, .getfield 27, 3), (83, .iload_n 1, 1), (84, .aaload, 1), (85, .getfield 240, 3), (88, .getfield 241, 3), (91, .ireturn, 1)]
set_option maxRecDepth 20000 in
theorem dn_210_0_1_ok : dn_210_0_1.all (fun q => decide (decode (xm_b n_210) q.1 = .ok (q.2.1, q.2.2))) = true := xa_g_ok (by decide +kernel)
def te_210_0 : Nat → eE := (e_T 19 (e_T 8 (e_T 1 (e_T 0 (e_L 0 (0, ei_load 0 2 1, 0, 0)) (e_L 1 (0, ei_load 1 0 2, 0, 0))) (e_T 2 (e_L 2 (2, e_nof, 246, 2)) (e_T 5 (e_L 5 (0, ei_if1 1 10 8, 0, 0)) (e_L 8 (0, ei_push (0, (-1)) 9, 0, 0))))) (e_T 11 (e_T 9 (e_L 9 (1, e_nof, 1, 0)) (e_T 10 (e_L 10 (0, ei_load 0 2 11, 0, 0)) (e_L 11 (0, ei_getf eft elay 11 13 14, 0, 0)))) (e_T 14 (e_L 14 (0, ei_if1 0 20 17, 0, 0)) (e_T 17 (e_L 17 (0, ei_push (0, (-2)) 19, 0, 0)) (e_L 19 (1, e_nof, 1, 0)))))) (e_T 31 (e_T 24 (e_T 20 (e_L 20 (0, ei_load 0 2 21, 0, 0)) (e_T 21 (e_L 21 (0, ei_getf eft elay 11 0 24, 0, 0)) (e_L 24 (2, e_nof, 119, 1)))) (e_T 27 (e_L 27 (0, ei_load 0 2 28, 0, 0)) (e_T 28 (e_L 28 (0, ei_getf eft elay 11 0 31, 0, 0)) (e_L 31 (0, ei_push (0, 0) 32, 0, 0))))) (e_T 36 (e_T 32 (e_L 32 (0, ei_putf eft elay 8 0 0 35, 0, 0)) (e_T 35 (e_L 35 (0, ei_load 0 2 36, 0, 0)) (e_L 36 (0, ei_getf eft elay 11 0 39, 0, 0)))) (e_T 39 (e_L 39 (0, ei_getf eft elay 8 1 42, 0, 0)) (e_T 42 (e_L 42 (0, ei_if1 0 56 45, 0, 0)) (e_L 45 (0, ei_push (0, (-10)) 47, 0, 0)))))))
set_option maxRecDepth 20000 in
set_option maxHeartbeats 4000000 in
theorem te_210_0_ok : ∀ pc, e_EOq eft cls elay eI n_210 pc (te_210_0 pc) :=
  (e_Tok2
  (e_Tok2
  (e_Tok2
  (e_Tok2
  (e_Lok (ld_aload_n_0 (x_dk dn_210_0_0_ok 0 rfl)))
  (e_Lok (ld_iload_n_1 (x_dk dn_210_0_0_ok 1 rfl))))
  (e_Tok2
  (e_Lok (lk_11_103 ho_210 (x_dk dn_210_0_0_ok 2 rfl)))
  (e_Tok2
  (e_Lok (e_st (I := eI) (er_ifne (off := 5) (tg := 10) (x_dk dn_210_0_0_ok 3 rfl) (by decide)) nx_if1))
  (e_Lok (ps_iconst_m1 (x_dk dn_210_0_0_ok 4 rfl))))))
  (e_Tok2
  (e_Tok2
  (e_Lok (e_rt (I := eI) (k := 1) ⟨(x_dk dn_210_0_0_ok 5 rfl), rfl⟩))
  (e_Tok2
  (e_Lok (ld_aload_n_0 (x_dk dn_210_0_0_ok 6 rfl)))
  (e_Lok (lk_11_91g ho_210 (x_dk dn_210_0_0_ok 7 rfl)))))
  (e_Tok2
  (e_Lok (e_st (I := eI) (er_ifeq (off := 6) (tg := 20) (x_dk dn_210_0_0_ok 8 rfl) (by decide)) nx_if1))
  (e_Tok2
  (e_Lok (ps_bipush_m2 (x_dk dn_210_0_0_ok 9 rfl)))
  (e_Lok (e_rt (I := eI) (k := 1) ⟨(x_dk dn_210_0_0_ok 10 rfl), rfl⟩))))))
  (e_Tok2
  (e_Tok2
  (e_Tok2
  (e_Lok (ld_aload_n_0 (x_dk dn_210_0_0_ok 11 rfl)))
  (e_Tok2
  (e_Lok (lk_11_10g ho_210 (x_dk dn_210_0_0_ok 12 rfl)))
  (e_Lok (lk_11_223 ho_210 (x_dk dn_210_0_0_ok 13 rfl)))))
  (e_Tok2
  (e_Lok (ld_aload_n_0 (x_dk dn_210_0_0_ok 14 rfl)))
  (e_Tok2
  (e_Lok (lk_11_10g ho_210 (x_dk dn_210_0_0_ok 15 rfl)))
  (e_Lok (ps_iconst_0 (x_dk dn_210_0_0_ok 16 rfl))))))
  (e_Tok2
  (e_Tok2
  (e_Lok (lk_11_74p ho_210 (x_dk dn_210_0_0_ok 17 rfl)))
  (e_Tok2
  (e_Lok (ld_aload_n_0 (x_dk dn_210_0_0_ok 18 rfl)))
  (e_Lok (lk_11_10g ho_210 (x_dk dn_210_0_0_ok 19 rfl)))))
  (e_Tok2
  (e_Lok (lk_11_226g ho_210 (x_dk dn_210_0_0_ok 20 rfl)))
  (e_Tok2
  (e_Lok (e_st (I := eI) (er_ifeq (off := 14) (tg := 56) (x_dk dn_210_0_0_ok 21 rfl) (by decide)) nx_if1))
  (e_Lok (ps_bipush_m10 (x_dk dn_210_0_0_ok 22 rfl))))))))
def te_210_23 : Nat → eE := (e_T 65 (e_T 55 (e_T 48 (e_T 47 (e_L 47 (0, ei_load 0 2 48, 0, 0)) (e_L 48 (0, ei_getf eft elay 11 0 51, 0, 0))) (e_T 51 (e_L 51 (0, ei_getf eft elay 8 2 54, 0, 0)) (e_T 54 (e_L 54 (0, ei_bin eF_sub 55, 0, 0)) (e_L 55 (1, e_nof, 1, 0))))) (e_T 60 (e_T 56 (e_L 56 (0, ei_load 0 2 57, 0, 0)) (e_T 57 (e_L 57 (0, ei_getf eft elay 11 0 60, 0, 0)) (e_L 60 (0, ei_load 0 2 61, 0, 0)))) (e_T 61 (e_L 61 (0, ei_getf eft elay 11 2 64, 0, 0)) (e_T 64 (e_L 64 (0, ei_load 1 0 65, 0, 0)) (e_L 65 (0, ei_aald elay 66, 0, 0)))))) (e_T 79 (e_T 70 (e_T 66 (e_L 66 (0, ei_load 0 2 67, 0, 0)) (e_T 67 (e_L 67 (0, ei_getf eft elay 11 0 70, 0, 0)) (e_L 70 (0, ei_getf eft elay 8 3 73, 0, 0)))) (e_T 73 (e_L 73 (2, e_nof, 4, 2)) (e_T 76 (e_L 76 (0, ei_putf eft elay 8 3 2 79, 0, 0)) (e_L 79 (0, ei_load 0 2 80, 0, 0))))) (e_T 84 (e_T 80 (e_L 80 (0, ei_getf eft elay 11 2 83, 0, 0)) (e_T 83 (e_L 83 (0, ei_load 1 0 84, 0, 0)) (e_L 84 (0, ei_aald elay 85, 0, 0)))) (e_T 85 (e_L 85 (0, ei_getf eft elay 0 7 88, 0, 0)) (e_T 88 (e_L 88 (0, ei_getf eft elay 1 1 91, 0, 0)) (e_L 91 (1, e_nof, 1, 0)))))))
set_option maxRecDepth 20000 in
set_option maxHeartbeats 4000000 in
theorem te_210_23_ok : ∀ pc, e_EOq eft cls elay eI n_210 pc (te_210_23 pc) :=
  (e_Tok2
  (e_Tok2
  (e_Tok2
  (e_Tok2
  (e_Lok (ld_aload_n_0 (x_dk dn_210_0_0_ok 23 rfl)))
  (e_Lok (lk_11_10g ho_210 (x_dk dn_210_0_0_ok 24 rfl))))
  (e_Tok2
  (e_Lok (lk_11_229g ho_210 (x_dk dn_210_0_1_ok 0 rfl)))
  (e_Tok2
  (e_Lok (sm_isub (x_dk dn_210_0_1_ok 1 rfl)))
  (e_Lok (e_rt (I := eI) (k := 1) ⟨(x_dk dn_210_0_1_ok 2 rfl), rfl⟩)))))
  (e_Tok2
  (e_Tok2
  (e_Lok (ld_aload_n_0 (x_dk dn_210_0_1_ok 3 rfl)))
  (e_Tok2
  (e_Lok (lk_11_10g ho_210 (x_dk dn_210_0_1_ok 4 rfl)))
  (e_Lok (ld_aload_n_0 (x_dk dn_210_0_1_ok 5 rfl)))))
  (e_Tok2
  (e_Lok (lk_11_27g ho_210 (x_dk dn_210_0_1_ok 6 rfl)))
  (e_Tok2
  (e_Lok (ld_iload_n_1 (x_dk dn_210_0_1_ok 7 rfl)))
  (e_Lok (e_st (I := eI) (er_aaload (x_dk dn_210_0_1_ok 8 rfl)) nx_aald))))))
  (e_Tok2
  (e_Tok2
  (e_Tok2
  (e_Lok (ld_aload_n_0 (x_dk dn_210_0_1_ok 9 rfl)))
  (e_Tok2
  (e_Lok (lk_11_10g ho_210 (x_dk dn_210_0_1_ok 10 rfl)))
  (e_Lok (lk_11_232g ho_210 (x_dk dn_210_0_1_ok 11 rfl)))))
  (e_Tok2
  (e_Lok (lk_11_236 ho_210 (x_dk dn_210_0_1_ok 12 rfl)))
  (e_Tok2
  (e_Lok (lk_11_232p ho_210 (x_dk dn_210_0_1_ok 13 rfl)))
  (e_Lok (ld_aload_n_0 (x_dk dn_210_0_1_ok 14 rfl))))))
  (e_Tok2
  (e_Tok2
  (e_Lok (lk_11_27g ho_210 (x_dk dn_210_0_1_ok 15 rfl)))
  (e_Tok2
  (e_Lok (ld_iload_n_1 (x_dk dn_210_0_1_ok 16 rfl)))
  (e_Lok (e_st (I := eI) (er_aaload (x_dk dn_210_0_1_ok 17 rfl)) nx_aald))))
  (e_Tok2
  (e_Lok (lk_11_240g ho_210 (x_dk dn_210_0_1_ok 18 rfl)))
  (e_Tok2
  (e_Lok (lk_11_241g ho_210 (x_dk dn_210_0_1_ok 19 rfl)))
  (e_Lok (e_rt (I := eI) (k := 1) ⟨(x_dk dn_210_0_1_ok 20 rfl), rfl⟩)))))))
def te_210 : Nat → eE := (e_T 45 te_210_0 te_210_23)
theorem te_210_ok : ∀ pc, e_EOq eft cls elay eI n_210 pc (te_210 pc) := (e_Tok2 (te_210_0_ok) (te_210_23_ok))
theorem ho_211 : (xm_y n_211).cls = "RobotCellHouse" := rfl
def dn_211_0_0 : List (Nat × Instr × Nat) := [(0, .iload_n 1, 1), (1, .iconst 0, 1), (2, .iconst 1, 1), (3, .invokestatic 82, 3), (6, .ifCond .eq 13, 3), (9, .aload_n 0, 1), (10, .getfield 10, 3), (13, .getfield 226, 3), (16, .ifCond .ge 5, 3), (19, .iconst (-1), 1), (20, .ireturn, 1), (21, .aload_n 0, 1), (22, .getfield 91, 3), (25, .ifCond .eq 6, 3), (28, .bipush (-2), 2), (30, .ireturn, 1), (31, .iload_n 1, 1), (32, .ifCond .ne 13, 3), (35, .aload_n 0, 1), (36, .getfield 10, 3), (39, .getfield 226, 3), (42, .goto 10, 3), (45, .aload_n 0, 1), (46, .getfield 10, 3), (49, .getfield 229, 3)]
set_option maxRecDepth 20000 in
theorem dn_211_0_0_ok : dn_211_0_0.all (fun q => decide (decode (xm_b n_211) q.1 = .ok (q.2.1, q.2.2))) = true := xa_g_ok (by decide +kernel)
def dn_211_0_1 : List (Nat × Instr × Nat) := [(52, .ireturn, 1)]
set_option maxRecDepth 20000 in
theorem dn_211_0_1_ok : dn_211_0_1.all (fun q => decide (decode (xm_b n_211) q.1 = .ok (q.2.1, q.2.2))) = true := xa_g_ok (by decide +kernel)
def te_211_0 : Nat → eE := (e_T 22 (e_T 9 (e_T 2 (e_T 0 (e_L 0 (0, ei_load 1 0 1, 0, 0)) (e_T 1 (e_L 1 (0, ei_push (0, 0) 2, 0, 0)) (e_L 2 (0, ei_push (0, 1) 3, 0, 0)))) (e_T 3 (e_L 3 (2, e_nof, 242, 3)) (e_T 6 (e_L 6 (0, ei_if1 0 19 9, 0, 0)) (e_L 9 (0, ei_load 0 2 10, 0, 0))))) (e_T 16 (e_T 10 (e_L 10 (0, ei_getf eft elay 11 0 13, 0, 0)) (e_T 13 (e_L 13 (0, ei_getf eft elay 8 1 16, 0, 0)) (e_L 16 (0, ei_if1 3 21 19, 0, 0)))) (e_T 20 (e_T 19 (e_L 19 (0, ei_push (0, (-1)) 20, 0, 0)) (e_L 20 (1, e_nof, 1, 0))) (e_T 21 (e_L 21 (0, ei_load 0 2 22, 0, 0)) (e_L 22 (0, ei_getf eft elay 11 13 25, 0, 0)))))) (e_T 35 (e_T 30 (e_T 25 (e_L 25 (0, ei_if1 0 31 28, 0, 0)) (e_T 28 (e_L 28 (0, ei_push (0, (-2)) 30, 0, 0)) (e_L 30 (1, e_nof, 1, 0)))) (e_T 31 (e_L 31 (0, ei_load 1 0 32, 0, 0)) (e_T 32 (e_L 32 (0, ei_if1 1 45 35, 0, 0)) (e_L 35 (0, ei_load 0 2 36, 0, 0))))) (e_T 42 (e_T 36 (e_L 36 (0, ei_getf eft elay 11 0 39, 0, 0)) (e_T 39 (e_L 39 (0, ei_getf eft elay 8 1 42, 0, 0)) (e_L 42 (0, ei_goto 52, 0, 0)))) (e_T 46 (e_T 45 (e_L 45 (0, ei_load 0 2 46, 0, 0)) (e_L 46 (0, ei_getf eft elay 11 0 49, 0, 0))) (e_T 49 (e_L 49 (0, ei_getf eft elay 8 2 52, 0, 0)) (e_L 52 (1, e_nof, 1, 0)))))))
set_option maxRecDepth 20000 in
set_option maxHeartbeats 4000000 in
theorem te_211_0_ok : ∀ pc, e_EOq eft cls elay eI n_211 pc (te_211_0 pc) :=
  (e_Tok2
  (e_Tok2
  (e_Tok2
  (e_Tok2
  (e_Lok (ld_iload_n_1 (x_dk dn_211_0_0_ok 0 rfl)))
  (e_Tok2
  (e_Lok (ps_iconst_0 (x_dk dn_211_0_0_ok 1 rfl)))
  (e_Lok (ps_iconst_1 (x_dk dn_211_0_0_ok 2 rfl)))))
  (e_Tok2
  (e_Lok (lk_11_82 ho_211 (x_dk dn_211_0_0_ok 3 rfl)))
  (e_Tok2
  (e_Lok (e_st (I := eI) (er_ifeq (off := 13) (tg := 19) (x_dk dn_211_0_0_ok 4 rfl) (by decide)) nx_if1))
  (e_Lok (ld_aload_n_0 (x_dk dn_211_0_0_ok 5 rfl))))))
  (e_Tok2
  (e_Tok2
  (e_Lok (lk_11_10g ho_211 (x_dk dn_211_0_0_ok 6 rfl)))
  (e_Tok2
  (e_Lok (lk_11_226g ho_211 (x_dk dn_211_0_0_ok 7 rfl)))
  (e_Lok (e_st (I := eI) (er_ifge (off := 5) (tg := 21) (x_dk dn_211_0_0_ok 8 rfl) (by decide)) nx_if1))))
  (e_Tok2
  (e_Tok2
  (e_Lok (ps_iconst_m1 (x_dk dn_211_0_0_ok 9 rfl)))
  (e_Lok (e_rt (I := eI) (k := 1) ⟨(x_dk dn_211_0_0_ok 10 rfl), rfl⟩)))
  (e_Tok2
  (e_Lok (ld_aload_n_0 (x_dk dn_211_0_0_ok 11 rfl)))
  (e_Lok (lk_11_91g ho_211 (x_dk dn_211_0_0_ok 12 rfl)))))))
  (e_Tok2
  (e_Tok2
  (e_Tok2
  (e_Lok (e_st (I := eI) (er_ifeq (off := 6) (tg := 31) (x_dk dn_211_0_0_ok 13 rfl) (by decide)) nx_if1))
  (e_Tok2
  (e_Lok (ps_bipush_m2 (x_dk dn_211_0_0_ok 14 rfl)))
  (e_Lok (e_rt (I := eI) (k := 1) ⟨(x_dk dn_211_0_0_ok 15 rfl), rfl⟩))))
  (e_Tok2
  (e_Lok (ld_iload_n_1 (x_dk dn_211_0_0_ok 16 rfl)))
  (e_Tok2
  (e_Lok (e_st (I := eI) (er_ifne (off := 13) (tg := 45) (x_dk dn_211_0_0_ok 17 rfl) (by decide)) nx_if1))
  (e_Lok (ld_aload_n_0 (x_dk dn_211_0_0_ok 18 rfl))))))
  (e_Tok2
  (e_Tok2
  (e_Lok (lk_11_10g ho_211 (x_dk dn_211_0_0_ok 19 rfl)))
  (e_Tok2
  (e_Lok (lk_11_226g ho_211 (x_dk dn_211_0_0_ok 20 rfl)))
  (e_Lok (e_st (I := eI) (er_goto (off := 10) (tg := 52) (x_dk dn_211_0_0_ok 21 rfl) (by decide)) nx_goto))))
  (e_Tok2
  (e_Tok2
  (e_Lok (ld_aload_n_0 (x_dk dn_211_0_0_ok 22 rfl)))
  (e_Lok (lk_11_10g ho_211 (x_dk dn_211_0_0_ok 23 rfl))))
  (e_Tok2
  (e_Lok (lk_11_229g ho_211 (x_dk dn_211_0_0_ok 24 rfl)))
  (e_Lok (e_rt (I := eI) (k := 1) ⟨(x_dk dn_211_0_1_ok 0 rfl), rfl⟩)))))))
def te_211 : Nat → eE := te_211_0
theorem te_211_ok : ∀ pc, e_EOq eft cls elay eI n_211 pc (te_211 pc) := te_211_0_ok
theorem ho_212 : (xm_y n_212).cls = "RobotCellHouse" := rfl
def dn_212_0_0 : List (Nat × Instr × Nat) := [(0, .aload_n 0, 1), (1, .getfield 91, 3), (4, .ifCond .eq 6, 3), (7, .bipush (-2), 2), (9, .ireturn, 1), (10, .aload_n 0, 1), (11, .iconst 1, 1), (12, .putfield 91, 3), (15, .aload_n 0, 1), (16, .iconst 0, 1), (17, .putfield 246, 3), (20, .aload_n 0, 1), (21, .invokevirtual 249, 3), (24, .aload_n 0, 1), (25, .getfield 94, 3), (28, .ireturn, 1)]
set_option maxRecDepth 20000 in
theorem dn_212_0_0_ok : dn_212_0_0.all (fun q => decide (decode (xm_b n_212) q.1 = .ok (q.2.1, q.2.2))) = true := xa_g_ok (by decide +kernel)
def te_212_0 : Nat → eE := (e_T 12 (e_T 7 (e_T 1 (e_T 0 (e_L 0 (0, ei_load 0 2 1, 0, 0)) (e_L 1 (0, ei_getf eft elay 11 13 4, 0, 0))) (e_T 4 (e_L 4 (0, ei_if1 0 10 7, 0, 0)) (e_L 7 (0, ei_push (0, (-2)) 9, 0, 0)))) (e_T 10 (e_T 9 (e_L 9 (1, e_nof, 1, 0)) (e_L 10 (0, ei_load 0 2 11, 0, 0))) (e_T 11 (e_L 11 (0, ei_push (0, 1) 12, 0, 0)) (e_L 12 (0, ei_putf eft elay 11 13 1 15, 0, 0))))) (e_T 20 (e_T 16 (e_T 15 (e_L 15 (0, ei_load 0 2 16, 0, 0)) (e_L 16 (0, ei_push (0, 0) 17, 0, 0))) (e_T 17 (e_L 17 (0, ei_putf eft elay 11 12 0 20, 0, 0)) (e_L 20 (0, ei_load 0 2 21, 0, 0)))) (e_T 24 (e_T 21 (e_L 21 (2, e_nof, 252, 1)) (e_L 24 (0, ei_load 0 2 25, 0, 0))) (e_T 25 (e_L 25 (0, ei_getf eft elay 11 11 28, 0, 0)) (e_L 28 (1, e_nof, 1, 0))))))
set_option maxRecDepth 20000 in
set_option maxHeartbeats 4000000 in
theorem te_212_0_ok : ∀ pc, e_EOq eft cls elay eI n_212 pc (te_212_0 pc) :=
  (e_Tok2
  (e_Tok2
  (e_Tok2
  (e_Tok2
  (e_Lok (ld_aload_n_0 (x_dk dn_212_0_0_ok 0 rfl)))
  (e_Lok (lk_11_91g ho_212 (x_dk dn_212_0_0_ok 1 rfl))))
  (e_Tok2
  (e_Lok (e_st (I := eI) (er_ifeq (off := 6) (tg := 10) (x_dk dn_212_0_0_ok 2 rfl) (by decide)) nx_if1))
  (e_Lok (ps_bipush_m2 (x_dk dn_212_0_0_ok 3 rfl)))))
  (e_Tok2
  (e_Tok2
  (e_Lok (e_rt (I := eI) (k := 1) ⟨(x_dk dn_212_0_0_ok 4 rfl), rfl⟩))
  (e_Lok (ld_aload_n_0 (x_dk dn_212_0_0_ok 5 rfl))))
  (e_Tok2
  (e_Lok (ps_iconst_1 (x_dk dn_212_0_0_ok 6 rfl)))
  (e_Lok (lk_11_91p ho_212 (x_dk dn_212_0_0_ok 7 rfl))))))
  (e_Tok2
  (e_Tok2
  (e_Tok2
  (e_Lok (ld_aload_n_0 (x_dk dn_212_0_0_ok 8 rfl)))
  (e_Lok (ps_iconst_0 (x_dk dn_212_0_0_ok 9 rfl))))
  (e_Tok2
  (e_Lok (lk_11_246p ho_212 (x_dk dn_212_0_0_ok 10 rfl)))
  (e_Lok (ld_aload_n_0 (x_dk dn_212_0_0_ok 11 rfl)))))
  (e_Tok2
  (e_Tok2
  (e_Lok (lk_11_249 ho_212 (x_dk dn_212_0_0_ok 12 rfl)))
  (e_Lok (ld_aload_n_0 (x_dk dn_212_0_0_ok 13 rfl))))
  (e_Tok2
  (e_Lok (lk_11_94g ho_212 (x_dk dn_212_0_0_ok 14 rfl)))
  (e_Lok (e_rt (I := eI) (k := 1) ⟨(x_dk dn_212_0_0_ok 15 rfl), rfl⟩))))))
def te_212 : Nat → eE := te_212_0
theorem te_212_ok : ∀ pc, e_EOq eft cls elay eI n_212 pc (te_212 pc) := te_212_0_ok
theorem ho_213 : (xm_y n_213).cls = "RobotCellHouse" := rfl
def dn_213_0_0 : List (Nat × Instr × Nat) := [(0, .aload_n 0, 1), (1, .iload_n 1, 1), (2, .invokevirtual 103, 3), (5, .ifCond .eq 25, 3), (8, .iload_n 2, 1), (9, .iconst 0, 1), (10, .aload_n 0, 1), (11, .getfield 27, 3), (14, .iload_n 1, 1), (15, .aaload, 1), (16, .getfield 240, 3), (19, .getfield 241, 3), (22, .iconst 1, 1), (23, .isub, 1), (24, .invokestatic 82, 3), (27, .ifCond .ne 5, 3), (30, .iconst (-1), 1), (31, .ireturn, 1), (32, .aload_n 0, 1), (33, .getfield 91, 3), (36, .ifCond .ne 6, 3), (39, .bipush (-2), 2), (41, .ireturn, 1), (42, .aload_n 0, 1), (43, .getfield 19, 3)]
set_option maxRecDepth 20000 in
theorem dn_213_0_0_ok : dn_213_0_0.all (fun q => decide (decode (xm_b n_213) q.1 = .ok (q.2.1, q.2.2))) = true := xa_g_ok (by decide +kernel)
def dn_213_0_1 : List (Nat × Instr × Nat) := [(46, .invokevirtual 252, 3), (49, .ifCond .ge 6, 3), (52, .bipush (-3), 2), (54, .ireturn, 1), (55, .aload_n 0, 1), (56, .iconst 0, 1), (57, .iload_n 1, 1), (58, .iload_n 2, 1), (59, .iconst 0, 1), (60, .invokevirtual 255, 3), (63, .ireturn, 1)]
set_option maxRecDepth 20000 in
theorem dn_213_0_1_ok : dn_213_0_1.all (fun q => decide (decode (xm_b n_213) q.1 = .ok (q.2.1, q.2.2))) = true := xa_g_ok (by decide +kernel)
def te_213_0 : Nat → eE := (e_T 31 (e_T 14 (e_T 5 (e_T 1 (e_T 0 (e_L 0 (0, ei_load 0 2 1, 0, 0)) (e_L 1 (0, ei_load 1 0 2, 0, 0))) (e_T 2 (e_L 2 (2, e_nof, 246, 2)) (e_L 5 (0, ei_if1 0 30 8, 0, 0)))) (e_T 9 (e_T 8 (e_L 8 (0, ei_load 2 0 9, 0, 0)) (e_L 9 (0, ei_push (0, 0) 10, 0, 0))) (e_T 10 (e_L 10 (0, ei_load 0 2 11, 0, 0)) (e_T 11 (e_L 11 (0, ei_getf eft elay 11 2 14, 0, 0)) (e_L 14 (0, ei_load 1 0 15, 0, 0)))))) (e_T 22 (e_T 16 (e_T 15 (e_L 15 (0, ei_aald elay 16, 0, 0)) (e_L 16 (0, ei_getf eft elay 0 7 19, 0, 0))) (e_T 19 (e_L 19 (0, ei_getf eft elay 1 1 22, 0, 0)) (e_L 22 (0, ei_push (0, 1) 23, 0, 0)))) (e_T 24 (e_T 23 (e_L 23 (0, ei_bin eF_sub 24, 0, 0)) (e_L 24 (2, e_nof, 242, 3))) (e_T 27 (e_L 27 (0, ei_if1 1 32 30, 0, 0)) (e_T 30 (e_L 30 (0, ei_push (0, (-1)) 31, 0, 0)) (e_L 31 (1, e_nof, 1, 0))))))) (e_T 49 (e_T 39 (e_T 33 (e_T 32 (e_L 32 (0, ei_load 0 2 33, 0, 0)) (e_L 33 (0, ei_getf eft elay 11 13 36, 0, 0))) (e_T 36 (e_L 36 (0, ei_if1 1 42 39, 0, 0)) (e_L 39 (0, ei_push (0, (-2)) 41, 0, 0)))) (e_T 42 (e_T 41 (e_L 41 (1, e_nof, 1, 0)) (e_L 42 (0, ei_load 0 2 43, 0, 0))) (e_T 43 (e_L 43 (0, ei_getf eft elay 11 1 46, 0, 0)) (e_T 46 (e_L 46 (2, e_nof, 36, 1)) (e_L 49 (0, ei_if1 3 55 52, 0, 0)))))) (e_T 56 (e_T 54 (e_T 52 (e_L 52 (0, ei_push (0, (-3)) 54, 0, 0)) (e_L 54 (1, e_nof, 1, 0))) (e_T 55 (e_L 55 (0, ei_load 0 2 56, 0, 0)) (e_L 56 (0, ei_push (0, 0) 57, 0, 0)))) (e_T 58 (e_T 57 (e_L 57 (0, ei_load 1 0 58, 0, 0)) (e_L 58 (0, ei_load 2 0 59, 0, 0))) (e_T 59 (e_L 59 (0, ei_push (0, 0) 60, 0, 0)) (e_T 60 (e_L 60 (2, e_nof, 255, 5)) (e_L 63 (1, e_nof, 1, 0))))))))
set_option maxRecDepth 20000 in
set_option maxHeartbeats 4000000 in
theorem te_213_0_ok : ∀ pc, e_EOq eft cls elay eI n_213 pc (te_213_0 pc) :=
  (e_Tok2
  (e_Tok2
  (e_Tok2
  (e_Tok2
  (e_Tok2
  (e_Lok (ld_aload_n_0 (x_dk dn_213_0_0_ok 0 rfl)))
  (e_Lok (ld_iload_n_1 (x_dk dn_213_0_0_ok 1 rfl))))
  (e_Tok2
  (e_Lok (lk_11_103 ho_213 (x_dk dn_213_0_0_ok 2 rfl)))
  (e_Lok (e_st (I := eI) (er_ifeq (off := 25) (tg := 30) (x_dk dn_213_0_0_ok 3 rfl) (by decide)) nx_if1))))
  (e_Tok2
  (e_Tok2
  (e_Lok (ld_iload_n_2 (x_dk dn_213_0_0_ok 4 rfl)))
  (e_Lok (ps_iconst_0 (x_dk dn_213_0_0_ok 5 rfl))))
  (e_Tok2
  (e_Lok (ld_aload_n_0 (x_dk dn_213_0_0_ok 6 rfl)))
  (e_Tok2
  (e_Lok (lk_11_27g ho_213 (x_dk dn_213_0_0_ok 7 rfl)))
  (e_Lok (ld_iload_n_1 (x_dk dn_213_0_0_ok 8 rfl)))))))
  (e_Tok2
  (e_Tok2
  (e_Tok2
  (e_Lok (e_st (I := eI) (er_aaload (x_dk dn_213_0_0_ok 9 rfl)) nx_aald))
  (e_Lok (lk_11_240g ho_213 (x_dk dn_213_0_0_ok 10 rfl))))
  (e_Tok2
  (e_Lok (lk_11_241g ho_213 (x_dk dn_213_0_0_ok 11 rfl)))
  (e_Lok (ps_iconst_1 (x_dk dn_213_0_0_ok 12 rfl)))))
  (e_Tok2
  (e_Tok2
  (e_Lok (sm_isub (x_dk dn_213_0_0_ok 13 rfl)))
  (e_Lok (lk_11_82 ho_213 (x_dk dn_213_0_0_ok 14 rfl))))
  (e_Tok2
  (e_Lok (e_st (I := eI) (er_ifne (off := 5) (tg := 32) (x_dk dn_213_0_0_ok 15 rfl) (by decide)) nx_if1))
  (e_Tok2
  (e_Lok (ps_iconst_m1 (x_dk dn_213_0_0_ok 16 rfl)))
  (e_Lok (e_rt (I := eI) (k := 1) ⟨(x_dk dn_213_0_0_ok 17 rfl), rfl⟩)))))))
  (e_Tok2
  (e_Tok2
  (e_Tok2
  (e_Tok2
  (e_Lok (ld_aload_n_0 (x_dk dn_213_0_0_ok 18 rfl)))
  (e_Lok (lk_11_91g ho_213 (x_dk dn_213_0_0_ok 19 rfl))))
  (e_Tok2
  (e_Lok (e_st (I := eI) (er_ifne (off := 6) (tg := 42) (x_dk dn_213_0_0_ok 20 rfl) (by decide)) nx_if1))
  (e_Lok (ps_bipush_m2 (x_dk dn_213_0_0_ok 21 rfl)))))
  (e_Tok2
  (e_Tok2
  (e_Lok (e_rt (I := eI) (k := 1) ⟨(x_dk dn_213_0_0_ok 22 rfl), rfl⟩))
  (e_Lok (ld_aload_n_0 (x_dk dn_213_0_0_ok 23 rfl))))
  (e_Tok2
  (e_Lok (lk_11_19g ho_213 (x_dk dn_213_0_0_ok 24 rfl)))
  (e_Tok2
  (e_Lok (lk_11_252 ho_213 (x_dk dn_213_0_1_ok 0 rfl)))
  (e_Lok (e_st (I := eI) (er_ifge (off := 6) (tg := 55) (x_dk dn_213_0_1_ok 1 rfl) (by decide)) nx_if1))))))
  (e_Tok2
  (e_Tok2
  (e_Tok2
  (e_Lok (ps_bipush_m3 (x_dk dn_213_0_1_ok 2 rfl)))
  (e_Lok (e_rt (I := eI) (k := 1) ⟨(x_dk dn_213_0_1_ok 3 rfl), rfl⟩)))
  (e_Tok2
  (e_Lok (ld_aload_n_0 (x_dk dn_213_0_1_ok 4 rfl)))
  (e_Lok (ps_iconst_0 (x_dk dn_213_0_1_ok 5 rfl)))))
  (e_Tok2
  (e_Tok2
  (e_Lok (ld_iload_n_1 (x_dk dn_213_0_1_ok 6 rfl)))
  (e_Lok (ld_iload_n_2 (x_dk dn_213_0_1_ok 7 rfl))))
  (e_Tok2
  (e_Lok (ps_iconst_0 (x_dk dn_213_0_1_ok 8 rfl)))
  (e_Tok2
  (e_Lok (lk_11_255 ho_213 (x_dk dn_213_0_1_ok 9 rfl)))
  (e_Lok (e_rt (I := eI) (k := 1) ⟨(x_dk dn_213_0_1_ok 10 rfl), rfl⟩))))))))
def te_213 : Nat → eE := te_213_0
theorem te_213_ok : ∀ pc, e_EOq eft cls elay eI n_213 pc (te_213 pc) := te_213_0_ok
theorem ho_214 : (xm_y n_214).cls = "RobotCellHouse" := rfl
def dn_214_0_0 : List (Nat × Instr × Nat) := [(0, .iload_n 1, 1), (1, .iconst 1, 1), (2, .sipush 1000, 3), (5, .invokestatic 82, 3), (8, .ifCond .ne 5, 3), (11, .iconst (-1), 1), (12, .ireturn, 1), (13, .aload_n 0, 1), (14, .getfield 91, 3), (17, .ifCond .ne 6, 3), (20, .bipush (-2), 2), (22, .ireturn, 1), (23, .iload_n 1, 1), (24, .sipush 6000, 3), (27, .aload_n 0, 1), (28, .getfield 42, 3), (31, .getfield 86, 3), (34, .isub, 1), (35, .invokestatic 258, 3), (38, .istore_n 2, 1), (39, .iload_n 2, 1), (40, .ifCond .le 10, 3), (43, .aload_n 0, 1), (44, .invokevirtual 264, 3), (47, .ifCond .ne 6, 3)]
set_option maxRecDepth 20000 in
theorem dn_214_0_0_ok : dn_214_0_0.all (fun q => decide (decode (xm_b n_214) q.1 = .ok (q.2.1, q.2.2))) = true := xa_g_ok (by decide +kernel)
def dn_214_0_1 : List (Nat × Instr × Nat) := [(50, .bipush (-3), 2), (52, .ireturn, 1), (53, .aload_n 0, 1), (54, .iconst 1, 1), (55, .iload_n 2, 1), (56, .iconst 0, 1), (57, .iconst 0, 1), (58, .invokevirtual 268, 3), (61, .iconst 0, 1), (62, .istore_n 3, 1), (63, .iload_n 3, 1), (64, .iload_n 2, 1), (65, .if_icmp .ge 13, 3), (68, .aload_n 0, 1), (69, .invokevirtual 271, 3), (72, .iinc 3 1, 3), (75, .goto (-12), 3), (78, .iload_n 2, 1), (79, .ireturn, 1)]
set_option maxRecDepth 20000 in
theorem dn_214_0_1_ok : dn_214_0_1.all (fun q => decide (decode (xm_b n_214) q.1 = .ok (q.2.1, q.2.2))) = true := xa_g_ok (by decide +kernel)
def te_214_0 : Nat → eE := (e_T 20 (e_T 8 (e_T 1 (e_T 0 (e_L 0 (0, ei_load 1 0 1, 0, 0)) (e_L 1 (0, ei_push (0, 1) 2, 0, 0))) (e_T 2 (e_L 2 (0, ei_push (0, 1000) 5, 0, 0)) (e_T 5 (e_L 5 (2, e_nof, 242, 3)) (e_L 8 (0, ei_if1 1 13 11, 0, 0))))) (e_T 13 (e_T 11 (e_L 11 (0, ei_push (0, (-1)) 12, 0, 0)) (e_T 12 (e_L 12 (1, e_nof, 1, 0)) (e_L 13 (0, ei_load 0 2 14, 0, 0)))) (e_T 14 (e_L 14 (0, ei_getf eft elay 11 13 17, 0, 0)) (e_T 17 (e_L 17 (0, ei_if1 1 23 20, 0, 0)) (e_L 20 (0, ei_push (0, (-2)) 22, 0, 0)))))) (e_T 28 (e_T 23 (e_T 22 (e_L 22 (1, e_nof, 1, 0)) (e_L 23 (0, ei_load 1 0 24, 0, 0))) (e_T 24 (e_L 24 (0, ei_push (0, 6000) 27, 0, 0)) (e_T 27 (e_L 27 (0, ei_load 0 2 28, 0, 0)) (e_L 28 (0, ei_getf eft elay 11 5 31, 0, 0))))) (e_T 35 (e_T 31 (e_L 31 (0, ei_getf eft elay 2 0 34, 0, 0)) (e_T 34 (e_L 34 (0, ei_bin eF_sub 35, 0, 0)) (e_L 35 (0, ei_m2 eM_min 38, 0, 0)))) (e_T 38 (e_L 38 (0, ei_stor 2 0 39, 0, 0)) (e_T 39 (e_L 39 (0, ei_load 2 0 40, 0, 0)) (e_L 40 (0, ei_if1 5 50 43, 0, 0)))))))
set_option maxRecDepth 20000 in
set_option maxHeartbeats 4000000 in
theorem te_214_0_ok : ∀ pc, e_EOq eft cls elay eI n_214 pc (te_214_0 pc) :=
  (e_Tok2
  (e_Tok2
  (e_Tok2
  (e_Tok2
  (e_Lok (ld_iload_n_1 (x_dk dn_214_0_0_ok 0 rfl)))
  (e_Lok (ps_iconst_1 (x_dk dn_214_0_0_ok 1 rfl))))
  (e_Tok2
  (e_Lok (ps_sipush_1000 (x_dk dn_214_0_0_ok 2 rfl)))
  (e_Tok2
  (e_Lok (lk_11_82 ho_214 (x_dk dn_214_0_0_ok 3 rfl)))
  (e_Lok (e_st (I := eI) (er_ifne (off := 5) (tg := 13) (x_dk dn_214_0_0_ok 4 rfl) (by decide)) nx_if1)))))
  (e_Tok2
  (e_Tok2
  (e_Lok (ps_iconst_m1 (x_dk dn_214_0_0_ok 5 rfl)))
  (e_Tok2
  (e_Lok (e_rt (I := eI) (k := 1) ⟨(x_dk dn_214_0_0_ok 6 rfl), rfl⟩))
  (e_Lok (ld_aload_n_0 (x_dk dn_214_0_0_ok 7 rfl)))))
  (e_Tok2
  (e_Lok (lk_11_91g ho_214 (x_dk dn_214_0_0_ok 8 rfl)))
  (e_Tok2
  (e_Lok (e_st (I := eI) (er_ifne (off := 6) (tg := 23) (x_dk dn_214_0_0_ok 9 rfl) (by decide)) nx_if1))
  (e_Lok (ps_bipush_m2 (x_dk dn_214_0_0_ok 10 rfl)))))))
  (e_Tok2
  (e_Tok2
  (e_Tok2
  (e_Lok (e_rt (I := eI) (k := 1) ⟨(x_dk dn_214_0_0_ok 11 rfl), rfl⟩))
  (e_Lok (ld_iload_n_1 (x_dk dn_214_0_0_ok 12 rfl))))
  (e_Tok2
  (e_Lok (ps_sipush_6000 (x_dk dn_214_0_0_ok 13 rfl)))
  (e_Tok2
  (e_Lok (ld_aload_n_0 (x_dk dn_214_0_0_ok 14 rfl)))
  (e_Lok (lk_11_42g ho_214 (x_dk dn_214_0_0_ok 15 rfl))))))
  (e_Tok2
  (e_Tok2
  (e_Lok (lk_11_86g ho_214 (x_dk dn_214_0_0_ok 16 rfl)))
  (e_Tok2
  (e_Lok (sm_isub (x_dk dn_214_0_0_ok 17 rfl)))
  (e_Lok (e_st (I := eI) (er_min (ix := 258) (in_t7 (List.mem_of_getElem? (i := 46) rfl) rfl) (in_t5 (List.mem_of_getElem? (i := 187) rfl) rfl) (in_t1 (List.mem_of_getElem? (i := 15) rfl) rfl) (in_t5 (List.mem_of_getElem? (i := 188) rfl) rfl) (x_dk dn_214_0_0_ok 18 rfl)) nx_m2))))
  (e_Tok2
  (e_Lok (e_st (I := eI) (er_istore_n (i := 2) (x_dk dn_214_0_0_ok 19 rfl) (by decide +kernel)) nx_stor))
  (e_Tok2
  (e_Lok (ld_iload_n_2 (x_dk dn_214_0_0_ok 20 rfl)))
  (e_Lok (e_st (I := eI) (er_ifle (off := 10) (tg := 50) (x_dk dn_214_0_0_ok 21 rfl) (by decide)) nx_if1)))))))
def te_214_22 : Nat → eE := (e_T 58 (e_T 52 (e_T 44 (e_T 43 (e_L 43 (0, ei_load 0 2 44, 0, 0)) (e_L 44 (2, e_nof, 253, 1))) (e_T 47 (e_L 47 (0, ei_if1 1 53 50, 0, 0)) (e_T 50 (e_L 50 (0, ei_push (0, (-3)) 52, 0, 0)) (e_L 52 (1, e_nof, 1, 0))))) (e_T 55 (e_T 53 (e_L 53 (0, ei_load 0 2 54, 0, 0)) (e_T 54 (e_L 54 (0, ei_push (0, 1) 55, 0, 0)) (e_L 55 (0, ei_load 2 0 56, 0, 0)))) (e_T 56 (e_L 56 (0, ei_push (0, 0) 57, 0, 0)) (e_T 57 (e_L 57 (0, ei_push (0, 0) 58, 0, 0)) (e_L 58 (2, e_nof, 254, 5)))))) (e_T 65 (e_T 62 (e_T 61 (e_L 61 (0, ei_push (0, 0) 62, 0, 0)) (e_L 62 (0, ei_stor 3 0 63, 0, 0))) (e_T 63 (e_L 63 (0, ei_load 3 0 64, 0, 0)) (e_T 64 (e_L 64 (0, ei_load 2 0 65, 0, 0)) (e_L 65 (0, ei_if2 3 78 68, 0, 0))))) (e_T 72 (e_T 68 (e_L 68 (0, ei_load 0 2 69, 0, 0)) (e_T 69 (e_L 69 (2, e_nof, 259, 1)) (e_L 72 (0, ei_inc 3 1 75, 0, 0)))) (e_T 75 (e_L 75 (0, ei_goto 63, 0, 0)) (e_T 78 (e_L 78 (0, ei_load 2 0 79, 0, 0)) (e_L 79 (1, e_nof, 1, 0)))))))
set_option maxRecDepth 20000 in
set_option maxHeartbeats 4000000 in
theorem te_214_22_ok : ∀ pc, e_EOq eft cls elay eI n_214 pc (te_214_22 pc) :=
  (e_Tok2
  (e_Tok2
  (e_Tok2
  (e_Tok2
  (e_Lok (ld_aload_n_0 (x_dk dn_214_0_0_ok 22 rfl)))
  (e_Lok (lk_11_264 ho_214 (x_dk dn_214_0_0_ok 23 rfl))))
  (e_Tok2
  (e_Lok (e_st (I := eI) (er_ifne (off := 6) (tg := 53) (x_dk dn_214_0_0_ok 24 rfl) (by decide)) nx_if1))
  (e_Tok2
  (e_Lok (ps_bipush_m3 (x_dk dn_214_0_1_ok 0 rfl)))
  (e_Lok (e_rt (I := eI) (k := 1) ⟨(x_dk dn_214_0_1_ok 1 rfl), rfl⟩)))))
  (e_Tok2
  (e_Tok2
  (e_Lok (ld_aload_n_0 (x_dk dn_214_0_1_ok 2 rfl)))
  (e_Tok2
  (e_Lok (ps_iconst_1 (x_dk dn_214_0_1_ok 3 rfl)))
  (e_Lok (ld_iload_n_2 (x_dk dn_214_0_1_ok 4 rfl)))))
  (e_Tok2
  (e_Lok (ps_iconst_0 (x_dk dn_214_0_1_ok 5 rfl)))
  (e_Tok2
  (e_Lok (ps_iconst_0 (x_dk dn_214_0_1_ok 6 rfl)))
  (e_Lok (lk_11_268 ho_214 (x_dk dn_214_0_1_ok 7 rfl)))))))
  (e_Tok2
  (e_Tok2
  (e_Tok2
  (e_Lok (ps_iconst_0 (x_dk dn_214_0_1_ok 8 rfl)))
  (e_Lok (e_st (I := eI) (er_istore_n (i := 3) (x_dk dn_214_0_1_ok 9 rfl) (by decide +kernel)) nx_stor)))
  (e_Tok2
  (e_Lok (ld_iload_n_3 (x_dk dn_214_0_1_ok 10 rfl)))
  (e_Tok2
  (e_Lok (ld_iload_n_2 (x_dk dn_214_0_1_ok 11 rfl)))
  (e_Lok (e_st (I := eI) (er_icmpge (off := 13) (tg := 78) (x_dk dn_214_0_1_ok 12 rfl) (by decide)) nx_if2)))))
  (e_Tok2
  (e_Tok2
  (e_Lok (ld_aload_n_0 (x_dk dn_214_0_1_ok 13 rfl)))
  (e_Tok2
  (e_Lok (lk_11_271 ho_214 (x_dk dn_214_0_1_ok 14 rfl)))
  (e_Lok (e_st (I := eI) (er_iinc (i := 3) (n := 1) (x_dk dn_214_0_1_ok 15 rfl) (by decide +kernel) (by decide)) nx_inc))))
  (e_Tok2
  (e_Lok (e_st (I := eI) (er_goto (off := (-12)) (tg := 63) (x_dk dn_214_0_1_ok 16 rfl) (by decide)) nx_goto))
  (e_Tok2
  (e_Lok (ld_iload_n_2 (x_dk dn_214_0_1_ok 17 rfl)))
  (e_Lok (e_rt (I := eI) (k := 1) ⟨(x_dk dn_214_0_1_ok 18 rfl), rfl⟩)))))))
def te_214 : Nat → eE := (e_T 40 te_214_0 te_214_22)
theorem te_214_ok : ∀ pc, e_EOq eft cls elay eI n_214 pc (te_214 pc) := (e_Tok2 (te_214_0_ok) (te_214_22_ok))
theorem ho_215 : (xm_y n_215).cls = "RobotCellHouse" := rfl
def dn_215_0_0 : List (Nat × Instr × Nat) := [(0, .iload_n 1, 1), (1, .invokestatic 178, 3), (4, .ifCond .ne 5, 3), (7, .iconst (-1), 1), (8, .ireturn, 1), (9, .aload_n 0, 1), (10, .getfield 91, 3), (13, .ifCond .ne 6, 3), (16, .bipush (-2), 2), (18, .ireturn, 1), (19, .aload_n 0, 1), (20, .iconst 2, 1), (21, .iload_n 1, 1), (22, .iload_n 2, 1), (23, .iconst 0, 1), (24, .invokevirtual 255, 3), (27, .ireturn, 1)]
set_option maxRecDepth 20000 in
theorem dn_215_0_0_ok : dn_215_0_0.all (fun q => decide (decode (xm_b n_215) q.1 = .ok (q.2.1, q.2.2))) = true := xa_g_ok (by decide +kernel)
def te_215_0 : Nat → eE := (e_T 13 (e_T 7 (e_T 1 (e_T 0 (e_L 0 (0, ei_load 1 0 1, 0, 0)) (e_L 1 (2, e_nof, 245, 1))) (e_T 4 (e_L 4 (0, ei_if1 1 9 7, 0, 0)) (e_L 7 (0, ei_push (0, (-1)) 8, 0, 0)))) (e_T 9 (e_T 8 (e_L 8 (1, e_nof, 1, 0)) (e_L 9 (0, ei_load 0 2 10, 0, 0))) (e_T 10 (e_L 10 (0, ei_getf eft elay 11 13 13, 0, 0)) (e_L 13 (0, ei_if1 1 19 16, 0, 0))))) (e_T 20 (e_T 18 (e_T 16 (e_L 16 (0, ei_push (0, (-2)) 18, 0, 0)) (e_L 18 (1, e_nof, 1, 0))) (e_T 19 (e_L 19 (0, ei_load 0 2 20, 0, 0)) (e_L 20 (0, ei_push (0, 2) 21, 0, 0)))) (e_T 22 (e_T 21 (e_L 21 (0, ei_load 1 0 22, 0, 0)) (e_L 22 (0, ei_load 2 0 23, 0, 0))) (e_T 23 (e_L 23 (0, ei_push (0, 0) 24, 0, 0)) (e_T 24 (e_L 24 (2, e_nof, 255, 5)) (e_L 27 (1, e_nof, 1, 0)))))))
set_option maxRecDepth 20000 in
set_option maxHeartbeats 4000000 in
theorem te_215_0_ok : ∀ pc, e_EOq eft cls elay eI n_215 pc (te_215_0 pc) :=
  (e_Tok2
  (e_Tok2
  (e_Tok2
  (e_Tok2
  (e_Lok (ld_iload_n_1 (x_dk dn_215_0_0_ok 0 rfl)))
  (e_Lok (lk_11_178 ho_215 (x_dk dn_215_0_0_ok 1 rfl))))
  (e_Tok2
  (e_Lok (e_st (I := eI) (er_ifne (off := 5) (tg := 9) (x_dk dn_215_0_0_ok 2 rfl) (by decide)) nx_if1))
  (e_Lok (ps_iconst_m1 (x_dk dn_215_0_0_ok 3 rfl)))))
  (e_Tok2
  (e_Tok2
  (e_Lok (e_rt (I := eI) (k := 1) ⟨(x_dk dn_215_0_0_ok 4 rfl), rfl⟩))
  (e_Lok (ld_aload_n_0 (x_dk dn_215_0_0_ok 5 rfl))))
  (e_Tok2
  (e_Lok (lk_11_91g ho_215 (x_dk dn_215_0_0_ok 6 rfl)))
  (e_Lok (e_st (I := eI) (er_ifne (off := 6) (tg := 19) (x_dk dn_215_0_0_ok 7 rfl) (by decide)) nx_if1)))))
  (e_Tok2
  (e_Tok2
  (e_Tok2
  (e_Lok (ps_bipush_m2 (x_dk dn_215_0_0_ok 8 rfl)))
  (e_Lok (e_rt (I := eI) (k := 1) ⟨(x_dk dn_215_0_0_ok 9 rfl), rfl⟩)))
  (e_Tok2
  (e_Lok (ld_aload_n_0 (x_dk dn_215_0_0_ok 10 rfl)))
  (e_Lok (ps_iconst_2 (x_dk dn_215_0_0_ok 11 rfl)))))
  (e_Tok2
  (e_Tok2
  (e_Lok (ld_iload_n_1 (x_dk dn_215_0_0_ok 12 rfl)))
  (e_Lok (ld_iload_n_2 (x_dk dn_215_0_0_ok 13 rfl))))
  (e_Tok2
  (e_Lok (ps_iconst_0 (x_dk dn_215_0_0_ok 14 rfl)))
  (e_Tok2
  (e_Lok (lk_11_255 ho_215 (x_dk dn_215_0_0_ok 15 rfl)))
  (e_Lok (e_rt (I := eI) (k := 1) ⟨(x_dk dn_215_0_0_ok 16 rfl), rfl⟩)))))))
def te_215 : Nat → eE := te_215_0
theorem te_215_ok : ∀ pc, e_EOq eft cls elay eI n_215 pc (te_215 pc) := te_215_0_ok
theorem ho_216 : (xm_y n_216).cls = "RobotCellHouse" := rfl
def dn_216_0_0 : List (Nat × Instr × Nat) := [(0, .iload_n 1, 1), (1, .invokestatic 178, 3), (4, .ifCond .ne 5, 3), (7, .iconst (-1), 1), (8, .ireturn, 1), (9, .aload_n 0, 1), (10, .getfield 91, 3), (13, .ifCond .ne 6, 3), (16, .bipush (-2), 2), (18, .ireturn, 1), (19, .aload_n 0, 1), (20, .iconst 3, 1), (21, .iload_n 1, 1), (22, .iload_n 2, 1), (23, .iload_n 3, 1), (24, .ifCond .eq 7, 3), (27, .iconst 1, 1), (28, .goto 4, 3), (31, .iconst 0, 1), (32, .invokevirtual 255, 3), (35, .ireturn, 1)]
set_option maxRecDepth 20000 in
theorem dn_216_0_0_ok : dn_216_0_0.all (fun q => decide (decode (xm_b n_216) q.1 = .ok (q.2.1, q.2.2))) = true := xa_g_ok (by decide +kernel)
def te_216_0 : Nat → eE := (e_T 18 (e_T 8 (e_T 1 (e_T 0 (e_L 0 (0, ei_load 1 0 1, 0, 0)) (e_L 1 (2, e_nof, 245, 1))) (e_T 4 (e_L 4 (0, ei_if1 1 9 7, 0, 0)) (e_T 7 (e_L 7 (0, ei_push (0, (-1)) 8, 0, 0)) (e_L 8 (1, e_nof, 1, 0))))) (e_T 10 (e_T 9 (e_L 9 (0, ei_load 0 2 10, 0, 0)) (e_L 10 (0, ei_getf eft elay 11 13 13, 0, 0))) (e_T 13 (e_L 13 (0, ei_if1 1 19 16, 0, 0)) (e_T 16 (e_L 16 (0, ei_push (0, (-2)) 18, 0, 0)) (e_L 18 (1, e_nof, 1, 0)))))) (e_T 23 (e_T 20 (e_T 19 (e_L 19 (0, ei_load 0 2 20, 0, 0)) (e_L 20 (0, ei_push (0, 3) 21, 0, 0))) (e_T 21 (e_L 21 (0, ei_load 1 0 22, 0, 0)) (e_T 22 (e_L 22 (0, ei_load 2 0 23, 0, 0)) (e_L 23 (0, ei_load 3 0 24, 0, 0))))) (e_T 28 (e_T 24 (e_L 24 (0, ei_if1 0 31 27, 0, 0)) (e_T 27 (e_L 27 (0, ei_push (0, 1) 28, 0, 0)) (e_L 28 (0, ei_goto 32, 0, 0)))) (e_T 31 (e_L 31 (0, ei_push (0, 0) 32, 0, 0)) (e_T 32 (e_L 32 (2, e_nof, 255, 5)) (e_L 35 (1, e_nof, 1, 0)))))))
set_option maxRecDepth 20000 in
set_option maxHeartbeats 4000000 in
theorem te_216_0_ok : ∀ pc, e_EOq eft cls elay eI n_216 pc (te_216_0 pc) :=
  (e_Tok2
  (e_Tok2
  (e_Tok2
  (e_Tok2
  (e_Lok (ld_iload_n_1 (x_dk dn_216_0_0_ok 0 rfl)))
  (e_Lok (lk_11_178 ho_216 (x_dk dn_216_0_0_ok 1 rfl))))
  (e_Tok2
  (e_Lok (e_st (I := eI) (er_ifne (off := 5) (tg := 9) (x_dk dn_216_0_0_ok 2 rfl) (by decide)) nx_if1))
  (e_Tok2
  (e_Lok (ps_iconst_m1 (x_dk dn_216_0_0_ok 3 rfl)))
  (e_Lok (e_rt (I := eI) (k := 1) ⟨(x_dk dn_216_0_0_ok 4 rfl), rfl⟩)))))
  (e_Tok2
  (e_Tok2
  (e_Lok (ld_aload_n_0 (x_dk dn_216_0_0_ok 5 rfl)))
  (e_Lok (lk_11_91g ho_216 (x_dk dn_216_0_0_ok 6 rfl))))
  (e_Tok2
  (e_Lok (e_st (I := eI) (er_ifne (off := 6) (tg := 19) (x_dk dn_216_0_0_ok 7 rfl) (by decide)) nx_if1))
  (e_Tok2
  (e_Lok (ps_bipush_m2 (x_dk dn_216_0_0_ok 8 rfl)))
  (e_Lok (e_rt (I := eI) (k := 1) ⟨(x_dk dn_216_0_0_ok 9 rfl), rfl⟩))))))
  (e_Tok2
  (e_Tok2
  (e_Tok2
  (e_Lok (ld_aload_n_0 (x_dk dn_216_0_0_ok 10 rfl)))
  (e_Lok (ps_iconst_3 (x_dk dn_216_0_0_ok 11 rfl))))
  (e_Tok2
  (e_Lok (ld_iload_n_1 (x_dk dn_216_0_0_ok 12 rfl)))
  (e_Tok2
  (e_Lok (ld_iload_n_2 (x_dk dn_216_0_0_ok 13 rfl)))
  (e_Lok (ld_iload_n_3 (x_dk dn_216_0_0_ok 14 rfl))))))
  (e_Tok2
  (e_Tok2
  (e_Lok (e_st (I := eI) (er_ifeq (off := 7) (tg := 31) (x_dk dn_216_0_0_ok 15 rfl) (by decide)) nx_if1))
  (e_Tok2
  (e_Lok (ps_iconst_1 (x_dk dn_216_0_0_ok 16 rfl)))
  (e_Lok (e_st (I := eI) (er_goto (off := 4) (tg := 32) (x_dk dn_216_0_0_ok 17 rfl) (by decide)) nx_goto))))
  (e_Tok2
  (e_Lok (ps_iconst_0 (x_dk dn_216_0_0_ok 18 rfl)))
  (e_Tok2
  (e_Lok (lk_11_255 ho_216 (x_dk dn_216_0_0_ok 19 rfl)))
  (e_Lok (e_rt (I := eI) (k := 1) ⟨(x_dk dn_216_0_0_ok 20 rfl), rfl⟩)))))))
def te_216 : Nat → eE := te_216_0
theorem te_216_ok : ∀ pc, e_EOq eft cls elay eI n_216 pc (te_216 pc) := te_216_0_ok
theorem ho_217 : (xm_y n_217).cls = "RobotCellHouse" := rfl
def dn_217_0_0 : List (Nat × Instr × Nat) := [(0, .iload_n 1, 1), (1, .iconst 0, 1), (2, .aload_n 0, 1), (3, .getfield 42, 3), (6, .getfield 204, 3), (9, .iconst 1, 1), (10, .isub, 1), (11, .invokestatic 82, 3), (14, .ifCond .ne 5, 3), (17, .iconst (-1), 1), (18, .ireturn, 1), (19, .aload_n 0, 1), (20, .getfield 91, 3), (23, .ifCond .ne 6, 3), (26, .bipush (-2), 2), (28, .ireturn, 1), (29, .aload_n 0, 1), (30, .iconst 4, 1), (31, .iload_n 1, 1), (32, .iload_n 2, 1), (33, .ifCond .eq 7, 3), (36, .iconst 1, 1), (37, .goto 4, 3), (40, .iconst 0, 1), (41, .iload_n 3, 1)]
set_option maxRecDepth 20000 in
theorem dn_217_0_0_ok : dn_217_0_0.all (fun q => decide (decode (xm_b n_217) q.1 = .ok (q.2.1, q.2.2))) = true := xa_g_ok (by decide +kernel)
def dn_217_0_1 : List (Nat × Instr × Nat) := [(42, .ifCond .eq 7, 3), (45, .iconst 1, 1), (46, .goto 4, 3), (49, .iconst 0, 1), (50, .invokevirtual 255, 3), (53, .ireturn, 1)]
set_option maxRecDepth 20000 in
theorem dn_217_0_1_ok : dn_217_0_1.all (fun q => decide (decode (xm_b n_217) q.1 = .ok (q.2.1, q.2.2))) = true := xa_g_ok (by decide +kernel)
def te_217_0 : Nat → eE := (e_T 26 (e_T 10 (e_T 2 (e_T 0 (e_L 0 (0, ei_load 1 0 1, 0, 0)) (e_T 1 (e_L 1 (0, ei_push (0, 0) 2, 0, 0)) (e_L 2 (0, ei_load 0 2 3, 0, 0)))) (e_T 6 (e_T 3 (e_L 3 (0, ei_getf eft elay 11 5 6, 0, 0)) (e_L 6 (0, ei_getf eft elay 2 2 9, 0, 0))) (e_T 9 (e_L 9 (0, ei_push (0, 1) 10, 0, 0)) (e_L 10 (0, ei_bin eF_sub 11, 0, 0))))) (e_T 18 (e_T 14 (e_T 11 (e_L 11 (2, e_nof, 242, 3)) (e_L 14 (0, ei_if1 1 19 17, 0, 0))) (e_T 17 (e_L 17 (0, ei_push (0, (-1)) 18, 0, 0)) (e_L 18 (1, e_nof, 1, 0)))) (e_T 20 (e_T 19 (e_L 19 (0, ei_load 0 2 20, 0, 0)) (e_L 20 (0, ei_getf eft elay 11 13 23, 0, 0))) (e_T 23 (e_L 23 (0, ei_if1 1 29 26, 0, 0)) (e_L 26 (0, ei_push (0, (-2)) 28, 0, 0)))))) (e_T 37 (e_T 31 (e_T 29 (e_T 28 (e_L 28 (1, e_nof, 1, 0)) (e_L 29 (0, ei_load 0 2 30, 0, 0))) (e_T 30 (e_L 30 (0, ei_push (0, 4) 31, 0, 0)) (e_L 31 (0, ei_load 1 0 32, 0, 0)))) (e_T 33 (e_T 32 (e_L 32 (0, ei_load 2 0 33, 0, 0)) (e_L 33 (0, ei_if1 0 40 36, 0, 0))) (e_T 36 (e_L 36 (0, ei_push (0, 1) 37, 0, 0)) (e_L 37 (0, ei_goto 41, 0, 0))))) (e_T 45 (e_T 41 (e_T 40 (e_L 40 (0, ei_push (0, 0) 41, 0, 0)) (e_L 41 (0, ei_load 3 0 42, 0, 0))) (e_T 42 (e_L 42 (0, ei_if1 0 49 45, 0, 0)) (e_L 45 (0, ei_push (0, 1) 46, 0, 0)))) (e_T 49 (e_T 46 (e_L 46 (0, ei_goto 50, 0, 0)) (e_L 49 (0, ei_push (0, 0) 50, 0, 0))) (e_T 50 (e_L 50 (2, e_nof, 255, 5)) (e_L 53 (1, e_nof, 1, 0)))))))
set_option maxRecDepth 20000 in
set_option maxHeartbeats 4000000 in
theorem te_217_0_ok : ∀ pc, e_EOq eft cls elay eI n_217 pc (te_217_0 pc) :=
  (e_Tok2
  (e_Tok2
  (e_Tok2
  (e_Tok2
  (e_Lok (ld_iload_n_1 (x_dk dn_217_0_0_ok 0 rfl)))
  (e_Tok2
  (e_Lok (ps_iconst_0 (x_dk dn_217_0_0_ok 1 rfl)))
  (e_Lok (ld_aload_n_0 (x_dk dn_217_0_0_ok 2 rfl)))))
  (e_Tok2
  (e_Tok2
  (e_Lok (lk_11_42g ho_217 (x_dk dn_217_0_0_ok 3 rfl)))
  (e_Lok (lk_11_204g ho_217 (x_dk dn_217_0_0_ok 4 rfl))))
  (e_Tok2
  (e_Lok (ps_iconst_1 (x_dk dn_217_0_0_ok 5 rfl)))
  (e_Lok (sm_isub (x_dk dn_217_0_0_ok 6 rfl))))))
  (e_Tok2
  (e_Tok2
  (e_Tok2
  (e_Lok (lk_11_82 ho_217 (x_dk dn_217_0_0_ok 7 rfl)))
  (e_Lok (e_st (I := eI) (er_ifne (off := 5) (tg := 19) (x_dk dn_217_0_0_ok 8 rfl) (by decide)) nx_if1)))
  (e_Tok2
  (e_Lok (ps_iconst_m1 (x_dk dn_217_0_0_ok 9 rfl)))
  (e_Lok (e_rt (I := eI) (k := 1) ⟨(x_dk dn_217_0_0_ok 10 rfl), rfl⟩))))
  (e_Tok2
  (e_Tok2
  (e_Lok (ld_aload_n_0 (x_dk dn_217_0_0_ok 11 rfl)))
  (e_Lok (lk_11_91g ho_217 (x_dk dn_217_0_0_ok 12 rfl))))
  (e_Tok2
  (e_Lok (e_st (I := eI) (er_ifne (off := 6) (tg := 29) (x_dk dn_217_0_0_ok 13 rfl) (by decide)) nx_if1))
  (e_Lok (ps_bipush_m2 (x_dk dn_217_0_0_ok 14 rfl)))))))
  (e_Tok2
  (e_Tok2
  (e_Tok2
  (e_Tok2
  (e_Lok (e_rt (I := eI) (k := 1) ⟨(x_dk dn_217_0_0_ok 15 rfl), rfl⟩))
  (e_Lok (ld_aload_n_0 (x_dk dn_217_0_0_ok 16 rfl))))
  (e_Tok2
  (e_Lok (ps_iconst_4 (x_dk dn_217_0_0_ok 17 rfl)))
  (e_Lok (ld_iload_n_1 (x_dk dn_217_0_0_ok 18 rfl)))))
  (e_Tok2
  (e_Tok2
  (e_Lok (ld_iload_n_2 (x_dk dn_217_0_0_ok 19 rfl)))
  (e_Lok (e_st (I := eI) (er_ifeq (off := 7) (tg := 40) (x_dk dn_217_0_0_ok 20 rfl) (by decide)) nx_if1)))
  (e_Tok2
  (e_Lok (ps_iconst_1 (x_dk dn_217_0_0_ok 21 rfl)))
  (e_Lok (e_st (I := eI) (er_goto (off := 4) (tg := 41) (x_dk dn_217_0_0_ok 22 rfl) (by decide)) nx_goto)))))
  (e_Tok2
  (e_Tok2
  (e_Tok2
  (e_Lok (ps_iconst_0 (x_dk dn_217_0_0_ok 23 rfl)))
  (e_Lok (ld_iload_n_3 (x_dk dn_217_0_0_ok 24 rfl))))
  (e_Tok2
  (e_Lok (e_st (I := eI) (er_ifeq (off := 7) (tg := 49) (x_dk dn_217_0_1_ok 0 rfl) (by decide)) nx_if1))
  (e_Lok (ps_iconst_1 (x_dk dn_217_0_1_ok 1 rfl)))))
  (e_Tok2
  (e_Tok2
  (e_Lok (e_st (I := eI) (er_goto (off := 4) (tg := 50) (x_dk dn_217_0_1_ok 2 rfl) (by decide)) nx_goto))
  (e_Lok (ps_iconst_0 (x_dk dn_217_0_1_ok 3 rfl))))
  (e_Tok2
  (e_Lok (lk_11_255 ho_217 (x_dk dn_217_0_1_ok 4 rfl)))
  (e_Lok (e_rt (I := eI) (k := 1) ⟨(x_dk dn_217_0_1_ok 5 rfl), rfl⟩)))))))
def te_217 : Nat → eE := te_217_0
theorem te_217_ok : ∀ pc, e_EOq eft cls elay eI n_217 pc (te_217 pc) := te_217_0_ok
theorem ho_218 : (xm_y n_218).cls = "RobotCellHouse" := rfl
def dn_218_0_0 : List (Nat × Instr × Nat) := [(0, .iload_n 1, 1), (1, .iconst 0, 1), (2, .bipush 7, 2), (4, .invokestatic 82, 3), (7, .ifCond .ne 5, 3), (10, .iconst (-1), 1), (11, .ireturn, 1), (12, .aload_n 0, 1), (13, .getfield 91, 3), (16, .ifCond .eq 35, 3), (19, .aload_n 0, 1), (20, .getfield 42, 3), (23, .getfield 210, 3), (26, .iload_n 1, 1), (27, .baload, 1), (28, .ifCond .eq 23, 3), (31, .aload_n 0, 1), (32, .getfield 42, 3), (35, .getfield 274, 3), (38, .ifCond .ne 13, 3), (41, .aload_n 0, 1), (42, .getfield 42, 3), (45, .invokevirtual 277, 3), (48, .ifCond .ne 6, 3), (51, .bipush (-2), 2)]
set_option maxRecDepth 20000 in
theorem dn_218_0_0_ok : dn_218_0_0.all (fun q => decide (decode (xm_b n_218) q.1 = .ok (q.2.1, q.2.2))) = true := xa_g_ok (by decide +kernel)
def dn_218_0_1 : List (Nat × Instr × Nat) := [(53, .ireturn, 1), (54, .aload_n 0, 1), (55, .iconst 5, 1), (56, .iload_n 1, 1), (57, .iconst 0, 1), (58, .iconst 0, 1), (59, .invokevirtual 255, 3), (62, .ireturn, 1)]
set_option maxRecDepth 20000 in
theorem dn_218_0_1_ok : dn_218_0_1.all (fun q => decide (decode (xm_b n_218) q.1 = .ok (q.2.1, q.2.2))) = true := xa_g_ok (by decide +kernel)
def te_218_0 : Nat → eE := (e_T 28 (e_T 12 (e_T 4 (e_T 1 (e_T 0 (e_L 0 (0, ei_load 1 0 1, 0, 0)) (e_L 1 (0, ei_push (0, 0) 2, 0, 0))) (e_T 2 (e_L 2 (0, ei_push (0, 7) 4, 0, 0)) (e_L 4 (2, e_nof, 242, 3)))) (e_T 10 (e_T 7 (e_L 7 (0, ei_if1 1 12 10, 0, 0)) (e_L 10 (0, ei_push (0, (-1)) 11, 0, 0))) (e_T 11 (e_L 11 (1, e_nof, 1, 0)) (e_L 12 (0, ei_load 0 2 13, 0, 0))))) (e_T 20 (e_T 16 (e_T 13 (e_L 13 (0, ei_getf eft elay 11 13 16, 0, 0)) (e_L 16 (0, ei_if1 0 51 19, 0, 0))) (e_T 19 (e_L 19 (0, ei_load 0 2 20, 0, 0)) (e_L 20 (0, ei_getf eft elay 11 5 23, 0, 0)))) (e_T 26 (e_T 23 (e_L 23 (0, ei_getf eft elay 2 10 26, 0, 0)) (e_L 26 (0, ei_load 1 0 27, 0, 0))) (e_T 27 (e_L 27 (0, ei_ald elay true 28, 0, 0)) (e_L 28 (0, ei_if1 0 51 31, 0, 0)))))) (e_T 48 (e_T 38 (e_T 32 (e_T 31 (e_L 31 (0, ei_load 0 2 32, 0, 0)) (e_L 32 (0, ei_getf eft elay 11 5 35, 0, 0))) (e_T 35 (e_L 35 (0, ei_getf eft elay 2 3 38, 0, 0)) (e_L 38 (0, ei_if1 1 51 41, 0, 0)))) (e_T 42 (e_T 41 (e_L 41 (0, ei_load 0 2 42, 0, 0)) (e_L 42 (0, ei_getf eft elay 11 5 45, 0, 0))) (e_T 45 (e_L 45 (2, e_nof, 31, 1)) (e_L 48 (0, ei_if1 1 54 51, 0, 0))))) (e_T 55 (e_T 53 (e_T 51 (e_L 51 (0, ei_push (0, (-2)) 53, 0, 0)) (e_L 53 (1, e_nof, 1, 0))) (e_T 54 (e_L 54 (0, ei_load 0 2 55, 0, 0)) (e_L 55 (0, ei_push (0, 5) 56, 0, 0)))) (e_T 57 (e_T 56 (e_L 56 (0, ei_load 1 0 57, 0, 0)) (e_L 57 (0, ei_push (0, 0) 58, 0, 0))) (e_T 58 (e_L 58 (0, ei_push (0, 0) 59, 0, 0)) (e_T 59 (e_L 59 (2, e_nof, 255, 5)) (e_L 62 (1, e_nof, 1, 0))))))))
set_option maxRecDepth 20000 in
set_option maxHeartbeats 4000000 in
theorem te_218_0_ok : ∀ pc, e_EOq eft cls elay eI n_218 pc (te_218_0 pc) :=
  (e_Tok2
  (e_Tok2
  (e_Tok2
  (e_Tok2
  (e_Tok2
  (e_Lok (ld_iload_n_1 (x_dk dn_218_0_0_ok 0 rfl)))
  (e_Lok (ps_iconst_0 (x_dk dn_218_0_0_ok 1 rfl))))
  (e_Tok2
  (e_Lok (ps_bipush_7 (x_dk dn_218_0_0_ok 2 rfl)))
  (e_Lok (lk_11_82 ho_218 (x_dk dn_218_0_0_ok 3 rfl)))))
  (e_Tok2
  (e_Tok2
  (e_Lok (e_st (I := eI) (er_ifne (off := 5) (tg := 12) (x_dk dn_218_0_0_ok 4 rfl) (by decide)) nx_if1))
  (e_Lok (ps_iconst_m1 (x_dk dn_218_0_0_ok 5 rfl))))
  (e_Tok2
  (e_Lok (e_rt (I := eI) (k := 1) ⟨(x_dk dn_218_0_0_ok 6 rfl), rfl⟩))
  (e_Lok (ld_aload_n_0 (x_dk dn_218_0_0_ok 7 rfl))))))
  (e_Tok2
  (e_Tok2
  (e_Tok2
  (e_Lok (lk_11_91g ho_218 (x_dk dn_218_0_0_ok 8 rfl)))
  (e_Lok (e_st (I := eI) (er_ifeq (off := 35) (tg := 51) (x_dk dn_218_0_0_ok 9 rfl) (by decide)) nx_if1)))
  (e_Tok2
  (e_Lok (ld_aload_n_0 (x_dk dn_218_0_0_ok 10 rfl)))
  (e_Lok (lk_11_42g ho_218 (x_dk dn_218_0_0_ok 11 rfl)))))
  (e_Tok2
  (e_Tok2
  (e_Lok (lk_11_210g ho_218 (x_dk dn_218_0_0_ok 12 rfl)))
  (e_Lok (ld_iload_n_1 (x_dk dn_218_0_0_ok 13 rfl))))
  (e_Tok2
  (e_Lok (e_st (I := eI) (er_baload (x_dk dn_218_0_0_ok 14 rfl)) nx_ald))
  (e_Lok (e_st (I := eI) (er_ifeq (off := 23) (tg := 51) (x_dk dn_218_0_0_ok 15 rfl) (by decide)) nx_if1))))))
  (e_Tok2
  (e_Tok2
  (e_Tok2
  (e_Tok2
  (e_Lok (ld_aload_n_0 (x_dk dn_218_0_0_ok 16 rfl)))
  (e_Lok (lk_11_42g ho_218 (x_dk dn_218_0_0_ok 17 rfl))))
  (e_Tok2
  (e_Lok (lk_11_274g ho_218 (x_dk dn_218_0_0_ok 18 rfl)))
  (e_Lok (e_st (I := eI) (er_ifne (off := 13) (tg := 51) (x_dk dn_218_0_0_ok 19 rfl) (by decide)) nx_if1))))
  (e_Tok2
  (e_Tok2
  (e_Lok (ld_aload_n_0 (x_dk dn_218_0_0_ok 20 rfl)))
  (e_Lok (lk_11_42g ho_218 (x_dk dn_218_0_0_ok 21 rfl))))
  (e_Tok2
  (e_Lok (lk_11_277 ho_218 (x_dk dn_218_0_0_ok 22 rfl)))
  (e_Lok (e_st (I := eI) (er_ifne (off := 6) (tg := 54) (x_dk dn_218_0_0_ok 23 rfl) (by decide)) nx_if1)))))
  (e_Tok2
  (e_Tok2
  (e_Tok2
  (e_Lok (ps_bipush_m2 (x_dk dn_218_0_0_ok 24 rfl)))
  (e_Lok (e_rt (I := eI) (k := 1) ⟨(x_dk dn_218_0_1_ok 0 rfl), rfl⟩)))
  (e_Tok2
  (e_Lok (ld_aload_n_0 (x_dk dn_218_0_1_ok 1 rfl)))
  (e_Lok (ps_iconst_5 (x_dk dn_218_0_1_ok 2 rfl)))))
  (e_Tok2
  (e_Tok2
  (e_Lok (ld_iload_n_1 (x_dk dn_218_0_1_ok 3 rfl)))
  (e_Lok (ps_iconst_0 (x_dk dn_218_0_1_ok 4 rfl))))
  (e_Tok2
  (e_Lok (ps_iconst_0 (x_dk dn_218_0_1_ok 5 rfl)))
  (e_Tok2
  (e_Lok (lk_11_255 ho_218 (x_dk dn_218_0_1_ok 6 rfl)))
  (e_Lok (e_rt (I := eI) (k := 1) ⟨(x_dk dn_218_0_1_ok 7 rfl), rfl⟩))))))))
def te_218 : Nat → eE := te_218_0
theorem te_218_ok : ∀ pc, e_EOq eft cls elay eI n_218 pc (te_218 pc) := te_218_0_ok
theorem ho_219 : (xm_y n_219).cls = "RobotCellHouse" := rfl
def dn_219_0_0 : List (Nat × Instr × Nat) := [(0, .iload_n 1, 1), (1, .iconst (-1), 1), (2, .if_icmp .eq 13, 3), (5, .aload_n 0, 1), (6, .iload_n 1, 1), (7, .invokevirtual 103, 3), (10, .ifCond .ne 5, 3), (13, .iconst (-1), 1), (14, .ireturn, 1), (15, .aload_n 0, 1), (16, .getfield 91, 3), (19, .ifCond .eq 18, 3), (22, .iload_n 1, 1), (23, .iconst (-1), 1), (24, .if_icmp .ne 16, 3), (27, .aload_n 0, 1), (28, .getfield 42, 3), (31, .getfield 274, 3), (34, .ifCond .ne 6, 3), (37, .bipush (-2), 2), (39, .ireturn, 1), (40, .aload_n 0, 1), (41, .bipush 6, 2), (43, .iload_n 1, 1), (44, .iconst 0, 1)]
set_option maxRecDepth 20000 in
theorem dn_219_0_0_ok : dn_219_0_0.all (fun q => decide (decode (xm_b n_219) q.1 = .ok (q.2.1, q.2.2))) = true := xa_g_ok (by decide +kernel)
def dn_219_0_1 : List (Nat × Instr × Nat) := [(45, .iconst 0, 1), (46, .invokevirtual 255, 3), (49, .ireturn, 1)]
set_option maxRecDepth 20000 in
theorem dn_219_0_1_ok : dn_219_0_1.all (fun q => decide (decode (xm_b n_219) q.1 = .ok (q.2.1, q.2.2))) = true := xa_g_ok (by decide +kernel)
def te_219_0 : Nat → eE := (e_T 23 (e_T 10 (e_T 2 (e_T 0 (e_L 0 (0, ei_load 1 0 1, 0, 0)) (e_T 1 (e_L 1 (0, ei_push (0, (-1)) 2, 0, 0)) (e_L 2 (0, ei_if2 0 15 5, 0, 0)))) (e_T 6 (e_T 5 (e_L 5 (0, ei_load 0 2 6, 0, 0)) (e_L 6 (0, ei_load 1 0 7, 0, 0))) (e_T 7 (e_L 7 (2, e_nof, 246, 2)) (e_L 10 (0, ei_if1 1 15 13, 0, 0))))) (e_T 15 (e_T 13 (e_L 13 (0, ei_push (0, (-1)) 14, 0, 0)) (e_T 14 (e_L 14 (1, e_nof, 1, 0)) (e_L 15 (0, ei_load 0 2 16, 0, 0)))) (e_T 19 (e_T 16 (e_L 16 (0, ei_getf eft elay 11 13 19, 0, 0)) (e_L 19 (0, ei_if1 0 37 22, 0, 0))) (e_T 22 (e_L 22 (0, ei_load 1 0 23, 0, 0)) (e_L 23 (0, ei_push (0, (-1)) 24, 0, 0)))))) (e_T 39 (e_T 28 (e_T 24 (e_L 24 (0, ei_if2 1 40 27, 0, 0)) (e_T 27 (e_L 27 (0, ei_load 0 2 28, 0, 0)) (e_L 28 (0, ei_getf eft elay 11 5 31, 0, 0)))) (e_T 34 (e_T 31 (e_L 31 (0, ei_getf eft elay 2 3 34, 0, 0)) (e_L 34 (0, ei_if1 1 40 37, 0, 0))) (e_T 37 (e_L 37 (0, ei_push (0, (-2)) 39, 0, 0)) (e_L 39 (1, e_nof, 1, 0))))) (e_T 43 (e_T 40 (e_L 40 (0, ei_load 0 2 41, 0, 0)) (e_T 41 (e_L 41 (0, ei_push (0, 6) 43, 0, 0)) (e_L 43 (0, ei_load 1 0 44, 0, 0)))) (e_T 45 (e_T 44 (e_L 44 (0, ei_push (0, 0) 45, 0, 0)) (e_L 45 (0, ei_push (0, 0) 46, 0, 0))) (e_T 46 (e_L 46 (2, e_nof, 255, 5)) (e_L 49 (1, e_nof, 1, 0)))))))
set_option maxRecDepth 20000 in
set_option maxHeartbeats 4000000 in
theorem te_219_0_ok : ∀ pc, e_EOq eft cls elay eI n_219 pc (te_219_0 pc) :=
  (e_Tok2
  (e_Tok2
  (e_Tok2
  (e_Tok2
  (e_Lok (ld_iload_n_1 (x_dk dn_219_0_0_ok 0 rfl)))
  (e_Tok2
  (e_Lok (ps_iconst_m1 (x_dk dn_219_0_0_ok 1 rfl)))
  (e_Lok (e_st (I := eI) (er_icmpeq (off := 13) (tg := 15) (x_dk dn_219_0_0_ok 2 rfl) (by decide)) nx_if2))))
  (e_Tok2
  (e_Tok2
  (e_Lok (ld_aload_n_0 (x_dk dn_219_0_0_ok 3 rfl)))
  (e_Lok (ld_iload_n_1 (x_dk dn_219_0_0_ok 4 rfl))))
  (e_Tok2
  (e_Lok (lk_11_103 ho_219 (x_dk dn_219_0_0_ok 5 rfl)))
  (e_Lok (e_st (I := eI) (er_ifne (off := 5) (tg := 15) (x_dk dn_219_0_0_ok 6 rfl) (by decide)) nx_if1)))))
  (e_Tok2
  (e_Tok2
  (e_Lok (ps_iconst_m1 (x_dk dn_219_0_0_ok 7 rfl)))
  (e_Tok2
  (e_Lok (e_rt (I := eI) (k := 1) ⟨(x_dk dn_219_0_0_ok 8 rfl), rfl⟩))
  (e_Lok (ld_aload_n_0 (x_dk dn_219_0_0_ok 9 rfl)))))
  (e_Tok2
  (e_Tok2
  (e_Lok (lk_11_91g ho_219 (x_dk dn_219_0_0_ok 10 rfl)))
  (e_Lok (e_st (I := eI) (er_ifeq (off := 18) (tg := 37) (x_dk dn_219_0_0_ok 11 rfl) (by decide)) nx_if1)))
  (e_Tok2
  (e_Lok (ld_iload_n_1 (x_dk dn_219_0_0_ok 12 rfl)))
  (e_Lok (ps_iconst_m1 (x_dk dn_219_0_0_ok 13 rfl)))))))
  (e_Tok2
  (e_Tok2
  (e_Tok2
  (e_Lok (e_st (I := eI) (er_icmpne (off := 16) (tg := 40) (x_dk dn_219_0_0_ok 14 rfl) (by decide)) nx_if2))
  (e_Tok2
  (e_Lok (ld_aload_n_0 (x_dk dn_219_0_0_ok 15 rfl)))
  (e_Lok (lk_11_42g ho_219 (x_dk dn_219_0_0_ok 16 rfl)))))
  (e_Tok2
  (e_Tok2
  (e_Lok (lk_11_274g ho_219 (x_dk dn_219_0_0_ok 17 rfl)))
  (e_Lok (e_st (I := eI) (er_ifne (off := 6) (tg := 40) (x_dk dn_219_0_0_ok 18 rfl) (by decide)) nx_if1)))
  (e_Tok2
  (e_Lok (ps_bipush_m2 (x_dk dn_219_0_0_ok 19 rfl)))
  (e_Lok (e_rt (I := eI) (k := 1) ⟨(x_dk dn_219_0_0_ok 20 rfl), rfl⟩)))))
  (e_Tok2
  (e_Tok2
  (e_Lok (ld_aload_n_0 (x_dk dn_219_0_0_ok 21 rfl)))
  (e_Tok2
  (e_Lok (ps_bipush_6 (x_dk dn_219_0_0_ok 22 rfl)))
  (e_Lok (ld_iload_n_1 (x_dk dn_219_0_0_ok 23 rfl)))))
  (e_Tok2
  (e_Tok2
  (e_Lok (ps_iconst_0 (x_dk dn_219_0_0_ok 24 rfl)))
  (e_Lok (ps_iconst_0 (x_dk dn_219_0_1_ok 0 rfl))))
  (e_Tok2
  (e_Lok (lk_11_255 ho_219 (x_dk dn_219_0_1_ok 1 rfl)))
  (e_Lok (e_rt (I := eI) (k := 1) ⟨(x_dk dn_219_0_1_ok 2 rfl), rfl⟩)))))))
def te_219 : Nat → eE := te_219_0
theorem te_219_ok : ∀ pc, e_EOq eft cls elay eI n_219 pc (te_219 pc) := te_219_0_ok
end
end
-- part 41ap
section
noncomputable section
theorem ho_220 : (xm_y n_220).cls = "RobotCellHouse" := rfl
def dn_220_0_0 : List (Nat × Instr × Nat) := [(0, .aload_n 0, 1), (1, .iload_n 1, 1), (2, .invokevirtual 103, 3), (5, .ifCond .ne 5, 3), (8, .iconst (-1), 1), (9, .ireturn, 1), (10, .aload_n 0, 1), (11, .getfield 91, 3), (14, .ifCond .eq 15, 3), (17, .aload_n 0, 1), (18, .getfield 27, 3), (21, .iload_n 1, 1), (22, .aaload, 1), (23, .getfield 280, 3), (26, .ifCond .ge 6, 3), (29, .bipush (-2), 2), (31, .ireturn, 1), (32, .aload_n 0, 1), (33, .bipush 7, 2), (35, .iload_n 1, 1), (36, .iconst 0, 1), (37, .iconst 0, 1), (38, .invokevirtual 255, 3), (41, .ireturn, 1)]
set_option maxRecDepth 20000 in
theorem dn_220_0_0_ok : dn_220_0_0.all (fun q => decide (decode (xm_b n_220) q.1 = .ok (q.2.1, q.2.2))) = true := xa_g_ok (by decide +kernel)
def te_220_0 : Nat → eE := (e_T 21 (e_T 9 (e_T 2 (e_T 0 (e_L 0 (0, ei_load 0 2 1, 0, 0)) (e_T 1 (e_L 1 (0, ei_load 1 0 2, 0, 0)) (e_L 2 (2, e_nof, 246, 2)))) (e_T 5 (e_L 5 (0, ei_if1 1 10 8, 0, 0)) (e_T 8 (e_L 8 (0, ei_push (0, (-1)) 9, 0, 0)) (e_L 9 (1, e_nof, 1, 0))))) (e_T 14 (e_T 10 (e_L 10 (0, ei_load 0 2 11, 0, 0)) (e_T 11 (e_L 11 (0, ei_getf eft elay 11 13 14, 0, 0)) (e_L 14 (0, ei_if1 0 29 17, 0, 0)))) (e_T 17 (e_L 17 (0, ei_load 0 2 18, 0, 0)) (e_T 18 (e_L 18 (0, ei_getf eft elay 11 2 21, 0, 0)) (e_L 21 (0, ei_load 1 0 22, 0, 0)))))) (e_T 32 (e_T 26 (e_T 22 (e_L 22 (0, ei_aald elay 23, 0, 0)) (e_T 23 (e_L 23 (0, ei_getf eft elay 0 16 26, 0, 0)) (e_L 26 (0, ei_if1 3 32 29, 0, 0)))) (e_T 29 (e_L 29 (0, ei_push (0, (-2)) 31, 0, 0)) (e_T 31 (e_L 31 (1, e_nof, 1, 0)) (e_L 32 (0, ei_load 0 2 33, 0, 0))))) (e_T 36 (e_T 33 (e_L 33 (0, ei_push (0, 7) 35, 0, 0)) (e_T 35 (e_L 35 (0, ei_load 1 0 36, 0, 0)) (e_L 36 (0, ei_push (0, 0) 37, 0, 0)))) (e_T 37 (e_L 37 (0, ei_push (0, 0) 38, 0, 0)) (e_T 38 (e_L 38 (2, e_nof, 255, 5)) (e_L 41 (1, e_nof, 1, 0)))))))
set_option maxRecDepth 20000 in
set_option maxHeartbeats 4000000 in
theorem te_220_0_ok : ∀ pc, e_EOq eft cls elay eI n_220 pc (te_220_0 pc) :=
  (e_Tok2
  (e_Tok2
  (e_Tok2
  (e_Tok2
  (e_Lok (ld_aload_n_0 (x_dk dn_220_0_0_ok 0 rfl)))
  (e_Tok2
  (e_Lok (ld_iload_n_1 (x_dk dn_220_0_0_ok 1 rfl)))
  (e_Lok (lk_11_103 ho_220 (x_dk dn_220_0_0_ok 2 rfl)))))
  (e_Tok2
  (e_Lok (e_st (I := eI) (er_ifne (off := 5) (tg := 10) (x_dk dn_220_0_0_ok 3 rfl) (by decide)) nx_if1))
  (e_Tok2
  (e_Lok (ps_iconst_m1 (x_dk dn_220_0_0_ok 4 rfl)))
  (e_Lok (e_rt (I := eI) (k := 1) ⟨(x_dk dn_220_0_0_ok 5 rfl), rfl⟩)))))
  (e_Tok2
  (e_Tok2
  (e_Lok (ld_aload_n_0 (x_dk dn_220_0_0_ok 6 rfl)))
  (e_Tok2
  (e_Lok (lk_11_91g ho_220 (x_dk dn_220_0_0_ok 7 rfl)))
  (e_Lok (e_st (I := eI) (er_ifeq (off := 15) (tg := 29) (x_dk dn_220_0_0_ok 8 rfl) (by decide)) nx_if1))))
  (e_Tok2
  (e_Lok (ld_aload_n_0 (x_dk dn_220_0_0_ok 9 rfl)))
  (e_Tok2
  (e_Lok (lk_11_27g ho_220 (x_dk dn_220_0_0_ok 10 rfl)))
  (e_Lok (ld_iload_n_1 (x_dk dn_220_0_0_ok 11 rfl)))))))
  (e_Tok2
  (e_Tok2
  (e_Tok2
  (e_Lok (e_st (I := eI) (er_aaload (x_dk dn_220_0_0_ok 12 rfl)) nx_aald))
  (e_Tok2
  (e_Lok (lk_11_280g ho_220 (x_dk dn_220_0_0_ok 13 rfl)))
  (e_Lok (e_st (I := eI) (er_ifge (off := 6) (tg := 32) (x_dk dn_220_0_0_ok 14 rfl) (by decide)) nx_if1))))
  (e_Tok2
  (e_Lok (ps_bipush_m2 (x_dk dn_220_0_0_ok 15 rfl)))
  (e_Tok2
  (e_Lok (e_rt (I := eI) (k := 1) ⟨(x_dk dn_220_0_0_ok 16 rfl), rfl⟩))
  (e_Lok (ld_aload_n_0 (x_dk dn_220_0_0_ok 17 rfl))))))
  (e_Tok2
  (e_Tok2
  (e_Lok (ps_bipush_7 (x_dk dn_220_0_0_ok 18 rfl)))
  (e_Tok2
  (e_Lok (ld_iload_n_1 (x_dk dn_220_0_0_ok 19 rfl)))
  (e_Lok (ps_iconst_0 (x_dk dn_220_0_0_ok 20 rfl)))))
  (e_Tok2
  (e_Lok (ps_iconst_0 (x_dk dn_220_0_0_ok 21 rfl)))
  (e_Tok2
  (e_Lok (lk_11_255 ho_220 (x_dk dn_220_0_0_ok 22 rfl)))
  (e_Lok (e_rt (I := eI) (k := 1) ⟨(x_dk dn_220_0_0_ok 23 rfl), rfl⟩)))))))
def te_220 : Nat → eE := te_220_0
theorem te_220_ok : ∀ pc, e_EOq eft cls elay eI n_220 pc (te_220 pc) := te_220_0_ok
theorem ho_221 : (xm_y n_221).cls = "RobotCellHouse" := rfl
def dn_221_0_0 : List (Nat × Instr × Nat) := [(0, .aload_n 0, 1), (1, .iload_n 1, 1), (2, .iload_n 2, 1), (3, .invokevirtual 119, 3), (6, .ifCond .eq 21, 3), (9, .aload_n 0, 1), (10, .getfield 27, 3), (13, .iload_n 1, 1), (14, .aaload, 1), (15, .getfield 123, 3), (18, .iload_n 2, 1), (19, .aaload, 1), (20, .iload_n 3, 1), (21, .invokevirtual 283, 3), (24, .ifCond .ne 5, 3), (27, .iconst (-1), 1), (28, .ireturn, 1), (29, .aload_n 0, 1), (30, .getfield 91, 3), (33, .ifCond .eq 13, 3), (36, .aload_n 0, 1), (37, .getfield 42, 3), (40, .getfield 274, 3), (43, .ifCond .eq 6, 3), (46, .bipush (-2), 2)]
set_option maxRecDepth 20000 in
theorem dn_221_0_0_ok : dn_221_0_0.all (fun q => decide (decode (xm_b n_221) q.1 = .ok (q.2.1, q.2.2))) = true := xa_g_ok (by decide +kernel)
def dn_221_0_1 : List (Nat × Instr × Nat) := [(48, .ireturn, 1), (49, .aload_n 0, 1), (50, .bipush 8, 2), (52, .iload_n 1, 1), (53, .iload_n 2, 1), (54, .iload_n 3, 1), (55, .invokevirtual 255, 3), (58, .ireturn, 1)]
set_option maxRecDepth 20000 in
theorem dn_221_0_1_ok : dn_221_0_1.all (fun q => decide (decode (xm_b n_221) q.1 = .ok (q.2.1, q.2.2))) = true := xa_g_ok (by decide +kernel)
def te_221_0 : Nat → eE := (e_T 27 (e_T 13 (e_T 3 (e_T 1 (e_T 0 (e_L 0 (0, ei_load 0 2 1, 0, 0)) (e_L 1 (0, ei_load 1 0 2, 0, 0))) (e_T 2 (e_L 2 (0, ei_load 2 0 3, 0, 0)) (e_L 3 (2, e_nof, 247, 3)))) (e_T 9 (e_T 6 (e_L 6 (0, ei_if1 0 27 9, 0, 0)) (e_L 9 (0, ei_load 0 2 10, 0, 0))) (e_T 10 (e_L 10 (0, ei_getf eft elay 11 2 13, 0, 0)) (e_L 13 (0, ei_load 1 0 14, 0, 0))))) (e_T 19 (e_T 15 (e_T 14 (e_L 14 (0, ei_aald elay 15, 0, 0)) (e_L 15 (0, ei_getf eft elay 0 0 18, 0, 0))) (e_T 18 (e_L 18 (0, ei_load 2 0 19, 0, 0)) (e_L 19 (0, ei_aald elay 20, 0, 0)))) (e_T 21 (e_T 20 (e_L 20 (0, ei_load 3 0 21, 0, 0)) (e_L 21 (2, e_nof, 89, 2))) (e_T 24 (e_L 24 (0, ei_if1 1 29 27, 0, 0)) (e_L 27 (0, ei_push (0, (-1)) 28, 0, 0)))))) (e_T 43 (e_T 33 (e_T 29 (e_T 28 (e_L 28 (1, e_nof, 1, 0)) (e_L 29 (0, ei_load 0 2 30, 0, 0))) (e_T 30 (e_L 30 (0, ei_getf eft elay 11 13 33, 0, 0)) (e_L 33 (0, ei_if1 0 46 36, 0, 0)))) (e_T 37 (e_T 36 (e_L 36 (0, ei_load 0 2 37, 0, 0)) (e_L 37 (0, ei_getf eft elay 11 5 40, 0, 0))) (e_T 40 (e_L 40 (0, ei_getf eft elay 2 3 43, 0, 0)) (e_L 43 (0, ei_if1 0 49 46, 0, 0))))) (e_T 50 (e_T 48 (e_T 46 (e_L 46 (0, ei_push (0, (-2)) 48, 0, 0)) (e_L 48 (1, e_nof, 1, 0))) (e_T 49 (e_L 49 (0, ei_load 0 2 50, 0, 0)) (e_L 50 (0, ei_push (0, 8) 52, 0, 0)))) (e_T 53 (e_T 52 (e_L 52 (0, ei_load 1 0 53, 0, 0)) (e_L 53 (0, ei_load 2 0 54, 0, 0))) (e_T 54 (e_L 54 (0, ei_load 3 0 55, 0, 0)) (e_T 55 (e_L 55 (2, e_nof, 255, 5)) (e_L 58 (1, e_nof, 1, 0))))))))
set_option maxRecDepth 20000 in
set_option maxHeartbeats 4000000 in
theorem te_221_0_ok : ∀ pc, e_EOq eft cls elay eI n_221 pc (te_221_0 pc) :=
  (e_Tok2
  (e_Tok2
  (e_Tok2
  (e_Tok2
  (e_Tok2
  (e_Lok (ld_aload_n_0 (x_dk dn_221_0_0_ok 0 rfl)))
  (e_Lok (ld_iload_n_1 (x_dk dn_221_0_0_ok 1 rfl))))
  (e_Tok2
  (e_Lok (ld_iload_n_2 (x_dk dn_221_0_0_ok 2 rfl)))
  (e_Lok (lk_11_119 ho_221 (x_dk dn_221_0_0_ok 3 rfl)))))
  (e_Tok2
  (e_Tok2
  (e_Lok (e_st (I := eI) (er_ifeq (off := 21) (tg := 27) (x_dk dn_221_0_0_ok 4 rfl) (by decide)) nx_if1))
  (e_Lok (ld_aload_n_0 (x_dk dn_221_0_0_ok 5 rfl))))
  (e_Tok2
  (e_Lok (lk_11_27g ho_221 (x_dk dn_221_0_0_ok 6 rfl)))
  (e_Lok (ld_iload_n_1 (x_dk dn_221_0_0_ok 7 rfl))))))
  (e_Tok2
  (e_Tok2
  (e_Tok2
  (e_Lok (e_st (I := eI) (er_aaload (x_dk dn_221_0_0_ok 8 rfl)) nx_aald))
  (e_Lok (lk_11_123g ho_221 (x_dk dn_221_0_0_ok 9 rfl))))
  (e_Tok2
  (e_Lok (ld_iload_n_2 (x_dk dn_221_0_0_ok 10 rfl)))
  (e_Lok (e_st (I := eI) (er_aaload (x_dk dn_221_0_0_ok 11 rfl)) nx_aald))))
  (e_Tok2
  (e_Tok2
  (e_Lok (ld_iload_n_3 (x_dk dn_221_0_0_ok 12 rfl)))
  (e_Lok (lk_11_283 ho_221 (x_dk dn_221_0_0_ok 13 rfl))))
  (e_Tok2
  (e_Lok (e_st (I := eI) (er_ifne (off := 5) (tg := 29) (x_dk dn_221_0_0_ok 14 rfl) (by decide)) nx_if1))
  (e_Lok (ps_iconst_m1 (x_dk dn_221_0_0_ok 15 rfl)))))))
  (e_Tok2
  (e_Tok2
  (e_Tok2
  (e_Tok2
  (e_Lok (e_rt (I := eI) (k := 1) ⟨(x_dk dn_221_0_0_ok 16 rfl), rfl⟩))
  (e_Lok (ld_aload_n_0 (x_dk dn_221_0_0_ok 17 rfl))))
  (e_Tok2
  (e_Lok (lk_11_91g ho_221 (x_dk dn_221_0_0_ok 18 rfl)))
  (e_Lok (e_st (I := eI) (er_ifeq (off := 13) (tg := 46) (x_dk dn_221_0_0_ok 19 rfl) (by decide)) nx_if1))))
  (e_Tok2
  (e_Tok2
  (e_Lok (ld_aload_n_0 (x_dk dn_221_0_0_ok 20 rfl)))
  (e_Lok (lk_11_42g ho_221 (x_dk dn_221_0_0_ok 21 rfl))))
  (e_Tok2
  (e_Lok (lk_11_274g ho_221 (x_dk dn_221_0_0_ok 22 rfl)))
  (e_Lok (e_st (I := eI) (er_ifeq (off := 6) (tg := 49) (x_dk dn_221_0_0_ok 23 rfl) (by decide)) nx_if1)))))
  (e_Tok2
  (e_Tok2
  (e_Tok2
  (e_Lok (ps_bipush_m2 (x_dk dn_221_0_0_ok 24 rfl)))
  (e_Lok (e_rt (I := eI) (k := 1) ⟨(x_dk dn_221_0_1_ok 0 rfl), rfl⟩)))
  (e_Tok2
  (e_Lok (ld_aload_n_0 (x_dk dn_221_0_1_ok 1 rfl)))
  (e_Lok (ps_bipush_8 (x_dk dn_221_0_1_ok 2 rfl)))))
  (e_Tok2
  (e_Tok2
  (e_Lok (ld_iload_n_1 (x_dk dn_221_0_1_ok 3 rfl)))
  (e_Lok (ld_iload_n_2 (x_dk dn_221_0_1_ok 4 rfl))))
  (e_Tok2
  (e_Lok (ld_iload_n_3 (x_dk dn_221_0_1_ok 5 rfl)))
  (e_Tok2
  (e_Lok (lk_11_255 ho_221 (x_dk dn_221_0_1_ok 6 rfl)))
  (e_Lok (e_rt (I := eI) (k := 1) ⟨(x_dk dn_221_0_1_ok 7 rfl), rfl⟩))))))))
def te_221 : Nat → eE := te_221_0
theorem te_221_ok : ∀ pc, e_EOq eft cls elay eI n_221 pc (te_221 pc) := te_221_0_ok
theorem ho_222 : (xm_y n_222).cls = "RobotCellHouse" := rfl
def dn_222_0_0 : List (Nat × Instr × Nat) := [(0, .iload_n 1, 1), (1, .iconst 0, 1), (2, .iconst 5, 1), (3, .invokestatic 82, 3), (6, .ifCond .ne 5, 3), (9, .iconst (-1), 1), (10, .ireturn, 1), (11, .aload_n 0, 1), (12, .getfield 91, 3), (15, .ifCond .ne 6, 3), (18, .bipush (-2), 2), (20, .ireturn, 1), (21, .aload_n 0, 1), (22, .bipush 9, 2), (24, .iload_n 1, 1), (25, .iload_n 2, 1), (26, .iconst 0, 1), (27, .invokevirtual 255, 3), (30, .ireturn, 1)]
set_option maxRecDepth 20000 in
theorem dn_222_0_0_ok : dn_222_0_0.all (fun q => decide (decode (xm_b n_222) q.1 = .ok (q.2.1, q.2.2))) = true := xa_g_ok (by decide +kernel)
def te_222_0 : Nat → eE := (e_T 12 (e_T 3 (e_T 1 (e_T 0 (e_L 0 (0, ei_load 1 0 1, 0, 0)) (e_L 1 (0, ei_push (0, 0) 2, 0, 0))) (e_T 2 (e_L 2 (0, ei_push (0, 5) 3, 0, 0)) (e_L 3 (2, e_nof, 242, 3)))) (e_T 9 (e_T 6 (e_L 6 (0, ei_if1 1 11 9, 0, 0)) (e_L 9 (0, ei_push (0, (-1)) 10, 0, 0))) (e_T 10 (e_L 10 (1, e_nof, 1, 0)) (e_T 11 (e_L 11 (0, ei_load 0 2 12, 0, 0)) (e_L 12 (0, ei_getf eft elay 11 13 15, 0, 0)))))) (e_T 22 (e_T 18 (e_T 15 (e_L 15 (0, ei_if1 1 21 18, 0, 0)) (e_L 18 (0, ei_push (0, (-2)) 20, 0, 0))) (e_T 20 (e_L 20 (1, e_nof, 1, 0)) (e_T 21 (e_L 21 (0, ei_load 0 2 22, 0, 0)) (e_L 22 (0, ei_push (0, 9) 24, 0, 0))))) (e_T 25 (e_T 24 (e_L 24 (0, ei_load 1 0 25, 0, 0)) (e_L 25 (0, ei_load 2 0 26, 0, 0))) (e_T 26 (e_L 26 (0, ei_push (0, 0) 27, 0, 0)) (e_T 27 (e_L 27 (2, e_nof, 255, 5)) (e_L 30 (1, e_nof, 1, 0)))))))
set_option maxRecDepth 20000 in
set_option maxHeartbeats 4000000 in
theorem te_222_0_ok : ∀ pc, e_EOq eft cls elay eI n_222 pc (te_222_0 pc) :=
  (e_Tok2
  (e_Tok2
  (e_Tok2
  (e_Tok2
  (e_Lok (ld_iload_n_1 (x_dk dn_222_0_0_ok 0 rfl)))
  (e_Lok (ps_iconst_0 (x_dk dn_222_0_0_ok 1 rfl))))
  (e_Tok2
  (e_Lok (ps_iconst_5 (x_dk dn_222_0_0_ok 2 rfl)))
  (e_Lok (lk_11_82 ho_222 (x_dk dn_222_0_0_ok 3 rfl)))))
  (e_Tok2
  (e_Tok2
  (e_Lok (e_st (I := eI) (er_ifne (off := 5) (tg := 11) (x_dk dn_222_0_0_ok 4 rfl) (by decide)) nx_if1))
  (e_Lok (ps_iconst_m1 (x_dk dn_222_0_0_ok 5 rfl))))
  (e_Tok2
  (e_Lok (e_rt (I := eI) (k := 1) ⟨(x_dk dn_222_0_0_ok 6 rfl), rfl⟩))
  (e_Tok2
  (e_Lok (ld_aload_n_0 (x_dk dn_222_0_0_ok 7 rfl)))
  (e_Lok (lk_11_91g ho_222 (x_dk dn_222_0_0_ok 8 rfl)))))))
  (e_Tok2
  (e_Tok2
  (e_Tok2
  (e_Lok (e_st (I := eI) (er_ifne (off := 6) (tg := 21) (x_dk dn_222_0_0_ok 9 rfl) (by decide)) nx_if1))
  (e_Lok (ps_bipush_m2 (x_dk dn_222_0_0_ok 10 rfl))))
  (e_Tok2
  (e_Lok (e_rt (I := eI) (k := 1) ⟨(x_dk dn_222_0_0_ok 11 rfl), rfl⟩))
  (e_Tok2
  (e_Lok (ld_aload_n_0 (x_dk dn_222_0_0_ok 12 rfl)))
  (e_Lok (ps_bipush_9 (x_dk dn_222_0_0_ok 13 rfl))))))
  (e_Tok2
  (e_Tok2
  (e_Lok (ld_iload_n_1 (x_dk dn_222_0_0_ok 14 rfl)))
  (e_Lok (ld_iload_n_2 (x_dk dn_222_0_0_ok 15 rfl))))
  (e_Tok2
  (e_Lok (ps_iconst_0 (x_dk dn_222_0_0_ok 16 rfl)))
  (e_Tok2
  (e_Lok (lk_11_255 ho_222 (x_dk dn_222_0_0_ok 17 rfl)))
  (e_Lok (e_rt (I := eI) (k := 1) ⟨(x_dk dn_222_0_0_ok 18 rfl), rfl⟩)))))))
def te_222 : Nat → eE := te_222_0
theorem te_222_ok : ∀ pc, e_EOq eft cls elay eI n_222 pc (te_222 pc) := te_222_0_ok
theorem ho_223 : (xm_y n_223).cls = "RobotCellHouse" := rfl
def dn_223_0_0 : List (Nat × Instr × Nat) := [(0, .aload_n 0, 1), (1, .iload_n 1, 1), (2, .invokevirtual 103, 3), (5, .ifCond .eq 24, 3), (8, .iload_n 2, 1), (9, .iconst 1, 1), (10, .bipush 16, 2), (12, .invokestatic 82, 3), (15, .ifCond .eq 14, 3), (18, .iload_n 3, 1), (19, .iconst 0, 1), (20, .sipush 2000, 3), (23, .invokestatic 82, 3), (26, .ifCond .ne 5, 3), (29, .iconst (-1), 1), (30, .ireturn, 1), (31, .aload_n 0, 1), (32, .getfield 91, 3), (35, .ifCond .eq 15, 3), (38, .aload_n 0, 1), (39, .getfield 27, 3), (42, .iload_n 1, 1), (43, .aaload, 1), (44, .getfield 286, 3), (47, .ifCond .eq 6, 3)]
set_option maxRecDepth 20000 in
theorem dn_223_0_0_ok : dn_223_0_0.all (fun q => decide (decode (xm_b n_223) q.1 = .ok (q.2.1, q.2.2))) = true := xa_g_ok (by decide +kernel)
def dn_223_0_1 : List (Nat × Instr × Nat) := [(50, .bipush (-2), 2), (52, .ireturn, 1), (53, .aload_n 0, 1), (54, .getfield 53, 3), (57, .aload_n 0, 1), (58, .getfield 27, 3), (61, .iload_n 1, 1), (62, .aaload, 1), (63, .iload_n 2, 1), (64, .iload_n 3, 1), (65, .invokevirtual 289, 3), (68, .ifCond .eq 15, 3), (71, .aload_n 0, 1), (72, .getfield 53, 3), (75, .getfield 293, 3), (78, .bipush 60, 2), (80, .if_icmp .lt 6, 3), (83, .bipush (-3), 2), (85, .ireturn, 1), (86, .aload_n 0, 1), (87, .getfield 53, 3), (90, .getfield 293, 3), (93, .istore 4, 2), (95, .aload_n 0, 1), (96, .getfield 53, 3)]
set_option maxRecDepth 20000 in
theorem dn_223_0_1_ok : dn_223_0_1.all (fun q => decide (decode (xm_b n_223) q.1 = .ok (q.2.1, q.2.2))) = true := xa_g_ok (by decide +kernel)
def dn_223_0_2 : List (Nat × Instr × Nat) := [(99, .dup, 1), (100, .getfield 293, 3), (103, .iconst 1, 1), (104, .iadd, 1), (105, .putfield 293, 3), (108, .aload_n 0, 1), (109, .getfield 53, 3), (112, .aload_n 0, 1), (113, .getfield 27, 3), (116, .iload_n 1, 1), (117, .aaload, 1), (118, .aload_n 0, 1), (119, .getfield 57, 3), (122, .invokevirtual 296, 3), (125, .istore 5, 2), (127, .iload 5, 2), (129, .ifCond .lt 28, 3), (132, .aload_n 0, 1), (133, .getfield 53, 3), (136, .aload_n 0, 1), (137, .getfield 27, 3), (140, .aload_n 0, 1), (141, .getfield 94, 3), (144, .aload_n 0, 1), (145, .getfield 46, 3)]
set_option maxRecDepth 20000 in
theorem dn_223_0_2_ok : dn_223_0_2.all (fun q => decide (decode (xm_b n_223) q.1 = .ok (q.2.1, q.2.2))) = true := xa_g_ok (by decide +kernel)
def dn_223_0_3 : List (Nat × Instr × Nat) := [(148, .iload_n 1, 1), (149, .iload 5, 2), (151, .invokevirtual 300, 3), (154, .ifCond .ne 6, 3), (157, .bipush (-2), 2), (159, .ireturn, 1), (160, .aload_n 0, 1), (161, .getfield 53, 3), (164, .iload 4, 2), (166, .iload 5, 2), (168, .invokevirtual 304, 3), (171, .aload_n 0, 1), (172, .bipush 10, 2), (174, .iload_n 1, 1), (175, .iload 4, 2), (177, .iconst 0, 1), (178, .invokevirtual 255, 3), (181, .ireturn, 1)]
set_option maxRecDepth 20000 in
theorem dn_223_0_3_ok : dn_223_0_3.all (fun q => decide (decode (xm_b n_223) q.1 = .ok (q.2.1, q.2.2))) = true := xa_g_ok (by decide +kernel)
def te_223_0 : Nat → eE := (e_T 19 (e_T 8 (e_T 1 (e_T 0 (e_L 0 (0, ei_load 0 2 1, 0, 0)) (e_L 1 (0, ei_load 1 0 2, 0, 0))) (e_T 2 (e_L 2 (2, e_nof, 246, 2)) (e_T 5 (e_L 5 (0, ei_if1 0 29 8, 0, 0)) (e_L 8 (0, ei_load 2 0 9, 0, 0))))) (e_T 12 (e_T 9 (e_L 9 (0, ei_push (0, 1) 10, 0, 0)) (e_T 10 (e_L 10 (0, ei_push (0, 16) 12, 0, 0)) (e_L 12 (2, e_nof, 242, 3)))) (e_T 15 (e_L 15 (0, ei_if1 0 29 18, 0, 0)) (e_T 18 (e_L 18 (0, ei_load 3 0 19, 0, 0)) (e_L 19 (0, ei_push (0, 0) 20, 0, 0)))))) (e_T 31 (e_T 26 (e_T 20 (e_L 20 (0, ei_push (0, 2000) 23, 0, 0)) (e_T 23 (e_L 23 (2, e_nof, 242, 3)) (e_L 26 (0, ei_if1 1 31 29, 0, 0)))) (e_T 29 (e_L 29 (0, ei_push (0, (-1)) 30, 0, 0)) (e_T 30 (e_L 30 (1, e_nof, 1, 0)) (e_L 31 (0, ei_load 0 2 32, 0, 0))))) (e_T 38 (e_T 32 (e_L 32 (0, ei_getf eft elay 11 13 35, 0, 0)) (e_T 35 (e_L 35 (0, ei_if1 0 50 38, 0, 0)) (e_L 38 (0, ei_load 0 2 39, 0, 0)))) (e_T 39 (e_L 39 (0, ei_getf eft elay 11 2 42, 0, 0)) (e_T 42 (e_L 42 (0, ei_load 1 0 43, 0, 0)) (e_L 43 (0, ei_aald elay 44, 0, 0)))))))
set_option maxRecDepth 20000 in
set_option maxHeartbeats 4000000 in
theorem te_223_0_ok : ∀ pc, e_EOq eft cls elay eI n_223 pc (te_223_0 pc) :=
  (e_Tok2
  (e_Tok2
  (e_Tok2
  (e_Tok2
  (e_Lok (ld_aload_n_0 (x_dk dn_223_0_0_ok 0 rfl)))
  (e_Lok (ld_iload_n_1 (x_dk dn_223_0_0_ok 1 rfl))))
  (e_Tok2
  (e_Lok (lk_11_103 ho_223 (x_dk dn_223_0_0_ok 2 rfl)))
  (e_Tok2
  (e_Lok (e_st (I := eI) (er_ifeq (off := 24) (tg := 29) (x_dk dn_223_0_0_ok 3 rfl) (by decide)) nx_if1))
  (e_Lok (ld_iload_n_2 (x_dk dn_223_0_0_ok 4 rfl))))))
  (e_Tok2
  (e_Tok2
  (e_Lok (ps_iconst_1 (x_dk dn_223_0_0_ok 5 rfl)))
  (e_Tok2
  (e_Lok (ps_bipush_16 (x_dk dn_223_0_0_ok 6 rfl)))
  (e_Lok (lk_11_82 ho_223 (x_dk dn_223_0_0_ok 7 rfl)))))
  (e_Tok2
  (e_Lok (e_st (I := eI) (er_ifeq (off := 14) (tg := 29) (x_dk dn_223_0_0_ok 8 rfl) (by decide)) nx_if1))
  (e_Tok2
  (e_Lok (ld_iload_n_3 (x_dk dn_223_0_0_ok 9 rfl)))
  (e_Lok (ps_iconst_0 (x_dk dn_223_0_0_ok 10 rfl)))))))
  (e_Tok2
  (e_Tok2
  (e_Tok2
  (e_Lok (ps_sipush_2000 (x_dk dn_223_0_0_ok 11 rfl)))
  (e_Tok2
  (e_Lok (lk_11_82 ho_223 (x_dk dn_223_0_0_ok 12 rfl)))
  (e_Lok (e_st (I := eI) (er_ifne (off := 5) (tg := 31) (x_dk dn_223_0_0_ok 13 rfl) (by decide)) nx_if1))))
  (e_Tok2
  (e_Lok (ps_iconst_m1 (x_dk dn_223_0_0_ok 14 rfl)))
  (e_Tok2
  (e_Lok (e_rt (I := eI) (k := 1) ⟨(x_dk dn_223_0_0_ok 15 rfl), rfl⟩))
  (e_Lok (ld_aload_n_0 (x_dk dn_223_0_0_ok 16 rfl))))))
  (e_Tok2
  (e_Tok2
  (e_Lok (lk_11_91g ho_223 (x_dk dn_223_0_0_ok 17 rfl)))
  (e_Tok2
  (e_Lok (e_st (I := eI) (er_ifeq (off := 15) (tg := 50) (x_dk dn_223_0_0_ok 18 rfl) (by decide)) nx_if1))
  (e_Lok (ld_aload_n_0 (x_dk dn_223_0_0_ok 19 rfl)))))
  (e_Tok2
  (e_Lok (lk_11_27g ho_223 (x_dk dn_223_0_0_ok 20 rfl)))
  (e_Tok2
  (e_Lok (ld_iload_n_1 (x_dk dn_223_0_0_ok 21 rfl)))
  (e_Lok (e_st (I := eI) (er_aaload (x_dk dn_223_0_0_ok 22 rfl)) nx_aald)))))))
def te_223_23 : Nat → eE := (e_T 63 (e_T 53 (e_T 47 (e_T 44 (e_L 44 (0, ei_getf eft elay 0 11 47, 0, 0)) (e_L 47 (0, ei_if1 0 53 50, 0, 0))) (e_T 50 (e_L 50 (0, ei_push (0, (-2)) 52, 0, 0)) (e_T 52 (e_L 52 (1, e_nof, 1, 0)) (e_L 53 (0, ei_load 0 2 54, 0, 0))))) (e_T 58 (e_T 54 (e_L 54 (0, ei_getf eft elay 11 7 57, 0, 0)) (e_T 57 (e_L 57 (0, ei_load 0 2 58, 0, 0)) (e_L 58 (0, ei_getf eft elay 11 2 61, 0, 0)))) (e_T 61 (e_L 61 (0, ei_load 1 0 62, 0, 0)) (e_T 62 (e_L 62 (0, ei_aald elay 63, 0, 0)) (e_L 63 (0, ei_load 2 0 64, 0, 0)))))) (e_T 75 (e_T 68 (e_T 64 (e_L 64 (0, ei_load 3 0 65, 0, 0)) (e_T 65 (e_L 65 (2, e_nof, 98, 4)) (e_L 68 (0, ei_if1 0 83 71, 0, 0)))) (e_T 71 (e_L 71 (0, ei_load 0 2 72, 0, 0)) (e_T 72 (e_L 72 (0, ei_getf eft elay 11 7 75, 0, 0)) (e_L 75 (0, ei_getf eft elay 6 0 78, 0, 0))))) (e_T 83 (e_T 78 (e_L 78 (0, ei_push (0, 60) 80, 0, 0)) (e_T 80 (e_L 80 (0, ei_if2 2 86 83, 0, 0)) (e_L 83 (0, ei_push (0, (-3)) 85, 0, 0)))) (e_T 85 (e_L 85 (1, e_nof, 1, 0)) (e_T 86 (e_L 86 (0, ei_load 0 2 87, 0, 0)) (e_L 87 (0, ei_getf eft elay 11 7 90, 0, 0)))))))
set_option maxRecDepth 20000 in
set_option maxHeartbeats 4000000 in
theorem te_223_23_ok : ∀ pc, e_EOq eft cls elay eI n_223 pc (te_223_23 pc) :=
  (e_Tok2
  (e_Tok2
  (e_Tok2
  (e_Tok2
  (e_Lok (lk_11_286g ho_223 (x_dk dn_223_0_0_ok 23 rfl)))
  (e_Lok (e_st (I := eI) (er_ifeq (off := 6) (tg := 53) (x_dk dn_223_0_0_ok 24 rfl) (by decide)) nx_if1)))
  (e_Tok2
  (e_Lok (ps_bipush_m2 (x_dk dn_223_0_1_ok 0 rfl)))
  (e_Tok2
  (e_Lok (e_rt (I := eI) (k := 1) ⟨(x_dk dn_223_0_1_ok 1 rfl), rfl⟩))
  (e_Lok (ld_aload_n_0 (x_dk dn_223_0_1_ok 2 rfl))))))
  (e_Tok2
  (e_Tok2
  (e_Lok (lk_11_53g ho_223 (x_dk dn_223_0_1_ok 3 rfl)))
  (e_Tok2
  (e_Lok (ld_aload_n_0 (x_dk dn_223_0_1_ok 4 rfl)))
  (e_Lok (lk_11_27g ho_223 (x_dk dn_223_0_1_ok 5 rfl)))))
  (e_Tok2
  (e_Lok (ld_iload_n_1 (x_dk dn_223_0_1_ok 6 rfl)))
  (e_Tok2
  (e_Lok (e_st (I := eI) (er_aaload (x_dk dn_223_0_1_ok 7 rfl)) nx_aald))
  (e_Lok (ld_iload_n_2 (x_dk dn_223_0_1_ok 8 rfl)))))))
  (e_Tok2
  (e_Tok2
  (e_Tok2
  (e_Lok (ld_iload_n_3 (x_dk dn_223_0_1_ok 9 rfl)))
  (e_Tok2
  (e_Lok (lk_11_289 ho_223 (x_dk dn_223_0_1_ok 10 rfl)))
  (e_Lok (e_st (I := eI) (er_ifeq (off := 15) (tg := 83) (x_dk dn_223_0_1_ok 11 rfl) (by decide)) nx_if1))))
  (e_Tok2
  (e_Lok (ld_aload_n_0 (x_dk dn_223_0_1_ok 12 rfl)))
  (e_Tok2
  (e_Lok (lk_11_53g ho_223 (x_dk dn_223_0_1_ok 13 rfl)))
  (e_Lok (lk_11_293g ho_223 (x_dk dn_223_0_1_ok 14 rfl))))))
  (e_Tok2
  (e_Tok2
  (e_Lok (ps_bipush_60 (x_dk dn_223_0_1_ok 15 rfl)))
  (e_Tok2
  (e_Lok (e_st (I := eI) (er_icmplt (off := 6) (tg := 86) (x_dk dn_223_0_1_ok 16 rfl) (by decide)) nx_if2))
  (e_Lok (ps_bipush_m3 (x_dk dn_223_0_1_ok 17 rfl)))))
  (e_Tok2
  (e_Lok (e_rt (I := eI) (k := 1) ⟨(x_dk dn_223_0_1_ok 18 rfl), rfl⟩))
  (e_Tok2
  (e_Lok (ld_aload_n_0 (x_dk dn_223_0_1_ok 19 rfl)))
  (e_Lok (lk_11_53g ho_223 (x_dk dn_223_0_1_ok 20 rfl))))))))
def te_223_46 : Nat → eE := (e_T 109 (e_T 99 (e_T 93 (e_T 90 (e_L 90 (0, ei_getf eft elay 6 0 93, 0, 0)) (e_L 93 (0, ei_stor 4 0 95, 0, 0))) (e_T 95 (e_L 95 (0, ei_load 0 2 96, 0, 0)) (e_T 96 (e_L 96 (0, ei_getf eft elay 11 7 99, 0, 0)) (e_L 99 (0, ei_stk ef_dup 100, 0, 0))))) (e_T 104 (e_T 100 (e_L 100 (0, ei_getf eft elay 6 0 103, 0, 0)) (e_T 103 (e_L 103 (0, ei_push (0, 1) 104, 0, 0)) (e_L 104 (0, ei_bin eF_add 105, 0, 0)))) (e_T 105 (e_L 105 (0, ei_putf eft elay 6 0 0 108, 0, 0)) (e_T 108 (e_L 108 (0, ei_load 0 2 109, 0, 0)) (e_L 109 (0, ei_getf eft elay 11 7 112, 0, 0)))))) (e_T 119 (e_T 116 (e_T 112 (e_L 112 (0, ei_load 0 2 113, 0, 0)) (e_T 113 (e_L 113 (0, ei_getf eft elay 11 2 116, 0, 0)) (e_L 116 (0, ei_load 1 0 117, 0, 0)))) (e_T 117 (e_L 117 (0, ei_aald elay 118, 0, 0)) (e_T 118 (e_L 118 (0, ei_load 0 2 119, 0, 0)) (e_L 119 (0, ei_getf eft elay 11 8 122, 0, 0))))) (e_T 127 (e_T 122 (e_L 122 (2, e_nof, 99, 3)) (e_T 125 (e_L 125 (0, ei_stor 5 0 127, 0, 0)) (e_L 127 (0, ei_load 5 0 129, 0, 0)))) (e_T 129 (e_L 129 (0, ei_if1 2 157 132, 0, 0)) (e_T 132 (e_L 132 (0, ei_load 0 2 133, 0, 0)) (e_L 133 (0, ei_getf eft elay 11 7 136, 0, 0)))))))
set_option maxRecDepth 20000 in
set_option maxHeartbeats 4000000 in
theorem te_223_46_ok : ∀ pc, e_EOq eft cls elay eI n_223 pc (te_223_46 pc) :=
  (e_Tok2
  (e_Tok2
  (e_Tok2
  (e_Tok2
  (e_Lok (lk_11_293g ho_223 (x_dk dn_223_0_1_ok 21 rfl)))
  (e_Lok (e_st (I := eI) (er_istore (i := 4) (x_dk dn_223_0_1_ok 22 rfl) (by decide +kernel)) nx_stor)))
  (e_Tok2
  (e_Lok (ld_aload_n_0 (x_dk dn_223_0_1_ok 23 rfl)))
  (e_Tok2
  (e_Lok (lk_11_53g ho_223 (x_dk dn_223_0_1_ok 24 rfl)))
  (e_Lok (e_st (I := eI) (er_dup (x_dk dn_223_0_2_ok 0 rfl)) (nx_stk bf_dup))))))
  (e_Tok2
  (e_Tok2
  (e_Lok (lk_11_293g ho_223 (x_dk dn_223_0_2_ok 1 rfl)))
  (e_Tok2
  (e_Lok (ps_iconst_1 (x_dk dn_223_0_2_ok 2 rfl)))
  (e_Lok (sm_iadd (x_dk dn_223_0_2_ok 3 rfl)))))
  (e_Tok2
  (e_Lok (lk_11_293p ho_223 (x_dk dn_223_0_2_ok 4 rfl)))
  (e_Tok2
  (e_Lok (ld_aload_n_0 (x_dk dn_223_0_2_ok 5 rfl)))
  (e_Lok (lk_11_53g ho_223 (x_dk dn_223_0_2_ok 6 rfl)))))))
  (e_Tok2
  (e_Tok2
  (e_Tok2
  (e_Lok (ld_aload_n_0 (x_dk dn_223_0_2_ok 7 rfl)))
  (e_Tok2
  (e_Lok (lk_11_27g ho_223 (x_dk dn_223_0_2_ok 8 rfl)))
  (e_Lok (ld_iload_n_1 (x_dk dn_223_0_2_ok 9 rfl)))))
  (e_Tok2
  (e_Lok (e_st (I := eI) (er_aaload (x_dk dn_223_0_2_ok 10 rfl)) nx_aald))
  (e_Tok2
  (e_Lok (ld_aload_n_0 (x_dk dn_223_0_2_ok 11 rfl)))
  (e_Lok (lk_11_57g ho_223 (x_dk dn_223_0_2_ok 12 rfl))))))
  (e_Tok2
  (e_Tok2
  (e_Lok (lk_11_296 ho_223 (x_dk dn_223_0_2_ok 13 rfl)))
  (e_Tok2
  (e_Lok (e_st (I := eI) (er_istore (i := 5) (x_dk dn_223_0_2_ok 14 rfl) (by decide +kernel)) nx_stor))
  (e_Lok (ld_iload_5 (x_dk dn_223_0_2_ok 15 rfl)))))
  (e_Tok2
  (e_Lok (e_st (I := eI) (er_iflt (off := 28) (tg := 157) (x_dk dn_223_0_2_ok 16 rfl) (by decide)) nx_if1))
  (e_Tok2
  (e_Lok (ld_aload_n_0 (x_dk dn_223_0_2_ok 17 rfl)))
  (e_Lok (lk_11_53g ho_223 (x_dk dn_223_0_2_ok 18 rfl))))))))
def te_223_69 : Nat → eE := (e_T 159 (e_T 145 (e_T 140 (e_T 136 (e_L 136 (0, ei_load 0 2 137, 0, 0)) (e_T 137 (e_L 137 (0, ei_getf eft elay 11 2 140, 0, 0)) (e_L 140 (0, ei_load 0 2 141, 0, 0)))) (e_T 141 (e_L 141 (0, ei_getf eft elay 11 11 144, 0, 0)) (e_T 144 (e_L 144 (0, ei_load 0 2 145, 0, 0)) (e_L 145 (0, ei_getf eft elay 11 6 148, 0, 0))))) (e_T 151 (e_T 148 (e_L 148 (0, ei_load 1 0 149, 0, 0)) (e_T 149 (e_L 149 (0, ei_load 5 0 151, 0, 0)) (e_L 151 (2, e_nof, 100, 6)))) (e_T 154 (e_L 154 (0, ei_if1 1 160 157, 0, 0)) (e_T 157 (e_L 157 (0, ei_push (0, (-2)) 159, 0, 0)) (e_L 159 (1, e_nof, 1, 0)))))) (e_T 171 (e_T 164 (e_T 160 (e_L 160 (0, ei_load 0 2 161, 0, 0)) (e_T 161 (e_L 161 (0, ei_getf eft elay 11 7 164, 0, 0)) (e_L 164 (0, ei_load 4 0 166, 0, 0)))) (e_T 166 (e_L 166 (0, ei_load 5 0 168, 0, 0)) (e_T 168 (e_L 168 (2, e_nof, 105, 3)) (e_L 171 (0, ei_load 0 2 172, 0, 0))))) (e_T 175 (e_T 172 (e_L 172 (0, ei_push (0, 10) 174, 0, 0)) (e_T 174 (e_L 174 (0, ei_load 1 0 175, 0, 0)) (e_L 175 (0, ei_load 4 0 177, 0, 0)))) (e_T 177 (e_L 177 (0, ei_push (0, 0) 178, 0, 0)) (e_T 178 (e_L 178 (2, e_nof, 255, 5)) (e_L 181 (1, e_nof, 1, 0)))))))
set_option maxRecDepth 20000 in
set_option maxHeartbeats 4000000 in
theorem te_223_69_ok : ∀ pc, e_EOq eft cls elay eI n_223 pc (te_223_69 pc) :=
  (e_Tok2
  (e_Tok2
  (e_Tok2
  (e_Tok2
  (e_Lok (ld_aload_n_0 (x_dk dn_223_0_2_ok 19 rfl)))
  (e_Tok2
  (e_Lok (lk_11_27g ho_223 (x_dk dn_223_0_2_ok 20 rfl)))
  (e_Lok (ld_aload_n_0 (x_dk dn_223_0_2_ok 21 rfl)))))
  (e_Tok2
  (e_Lok (lk_11_94g ho_223 (x_dk dn_223_0_2_ok 22 rfl)))
  (e_Tok2
  (e_Lok (ld_aload_n_0 (x_dk dn_223_0_2_ok 23 rfl)))
  (e_Lok (lk_11_46g ho_223 (x_dk dn_223_0_2_ok 24 rfl))))))
  (e_Tok2
  (e_Tok2
  (e_Lok (ld_iload_n_1 (x_dk dn_223_0_3_ok 0 rfl)))
  (e_Tok2
  (e_Lok (ld_iload_5 (x_dk dn_223_0_3_ok 1 rfl)))
  (e_Lok (lk_11_300 ho_223 (x_dk dn_223_0_3_ok 2 rfl)))))
  (e_Tok2
  (e_Lok (e_st (I := eI) (er_ifne (off := 6) (tg := 160) (x_dk dn_223_0_3_ok 3 rfl) (by decide)) nx_if1))
  (e_Tok2
  (e_Lok (ps_bipush_m2 (x_dk dn_223_0_3_ok 4 rfl)))
  (e_Lok (e_rt (I := eI) (k := 1) ⟨(x_dk dn_223_0_3_ok 5 rfl), rfl⟩))))))
  (e_Tok2
  (e_Tok2
  (e_Tok2
  (e_Lok (ld_aload_n_0 (x_dk dn_223_0_3_ok 6 rfl)))
  (e_Tok2
  (e_Lok (lk_11_53g ho_223 (x_dk dn_223_0_3_ok 7 rfl)))
  (e_Lok (ld_iload_4 (x_dk dn_223_0_3_ok 8 rfl)))))
  (e_Tok2
  (e_Lok (ld_iload_5 (x_dk dn_223_0_3_ok 9 rfl)))
  (e_Tok2
  (e_Lok (lk_11_304 ho_223 (x_dk dn_223_0_3_ok 10 rfl)))
  (e_Lok (ld_aload_n_0 (x_dk dn_223_0_3_ok 11 rfl))))))
  (e_Tok2
  (e_Tok2
  (e_Lok (ps_bipush_10 (x_dk dn_223_0_3_ok 12 rfl)))
  (e_Tok2
  (e_Lok (ld_iload_n_1 (x_dk dn_223_0_3_ok 13 rfl)))
  (e_Lok (ld_iload_4 (x_dk dn_223_0_3_ok 14 rfl)))))
  (e_Tok2
  (e_Lok (ps_iconst_0 (x_dk dn_223_0_3_ok 15 rfl)))
  (e_Tok2
  (e_Lok (lk_11_255 ho_223 (x_dk dn_223_0_3_ok 16 rfl)))
  (e_Lok (e_rt (I := eI) (k := 1) ⟨(x_dk dn_223_0_3_ok 17 rfl), rfl⟩)))))))
def te_223 : Nat → eE := (e_T 87 (e_T 43 te_223_0 te_223_23) (e_T 133 te_223_46 te_223_69))
theorem te_223_ok : ∀ pc, e_EOq eft cls elay eI n_223 pc (te_223 pc) := (e_Tok2 ((e_Tok2 (te_223_0_ok) (te_223_23_ok))) ((e_Tok2 (te_223_46_ok) (te_223_69_ok))))
theorem ho_224 : (xm_y n_224).cls = "RobotCellHouse" := rfl
def dn_224_0_0 : List (Nat × Instr × Nat) := [(0, .aload_n 0, 1), (1, .iload_n 1, 1), (2, .invokevirtual 103, 3), (5, .ifCond .ne 5, 3), (8, .iconst (-1), 1), (9, .ireturn, 1), (10, .aload_n 0, 1), (11, .getfield 91, 3), (14, .ifCond .eq 27, 3), (17, .aload_n 0, 1), (18, .getfield 27, 3), (21, .iload_n 1, 1), (22, .aaload, 1), (23, .invokevirtual 308, 3), (26, .ifCond .eq 15, 3), (29, .aload_n 0, 1), (30, .getfield 27, 3), (33, .iload_n 1, 1), (34, .aaload, 1), (35, .getfield 286, 3), (38, .ifCond .eq 6, 3), (41, .bipush (-2), 2), (43, .ireturn, 1), (44, .aload_n 0, 1), (45, .getfield 27, 3)]
set_option maxRecDepth 20000 in
theorem dn_224_0_0_ok : dn_224_0_0.all (fun q => decide (decode (xm_b n_224) q.1 = .ok (q.2.1, q.2.2))) = true := xa_g_ok (by decide +kernel)
def dn_224_0_1 : List (Nat × Instr × Nat) := [(48, .iload_n 1, 1), (49, .aaload, 1), (50, .getfield 280, 3), (53, .ifCond .ge 13, 3), (56, .aload_n 0, 1), (57, .getfield 42, 3), (60, .getfield 274, 3), (63, .ifCond .ne 6, 3), (66, .bipush (-2), 2), (68, .ireturn, 1), (69, .aload_n 0, 1), (70, .bipush 11, 2), (72, .iload_n 1, 1), (73, .iconst 0, 1), (74, .iconst 0, 1), (75, .invokevirtual 255, 3), (78, .ireturn, 1)]
set_option maxRecDepth 20000 in
theorem dn_224_0_1_ok : dn_224_0_1.all (fun q => decide (decode (xm_b n_224) q.1 = .ok (q.2.1, q.2.2))) = true := xa_g_ok (by decide +kernel)
def te_224_0 : Nat → eE := (e_T 17 (e_T 8 (e_T 1 (e_T 0 (e_L 0 (0, ei_load 0 2 1, 0, 0)) (e_L 1 (0, ei_load 1 0 2, 0, 0))) (e_T 2 (e_L 2 (2, e_nof, 246, 2)) (e_T 5 (e_L 5 (0, ei_if1 1 10 8, 0, 0)) (e_L 8 (0, ei_push (0, (-1)) 9, 0, 0))))) (e_T 10 (e_T 9 (e_L 9 (1, e_nof, 1, 0)) (e_L 10 (0, ei_load 0 2 11, 0, 0))) (e_T 11 (e_L 11 (0, ei_getf eft elay 11 13 14, 0, 0)) (e_T 14 (e_L 14 (0, ei_if1 0 41 17, 0, 0)) (e_L 17 (0, ei_load 0 2 18, 0, 0)))))) (e_T 26 (e_T 21 (e_T 18 (e_L 18 (0, ei_getf eft elay 11 2 21, 0, 0)) (e_L 21 (0, ei_load 1 0 22, 0, 0))) (e_T 22 (e_L 22 (0, ei_aald elay 23, 0, 0)) (e_T 23 (e_L 23 (2, e_nof, 9, 1)) (e_L 26 (0, ei_if1 0 41 29, 0, 0))))) (e_T 33 (e_T 29 (e_L 29 (0, ei_load 0 2 30, 0, 0)) (e_T 30 (e_L 30 (0, ei_getf eft elay 11 2 33, 0, 0)) (e_L 33 (0, ei_load 1 0 34, 0, 0)))) (e_T 34 (e_L 34 (0, ei_aald elay 35, 0, 0)) (e_T 35 (e_L 35 (0, ei_getf eft elay 0 11 38, 0, 0)) (e_L 38 (0, ei_if1 0 44 41, 0, 0)))))))
set_option maxRecDepth 20000 in
set_option maxHeartbeats 4000000 in
theorem te_224_0_ok : ∀ pc, e_EOq eft cls elay eI n_224 pc (te_224_0 pc) :=
  (e_Tok2
  (e_Tok2
  (e_Tok2
  (e_Tok2
  (e_Lok (ld_aload_n_0 (x_dk dn_224_0_0_ok 0 rfl)))
  (e_Lok (ld_iload_n_1 (x_dk dn_224_0_0_ok 1 rfl))))
  (e_Tok2
  (e_Lok (lk_11_103 ho_224 (x_dk dn_224_0_0_ok 2 rfl)))
  (e_Tok2
  (e_Lok (e_st (I := eI) (er_ifne (off := 5) (tg := 10) (x_dk dn_224_0_0_ok 3 rfl) (by decide)) nx_if1))
  (e_Lok (ps_iconst_m1 (x_dk dn_224_0_0_ok 4 rfl))))))
  (e_Tok2
  (e_Tok2
  (e_Lok (e_rt (I := eI) (k := 1) ⟨(x_dk dn_224_0_0_ok 5 rfl), rfl⟩))
  (e_Lok (ld_aload_n_0 (x_dk dn_224_0_0_ok 6 rfl))))
  (e_Tok2
  (e_Lok (lk_11_91g ho_224 (x_dk dn_224_0_0_ok 7 rfl)))
  (e_Tok2
  (e_Lok (e_st (I := eI) (er_ifeq (off := 27) (tg := 41) (x_dk dn_224_0_0_ok 8 rfl) (by decide)) nx_if1))
  (e_Lok (ld_aload_n_0 (x_dk dn_224_0_0_ok 9 rfl)))))))
  (e_Tok2
  (e_Tok2
  (e_Tok2
  (e_Lok (lk_11_27g ho_224 (x_dk dn_224_0_0_ok 10 rfl)))
  (e_Lok (ld_iload_n_1 (x_dk dn_224_0_0_ok 11 rfl))))
  (e_Tok2
  (e_Lok (e_st (I := eI) (er_aaload (x_dk dn_224_0_0_ok 12 rfl)) nx_aald))
  (e_Tok2
  (e_Lok (lk_11_308 ho_224 (x_dk dn_224_0_0_ok 13 rfl)))
  (e_Lok (e_st (I := eI) (er_ifeq (off := 15) (tg := 41) (x_dk dn_224_0_0_ok 14 rfl) (by decide)) nx_if1)))))
  (e_Tok2
  (e_Tok2
  (e_Lok (ld_aload_n_0 (x_dk dn_224_0_0_ok 15 rfl)))
  (e_Tok2
  (e_Lok (lk_11_27g ho_224 (x_dk dn_224_0_0_ok 16 rfl)))
  (e_Lok (ld_iload_n_1 (x_dk dn_224_0_0_ok 17 rfl)))))
  (e_Tok2
  (e_Lok (e_st (I := eI) (er_aaload (x_dk dn_224_0_0_ok 18 rfl)) nx_aald))
  (e_Tok2
  (e_Lok (lk_11_286g ho_224 (x_dk dn_224_0_0_ok 19 rfl)))
  (e_Lok (e_st (I := eI) (er_ifeq (off := 6) (tg := 44) (x_dk dn_224_0_0_ok 20 rfl) (by decide)) nx_if1)))))))
def te_224_21 : Nat → eE := (e_T 57 (e_T 48 (e_T 43 (e_T 41 (e_L 41 (0, ei_push (0, (-2)) 43, 0, 0)) (e_L 43 (1, e_nof, 1, 0))) (e_T 44 (e_L 44 (0, ei_load 0 2 45, 0, 0)) (e_T 45 (e_L 45 (0, ei_getf eft elay 11 2 48, 0, 0)) (e_L 48 (0, ei_load 1 0 49, 0, 0))))) (e_T 50 (e_T 49 (e_L 49 (0, ei_aald elay 50, 0, 0)) (e_L 50 (0, ei_getf eft elay 0 16 53, 0, 0))) (e_T 53 (e_L 53 (0, ei_if1 3 66 56, 0, 0)) (e_T 56 (e_L 56 (0, ei_load 0 2 57, 0, 0)) (e_L 57 (0, ei_getf eft elay 11 5 60, 0, 0)))))) (e_T 69 (e_T 63 (e_T 60 (e_L 60 (0, ei_getf eft elay 2 3 63, 0, 0)) (e_L 63 (0, ei_if1 1 69 66, 0, 0))) (e_T 66 (e_L 66 (0, ei_push (0, (-2)) 68, 0, 0)) (e_T 68 (e_L 68 (1, e_nof, 1, 0)) (e_L 69 (0, ei_load 0 2 70, 0, 0))))) (e_T 73 (e_T 70 (e_L 70 (0, ei_push (0, 11) 72, 0, 0)) (e_T 72 (e_L 72 (0, ei_load 1 0 73, 0, 0)) (e_L 73 (0, ei_push (0, 0) 74, 0, 0)))) (e_T 74 (e_L 74 (0, ei_push (0, 0) 75, 0, 0)) (e_T 75 (e_L 75 (2, e_nof, 255, 5)) (e_L 78 (1, e_nof, 1, 0)))))))
set_option maxRecDepth 20000 in
set_option maxHeartbeats 4000000 in
theorem te_224_21_ok : ∀ pc, e_EOq eft cls elay eI n_224 pc (te_224_21 pc) :=
  (e_Tok2
  (e_Tok2
  (e_Tok2
  (e_Tok2
  (e_Lok (ps_bipush_m2 (x_dk dn_224_0_0_ok 21 rfl)))
  (e_Lok (e_rt (I := eI) (k := 1) ⟨(x_dk dn_224_0_0_ok 22 rfl), rfl⟩)))
  (e_Tok2
  (e_Lok (ld_aload_n_0 (x_dk dn_224_0_0_ok 23 rfl)))
  (e_Tok2
  (e_Lok (lk_11_27g ho_224 (x_dk dn_224_0_0_ok 24 rfl)))
  (e_Lok (ld_iload_n_1 (x_dk dn_224_0_1_ok 0 rfl))))))
  (e_Tok2
  (e_Tok2
  (e_Lok (e_st (I := eI) (er_aaload (x_dk dn_224_0_1_ok 1 rfl)) nx_aald))
  (e_Lok (lk_11_280g ho_224 (x_dk dn_224_0_1_ok 2 rfl))))
  (e_Tok2
  (e_Lok (e_st (I := eI) (er_ifge (off := 13) (tg := 66) (x_dk dn_224_0_1_ok 3 rfl) (by decide)) nx_if1))
  (e_Tok2
  (e_Lok (ld_aload_n_0 (x_dk dn_224_0_1_ok 4 rfl)))
  (e_Lok (lk_11_42g ho_224 (x_dk dn_224_0_1_ok 5 rfl)))))))
  (e_Tok2
  (e_Tok2
  (e_Tok2
  (e_Lok (lk_11_274g ho_224 (x_dk dn_224_0_1_ok 6 rfl)))
  (e_Lok (e_st (I := eI) (er_ifne (off := 6) (tg := 69) (x_dk dn_224_0_1_ok 7 rfl) (by decide)) nx_if1)))
  (e_Tok2
  (e_Lok (ps_bipush_m2 (x_dk dn_224_0_1_ok 8 rfl)))
  (e_Tok2
  (e_Lok (e_rt (I := eI) (k := 1) ⟨(x_dk dn_224_0_1_ok 9 rfl), rfl⟩))
  (e_Lok (ld_aload_n_0 (x_dk dn_224_0_1_ok 10 rfl))))))
  (e_Tok2
  (e_Tok2
  (e_Lok (ps_bipush_11 (x_dk dn_224_0_1_ok 11 rfl)))
  (e_Tok2
  (e_Lok (ld_iload_n_1 (x_dk dn_224_0_1_ok 12 rfl)))
  (e_Lok (ps_iconst_0 (x_dk dn_224_0_1_ok 13 rfl)))))
  (e_Tok2
  (e_Lok (ps_iconst_0 (x_dk dn_224_0_1_ok 14 rfl)))
  (e_Tok2
  (e_Lok (lk_11_255 ho_224 (x_dk dn_224_0_1_ok 15 rfl)))
  (e_Lok (e_rt (I := eI) (k := 1) ⟨(x_dk dn_224_0_1_ok 16 rfl), rfl⟩)))))))
def te_224 : Nat → eE := (e_T 38 te_224_0 te_224_21)
theorem te_224_ok : ∀ pc, e_EOq eft cls elay eI n_224 pc (te_224 pc) := (e_Tok2 (te_224_0_ok) (te_224_21_ok))
theorem ho_225 : (xm_y n_225).cls = "RobotCellHouse" := rfl
def dn_225_0_0 : List (Nat × Instr × Nat) := [(0, .iload_n 1, 1), (1, .iconst 0, 1), (2, .aload_n 0, 1), (3, .getfield 246, 3), (6, .invokestatic 82, 3), (9, .ifCond .ne 5, 3), (12, .iconst (-1), 1), (13, .ireturn, 1), (14, .aload_n 0, 1), (15, .getfield 91, 3), (18, .ifCond .ne 6, 3), (21, .bipush (-2), 2), (23, .ireturn, 1), (24, .iload_n 1, 1), (25, .aload_n 0, 1), (26, .getfield 246, 3), (29, .if_icmp .ne 11, 3), (32, .aload_n 0, 1), (33, .getfield 42, 3), (36, .getfield 86, 3), (39, .ireturn, 1), (40, .aload_n 0, 1), (41, .iload_n 1, 1), (42, .putfield 246, 3), (45, .aload_n 0, 1)]
set_option maxRecDepth 20000 in
theorem dn_225_0_0_ok : dn_225_0_0.all (fun q => decide (decode (xm_b n_225) q.1 = .ok (q.2.1, q.2.2))) = true := xa_g_ok (by decide +kernel)
def dn_225_0_1 : List (Nat × Instr × Nat) := [(46, .iconst 0, 1), (47, .putfield 67, 3), (50, .aload_n 0, 1), (51, .invokevirtual 249, 3), (54, .iconst 0, 1), (55, .istore_n 2, 1), (56, .iload_n 2, 1), (57, .iload_n 1, 1), (58, .if_icmp .ge 87, 3), (61, .iload_n 2, 1), (62, .iconst 4, 1), (63, .imul, 1), (64, .istore_n 3, 1), (65, .aload_n 0, 1), (66, .getfield 61, 3), (69, .iload_n 3, 1), (70, .iaload, 1), (71, .iconst 1, 1), (72, .if_icmp .eq 41, 3), (75, .aload_n 0, 1), (76, .aload_n 0, 1), (77, .getfield 61, 3), (80, .iload_n 3, 1), (81, .iaload, 1), (82, .aload_n 0, 1)]
set_option maxRecDepth 20000 in
theorem dn_225_0_1_ok : dn_225_0_1.all (fun q => decide (decode (xm_b n_225) q.1 = .ok (q.2.1, q.2.2))) = true := xa_g_ok (by decide +kernel)
def dn_225_0_2 : List (Nat × Instr × Nat) := [(83, .getfield 61, 3), (86, .iload_n 3, 1), (87, .iconst 1, 1), (88, .iadd, 1), (89, .iaload, 1), (90, .aload_n 0, 1), (91, .getfield 61, 3), (94, .iload_n 3, 1), (95, .iconst 2, 1), (96, .iadd, 1), (97, .iaload, 1), (98, .aload_n 0, 1), (99, .getfield 61, 3), (102, .iload_n 3, 1), (103, .iconst 3, 1), (104, .iadd, 1), (105, .iaload, 1), (106, .invokevirtual 311, 3), (109, .pop, 1), (110, .goto 29, 3), (113, .iconst 0, 1), (114, .istore 4, 2), (116, .iload 4, 2), (118, .aload_n 0, 1), (119, .getfield 61, 3)]
set_option maxRecDepth 20000 in
theorem dn_225_0_2_ok : dn_225_0_2.all (fun q => decide (decode (xm_b n_225) q.1 = .ok (q.2.1, q.2.2))) = true := xa_g_ok (by decide +kernel)
def dn_225_0_3 : List (Nat × Instr × Nat) := [(122, .iload_n 3, 1), (123, .iconst 1, 1), (124, .iadd, 1), (125, .iaload, 1), (126, .if_icmp .ge 13, 3), (129, .aload_n 0, 1), (130, .invokevirtual 271, 3), (133, .iinc 4 1, 3), (136, .goto (-20), 3), (139, .iinc 2 1, 3), (142, .goto (-86), 3), (145, .aload_n 0, 1), (146, .iconst 1, 1), (147, .putfield 67, 3), (150, .aload_n 0, 1), (151, .getfield 42, 3), (154, .getfield 86, 3), (157, .ireturn, 1)]
set_option maxRecDepth 20000 in
theorem dn_225_0_3_ok : dn_225_0_3.all (fun q => decide (decode (xm_b n_225) q.1 = .ok (q.2.1, q.2.2))) = true := xa_g_ok (by decide +kernel)
def te_225_0 : Nat → eE := (e_T 18 (e_T 6 (e_T 1 (e_T 0 (e_L 0 (0, ei_load 1 0 1, 0, 0)) (e_L 1 (0, ei_push (0, 0) 2, 0, 0))) (e_T 2 (e_L 2 (0, ei_load 0 2 3, 0, 0)) (e_T 3 (e_L 3 (0, ei_getf eft elay 11 12 6, 0, 0)) (e_L 6 (2, e_nof, 242, 3))))) (e_T 13 (e_T 9 (e_L 9 (0, ei_if1 1 14 12, 0, 0)) (e_T 12 (e_L 12 (0, ei_push (0, (-1)) 13, 0, 0)) (e_L 13 (1, e_nof, 1, 0)))) (e_T 14 (e_L 14 (0, ei_load 0 2 15, 0, 0)) (e_T 15 (e_L 15 (0, ei_getf eft elay 11 13 18, 0, 0)) (e_L 18 (0, ei_if1 1 24 21, 0, 0)))))) (e_T 29 (e_T 24 (e_T 21 (e_L 21 (0, ei_push (0, (-2)) 23, 0, 0)) (e_T 23 (e_L 23 (1, e_nof, 1, 0)) (e_L 24 (0, ei_load 1 0 25, 0, 0)))) (e_T 25 (e_L 25 (0, ei_load 0 2 26, 0, 0)) (e_T 26 (e_L 26 (0, ei_getf eft elay 11 12 29, 0, 0)) (e_L 29 (0, ei_if2 1 40 32, 0, 0))))) (e_T 36 (e_T 32 (e_L 32 (0, ei_load 0 2 33, 0, 0)) (e_T 33 (e_L 33 (0, ei_getf eft elay 11 5 36, 0, 0)) (e_L 36 (0, ei_getf eft elay 2 0 39, 0, 0)))) (e_T 39 (e_L 39 (1, e_nof, 1, 0)) (e_T 40 (e_L 40 (0, ei_load 0 2 41, 0, 0)) (e_L 41 (0, ei_load 1 0 42, 0, 0)))))))
set_option maxRecDepth 20000 in
set_option maxHeartbeats 4000000 in
theorem te_225_0_ok : ∀ pc, e_EOq eft cls elay eI n_225 pc (te_225_0 pc) :=
  (e_Tok2
  (e_Tok2
  (e_Tok2
  (e_Tok2
  (e_Lok (ld_iload_n_1 (x_dk dn_225_0_0_ok 0 rfl)))
  (e_Lok (ps_iconst_0 (x_dk dn_225_0_0_ok 1 rfl))))
  (e_Tok2
  (e_Lok (ld_aload_n_0 (x_dk dn_225_0_0_ok 2 rfl)))
  (e_Tok2
  (e_Lok (lk_11_246g ho_225 (x_dk dn_225_0_0_ok 3 rfl)))
  (e_Lok (lk_11_82 ho_225 (x_dk dn_225_0_0_ok 4 rfl))))))
  (e_Tok2
  (e_Tok2
  (e_Lok (e_st (I := eI) (er_ifne (off := 5) (tg := 14) (x_dk dn_225_0_0_ok 5 rfl) (by decide)) nx_if1))
  (e_Tok2
  (e_Lok (ps_iconst_m1 (x_dk dn_225_0_0_ok 6 rfl)))
  (e_Lok (e_rt (I := eI) (k := 1) ⟨(x_dk dn_225_0_0_ok 7 rfl), rfl⟩))))
  (e_Tok2
  (e_Lok (ld_aload_n_0 (x_dk dn_225_0_0_ok 8 rfl)))
  (e_Tok2
  (e_Lok (lk_11_91g ho_225 (x_dk dn_225_0_0_ok 9 rfl)))
  (e_Lok (e_st (I := eI) (er_ifne (off := 6) (tg := 24) (x_dk dn_225_0_0_ok 10 rfl) (by decide)) nx_if1))))))
  (e_Tok2
  (e_Tok2
  (e_Tok2
  (e_Lok (ps_bipush_m2 (x_dk dn_225_0_0_ok 11 rfl)))
  (e_Tok2
  (e_Lok (e_rt (I := eI) (k := 1) ⟨(x_dk dn_225_0_0_ok 12 rfl), rfl⟩))
  (e_Lok (ld_iload_n_1 (x_dk dn_225_0_0_ok 13 rfl)))))
  (e_Tok2
  (e_Lok (ld_aload_n_0 (x_dk dn_225_0_0_ok 14 rfl)))
  (e_Tok2
  (e_Lok (lk_11_246g ho_225 (x_dk dn_225_0_0_ok 15 rfl)))
  (e_Lok (e_st (I := eI) (er_icmpne (off := 11) (tg := 40) (x_dk dn_225_0_0_ok 16 rfl) (by decide)) nx_if2)))))
  (e_Tok2
  (e_Tok2
  (e_Lok (ld_aload_n_0 (x_dk dn_225_0_0_ok 17 rfl)))
  (e_Tok2
  (e_Lok (lk_11_42g ho_225 (x_dk dn_225_0_0_ok 18 rfl)))
  (e_Lok (lk_11_86g ho_225 (x_dk dn_225_0_0_ok 19 rfl)))))
  (e_Tok2
  (e_Lok (e_rt (I := eI) (k := 1) ⟨(x_dk dn_225_0_0_ok 20 rfl), rfl⟩))
  (e_Tok2
  (e_Lok (ld_aload_n_0 (x_dk dn_225_0_0_ok 21 rfl)))
  (e_Lok (ld_iload_n_1 (x_dk dn_225_0_0_ok 22 rfl))))))))
def te_225_23 : Nat → eE := (e_T 58 (e_T 50 (e_T 45 (e_T 42 (e_L 42 (0, ei_putf eft elay 11 12 0 45, 0, 0)) (e_L 45 (0, ei_load 0 2 46, 0, 0))) (e_T 46 (e_L 46 (0, ei_push (0, 0) 47, 0, 0)) (e_T 47 (e_L 47 (0, ei_putf eft elay 11 14 1 50, 0, 0)) (e_L 50 (0, ei_load 0 2 51, 0, 0))))) (e_T 55 (e_T 51 (e_L 51 (2, e_nof, 252, 1)) (e_T 54 (e_L 54 (0, ei_push (0, 0) 55, 0, 0)) (e_L 55 (0, ei_stor 2 0 56, 0, 0)))) (e_T 56 (e_L 56 (0, ei_load 2 0 57, 0, 0)) (e_T 57 (e_L 57 (0, ei_load 1 0 58, 0, 0)) (e_L 58 (0, ei_if2 3 145 61, 0, 0)))))) (e_T 66 (e_T 63 (e_T 61 (e_L 61 (0, ei_load 2 0 62, 0, 0)) (e_T 62 (e_L 62 (0, ei_push (0, 4) 63, 0, 0)) (e_L 63 (0, ei_bin eF_mul 64, 0, 0)))) (e_T 64 (e_L 64 (0, ei_stor 3 0 65, 0, 0)) (e_T 65 (e_L 65 (0, ei_load 0 2 66, 0, 0)) (e_L 66 (0, ei_getf eft elay 11 9 69, 0, 0))))) (e_T 71 (e_T 69 (e_L 69 (0, ei_load 3 0 70, 0, 0)) (e_T 70 (e_L 70 (0, ei_ald elay false 71, 0, 0)) (e_L 71 (0, ei_push (0, 1) 72, 0, 0)))) (e_T 72 (e_L 72 (0, ei_if2 0 113 75, 0, 0)) (e_T 75 (e_L 75 (0, ei_load 0 2 76, 0, 0)) (e_L 76 (0, ei_load 0 2 77, 0, 0)))))))
set_option maxRecDepth 20000 in
set_option maxHeartbeats 4000000 in
theorem te_225_23_ok : ∀ pc, e_EOq eft cls elay eI n_225 pc (te_225_23 pc) :=
  (e_Tok2
  (e_Tok2
  (e_Tok2
  (e_Tok2
  (e_Lok (lk_11_246p ho_225 (x_dk dn_225_0_0_ok 23 rfl)))
  (e_Lok (ld_aload_n_0 (x_dk dn_225_0_0_ok 24 rfl))))
  (e_Tok2
  (e_Lok (ps_iconst_0 (x_dk dn_225_0_1_ok 0 rfl)))
  (e_Tok2
  (e_Lok (lk_11_67p ho_225 (x_dk dn_225_0_1_ok 1 rfl)))
  (e_Lok (ld_aload_n_0 (x_dk dn_225_0_1_ok 2 rfl))))))
  (e_Tok2
  (e_Tok2
  (e_Lok (lk_11_249 ho_225 (x_dk dn_225_0_1_ok 3 rfl)))
  (e_Tok2
  (e_Lok (ps_iconst_0 (x_dk dn_225_0_1_ok 4 rfl)))
  (e_Lok (e_st (I := eI) (er_istore_n (i := 2) (x_dk dn_225_0_1_ok 5 rfl) (by decide +kernel)) nx_stor))))
  (e_Tok2
  (e_Lok (ld_iload_n_2 (x_dk dn_225_0_1_ok 6 rfl)))
  (e_Tok2
  (e_Lok (ld_iload_n_1 (x_dk dn_225_0_1_ok 7 rfl)))
  (e_Lok (e_st (I := eI) (er_icmpge (off := 87) (tg := 145) (x_dk dn_225_0_1_ok 8 rfl) (by decide)) nx_if2))))))
  (e_Tok2
  (e_Tok2
  (e_Tok2
  (e_Lok (ld_iload_n_2 (x_dk dn_225_0_1_ok 9 rfl)))
  (e_Tok2
  (e_Lok (ps_iconst_4 (x_dk dn_225_0_1_ok 10 rfl)))
  (e_Lok (sm_imul (x_dk dn_225_0_1_ok 11 rfl)))))
  (e_Tok2
  (e_Lok (e_st (I := eI) (er_istore_n (i := 3) (x_dk dn_225_0_1_ok 12 rfl) (by decide +kernel)) nx_stor))
  (e_Tok2
  (e_Lok (ld_aload_n_0 (x_dk dn_225_0_1_ok 13 rfl)))
  (e_Lok (lk_11_61g ho_225 (x_dk dn_225_0_1_ok 14 rfl))))))
  (e_Tok2
  (e_Tok2
  (e_Lok (ld_iload_n_3 (x_dk dn_225_0_1_ok 15 rfl)))
  (e_Tok2
  (e_Lok (sm_iaload (x_dk dn_225_0_1_ok 16 rfl)))
  (e_Lok (ps_iconst_1 (x_dk dn_225_0_1_ok 17 rfl)))))
  (e_Tok2
  (e_Lok (e_st (I := eI) (er_icmpeq (off := 41) (tg := 113) (x_dk dn_225_0_1_ok 18 rfl) (by decide)) nx_if2))
  (e_Tok2
  (e_Lok (ld_aload_n_0 (x_dk dn_225_0_1_ok 19 rfl)))
  (e_Lok (ld_aload_n_0 (x_dk dn_225_0_1_ok 20 rfl))))))))
def te_225_46 : Nat → eE := (e_T 91 (e_T 83 (e_T 80 (e_T 77 (e_L 77 (0, ei_getf eft elay 11 9 80, 0, 0)) (e_L 80 (0, ei_load 3 0 81, 0, 0))) (e_T 81 (e_L 81 (0, ei_ald elay false 82, 0, 0)) (e_T 82 (e_L 82 (0, ei_load 0 2 83, 0, 0)) (e_L 83 (0, ei_getf eft elay 11 9 86, 0, 0))))) (e_T 88 (e_T 86 (e_L 86 (0, ei_load 3 0 87, 0, 0)) (e_T 87 (e_L 87 (0, ei_push (0, 1) 88, 0, 0)) (e_L 88 (0, ei_bin eF_add 89, 0, 0)))) (e_T 89 (e_L 89 (0, ei_ald elay false 90, 0, 0)) (e_T 90 (e_L 90 (0, ei_load 0 2 91, 0, 0)) (e_L 91 (0, ei_getf eft elay 11 9 94, 0, 0)))))) (e_T 99 (e_T 96 (e_T 94 (e_L 94 (0, ei_load 3 0 95, 0, 0)) (e_T 95 (e_L 95 (0, ei_push (0, 2) 96, 0, 0)) (e_L 96 (0, ei_bin eF_add 97, 0, 0)))) (e_T 97 (e_L 97 (0, ei_ald elay false 98, 0, 0)) (e_T 98 (e_L 98 (0, ei_load 0 2 99, 0, 0)) (e_L 99 (0, ei_getf eft elay 11 9 102, 0, 0))))) (e_T 104 (e_T 102 (e_L 102 (0, ei_load 3 0 103, 0, 0)) (e_T 103 (e_L 103 (0, ei_push (0, 3) 104, 0, 0)) (e_L 104 (0, ei_bin eF_add 105, 0, 0)))) (e_T 105 (e_L 105 (0, ei_ald elay false 106, 0, 0)) (e_T 106 (e_L 106 (2, e_nof, 256, 5)) (e_L 109 (0, ei_stk ef_pop 110, 0, 0)))))))
set_option maxRecDepth 20000 in
set_option maxHeartbeats 4000000 in
theorem te_225_46_ok : ∀ pc, e_EOq eft cls elay eI n_225 pc (te_225_46 pc) :=
  (e_Tok2
  (e_Tok2
  (e_Tok2
  (e_Tok2
  (e_Lok (lk_11_61g ho_225 (x_dk dn_225_0_1_ok 21 rfl)))
  (e_Lok (ld_iload_n_3 (x_dk dn_225_0_1_ok 22 rfl))))
  (e_Tok2
  (e_Lok (sm_iaload (x_dk dn_225_0_1_ok 23 rfl)))
  (e_Tok2
  (e_Lok (ld_aload_n_0 (x_dk dn_225_0_1_ok 24 rfl)))
  (e_Lok (lk_11_61g ho_225 (x_dk dn_225_0_2_ok 0 rfl))))))
  (e_Tok2
  (e_Tok2
  (e_Lok (ld_iload_n_3 (x_dk dn_225_0_2_ok 1 rfl)))
  (e_Tok2
  (e_Lok (ps_iconst_1 (x_dk dn_225_0_2_ok 2 rfl)))
  (e_Lok (sm_iadd (x_dk dn_225_0_2_ok 3 rfl)))))
  (e_Tok2
  (e_Lok (sm_iaload (x_dk dn_225_0_2_ok 4 rfl)))
  (e_Tok2
  (e_Lok (ld_aload_n_0 (x_dk dn_225_0_2_ok 5 rfl)))
  (e_Lok (lk_11_61g ho_225 (x_dk dn_225_0_2_ok 6 rfl)))))))
  (e_Tok2
  (e_Tok2
  (e_Tok2
  (e_Lok (ld_iload_n_3 (x_dk dn_225_0_2_ok 7 rfl)))
  (e_Tok2
  (e_Lok (ps_iconst_2 (x_dk dn_225_0_2_ok 8 rfl)))
  (e_Lok (sm_iadd (x_dk dn_225_0_2_ok 9 rfl)))))
  (e_Tok2
  (e_Lok (sm_iaload (x_dk dn_225_0_2_ok 10 rfl)))
  (e_Tok2
  (e_Lok (ld_aload_n_0 (x_dk dn_225_0_2_ok 11 rfl)))
  (e_Lok (lk_11_61g ho_225 (x_dk dn_225_0_2_ok 12 rfl))))))
  (e_Tok2
  (e_Tok2
  (e_Lok (ld_iload_n_3 (x_dk dn_225_0_2_ok 13 rfl)))
  (e_Tok2
  (e_Lok (ps_iconst_3 (x_dk dn_225_0_2_ok 14 rfl)))
  (e_Lok (sm_iadd (x_dk dn_225_0_2_ok 15 rfl)))))
  (e_Tok2
  (e_Lok (sm_iaload (x_dk dn_225_0_2_ok 16 rfl)))
  (e_Tok2
  (e_Lok (lk_11_311 ho_225 (x_dk dn_225_0_2_ok 17 rfl)))
  (e_Lok (e_st (I := eI) (er_pop (x_dk dn_225_0_2_ok 18 rfl)) (nx_stk bf_pop))))))))
def te_225_69 : Nat → eE := (e_T 129 (e_T 119 (e_T 114 (e_T 110 (e_L 110 (0, ei_goto 139, 0, 0)) (e_T 113 (e_L 113 (0, ei_push (0, 0) 114, 0, 0)) (e_L 114 (0, ei_stor 4 0 116, 0, 0)))) (e_T 116 (e_L 116 (0, ei_load 4 0 118, 0, 0)) (e_T 118 (e_L 118 (0, ei_load 0 2 119, 0, 0)) (e_L 119 (0, ei_getf eft elay 11 9 122, 0, 0))))) (e_T 124 (e_T 122 (e_L 122 (0, ei_load 3 0 123, 0, 0)) (e_T 123 (e_L 123 (0, ei_push (0, 1) 124, 0, 0)) (e_L 124 (0, ei_bin eF_add 125, 0, 0)))) (e_T 125 (e_L 125 (0, ei_ald elay false 126, 0, 0)) (e_T 126 (e_L 126 (0, ei_if2 3 139 129, 0, 0)) (e_L 129 (0, ei_load 0 2 130, 0, 0)))))) (e_T 145 (e_T 136 (e_T 130 (e_L 130 (2, e_nof, 259, 1)) (e_T 133 (e_L 133 (0, ei_inc 4 1 136, 0, 0)) (e_L 136 (0, ei_goto 116, 0, 0)))) (e_T 139 (e_L 139 (0, ei_inc 2 1 142, 0, 0)) (e_T 142 (e_L 142 (0, ei_goto 56, 0, 0)) (e_L 145 (0, ei_load 0 2 146, 0, 0))))) (e_T 150 (e_T 146 (e_L 146 (0, ei_push (0, 1) 147, 0, 0)) (e_T 147 (e_L 147 (0, ei_putf eft elay 11 14 1 150, 0, 0)) (e_L 150 (0, ei_load 0 2 151, 0, 0)))) (e_T 151 (e_L 151 (0, ei_getf eft elay 11 5 154, 0, 0)) (e_T 154 (e_L 154 (0, ei_getf eft elay 2 0 157, 0, 0)) (e_L 157 (1, e_nof, 1, 0)))))))
set_option maxRecDepth 20000 in
set_option maxHeartbeats 4000000 in
theorem te_225_69_ok : ∀ pc, e_EOq eft cls elay eI n_225 pc (te_225_69 pc) :=
  (e_Tok2
  (e_Tok2
  (e_Tok2
  (e_Tok2
  (e_Lok (e_st (I := eI) (er_goto (off := 29) (tg := 139) (x_dk dn_225_0_2_ok 19 rfl) (by decide)) nx_goto))
  (e_Tok2
  (e_Lok (ps_iconst_0 (x_dk dn_225_0_2_ok 20 rfl)))
  (e_Lok (e_st (I := eI) (er_istore (i := 4) (x_dk dn_225_0_2_ok 21 rfl) (by decide +kernel)) nx_stor))))
  (e_Tok2
  (e_Lok (ld_iload_4 (x_dk dn_225_0_2_ok 22 rfl)))
  (e_Tok2
  (e_Lok (ld_aload_n_0 (x_dk dn_225_0_2_ok 23 rfl)))
  (e_Lok (lk_11_61g ho_225 (x_dk dn_225_0_2_ok 24 rfl))))))
  (e_Tok2
  (e_Tok2
  (e_Lok (ld_iload_n_3 (x_dk dn_225_0_3_ok 0 rfl)))
  (e_Tok2
  (e_Lok (ps_iconst_1 (x_dk dn_225_0_3_ok 1 rfl)))
  (e_Lok (sm_iadd (x_dk dn_225_0_3_ok 2 rfl)))))
  (e_Tok2
  (e_Lok (sm_iaload (x_dk dn_225_0_3_ok 3 rfl)))
  (e_Tok2
  (e_Lok (e_st (I := eI) (er_icmpge (off := 13) (tg := 139) (x_dk dn_225_0_3_ok 4 rfl) (by decide)) nx_if2))
  (e_Lok (ld_aload_n_0 (x_dk dn_225_0_3_ok 5 rfl)))))))
  (e_Tok2
  (e_Tok2
  (e_Tok2
  (e_Lok (lk_11_271 ho_225 (x_dk dn_225_0_3_ok 6 rfl)))
  (e_Tok2
  (e_Lok (e_st (I := eI) (er_iinc (i := 4) (n := 1) (x_dk dn_225_0_3_ok 7 rfl) (by decide +kernel) (by decide)) nx_inc))
  (e_Lok (e_st (I := eI) (er_goto (off := (-20)) (tg := 116) (x_dk dn_225_0_3_ok 8 rfl) (by decide)) nx_goto))))
  (e_Tok2
  (e_Lok (e_st (I := eI) (er_iinc (i := 2) (n := 1) (x_dk dn_225_0_3_ok 9 rfl) (by decide +kernel) (by decide)) nx_inc))
  (e_Tok2
  (e_Lok (e_st (I := eI) (er_goto (off := (-86)) (tg := 56) (x_dk dn_225_0_3_ok 10 rfl) (by decide)) nx_goto))
  (e_Lok (ld_aload_n_0 (x_dk dn_225_0_3_ok 11 rfl))))))
  (e_Tok2
  (e_Tok2
  (e_Lok (ps_iconst_1 (x_dk dn_225_0_3_ok 12 rfl)))
  (e_Tok2
  (e_Lok (lk_11_67p ho_225 (x_dk dn_225_0_3_ok 13 rfl)))
  (e_Lok (ld_aload_n_0 (x_dk dn_225_0_3_ok 14 rfl)))))
  (e_Tok2
  (e_Lok (lk_11_42g ho_225 (x_dk dn_225_0_3_ok 15 rfl)))
  (e_Tok2
  (e_Lok (lk_11_86g ho_225 (x_dk dn_225_0_3_ok 16 rfl)))
  (e_Lok (e_rt (I := eI) (k := 1) ⟨(x_dk dn_225_0_3_ok 17 rfl), rfl⟩)))))))
def te_225 : Nat → eE := (e_T 76 (e_T 41 te_225_0 te_225_23) (e_T 109 te_225_46 te_225_69))
theorem te_225_ok : ∀ pc, e_EOq eft cls elay eI n_225 pc (te_225 pc) := (e_Tok2 ((e_Tok2 (te_225_0_ok) (te_225_23_ok))) ((e_Tok2 (te_225_46_ok) (te_225_69_ok))))
theorem ho_226 : (xm_y n_226).cls = "RobotCellHouse" := rfl
def dn_226_0_0 : List (Nat × Instr × Nat) := [(0, .aload_n 0, 1), (1, .getfield 42, 3), (4, .getfield 86, 3), (7, .ireturn, 1)]
set_option maxRecDepth 20000 in
theorem dn_226_0_0_ok : dn_226_0_0.all (fun q => decide (decode (xm_b n_226) q.1 = .ok (q.2.1, q.2.2))) = true := xa_g_ok (by decide +kernel)
def te_226_0 : Nat → eE := (e_T 1 (e_T 0 (e_L 0 (0, ei_load 0 2 1, 0, 0)) (e_L 1 (0, ei_getf eft elay 11 5 4, 0, 0))) (e_T 4 (e_L 4 (0, ei_getf eft elay 2 0 7, 0, 0)) (e_L 7 (1, e_nof, 1, 0))))
set_option maxRecDepth 20000 in
set_option maxHeartbeats 4000000 in
theorem te_226_0_ok : ∀ pc, e_EOq eft cls elay eI n_226 pc (te_226_0 pc) :=
  (e_Tok2
  (e_Tok2
  (e_Lok (ld_aload_n_0 (x_dk dn_226_0_0_ok 0 rfl)))
  (e_Lok (lk_11_42g ho_226 (x_dk dn_226_0_0_ok 1 rfl))))
  (e_Tok2
  (e_Lok (lk_11_86g ho_226 (x_dk dn_226_0_0_ok 2 rfl)))
  (e_Lok (e_rt (I := eI) (k := 1) ⟨(x_dk dn_226_0_0_ok 3 rfl), rfl⟩))))
def te_226 : Nat → eE := te_226_0
theorem te_226_ok : ∀ pc, e_EOq eft cls elay eI n_226 pc (te_226 pc) := te_226_0_ok
theorem ho_227 : (xm_y n_227).cls = "RobotCellHouse" := rfl
def dn_227_0_0 : List (Nat × Instr × Nat) := [(0, .aload_n 0, 1), (1, .iload_n 1, 1), (2, .invokevirtual 103, 3), (5, .ifCond .ne 5, 3), (8, .iconst (-1), 1), (9, .ireturn, 1), (10, .aload_n 0, 1), (11, .getfield 27, 3), (14, .iload_n 1, 1), (15, .aaload, 1), (16, .astore_n 3, 1), (17, .iload_n 2, 1), (18, .tableswitch 123 0 7 #[46, 51, 56, 61, 66, 74, 97, 110], 46), (64, .aload_n 3, 1), (65, .getfield 286, 3), (68, .ireturn, 1), (69, .aload_n 3, 1), (70, .getfield 112, 3), (73, .ireturn, 1), (74, .aload_n 3, 1), (75, .getfield 314, 3), (78, .ireturn, 1), (79, .aload_n 3, 1), (80, .getfield 280, 3), (83, .ireturn, 1)]
set_option maxRecDepth 20000 in
theorem dn_227_0_0_ok : dn_227_0_0.all (fun q => decide (decode (xm_b n_227) q.1 = .ok (q.2.1, q.2.2))) = true := xa_g_ok (by decide +kernel)
def dn_227_0_1 : List (Nat × Instr × Nat) := [(84, .aload_n 3, 1), (85, .getfield 240, 3), (88, .getfield 241, 3), (91, .ireturn, 1), (92, .aload_n 3, 1), (93, .getfield 317, 3), (96, .ifCond .ge 7, 3), (99, .iconst (-1), 1), (100, .goto 14, 3), (103, .aload_n 0, 1), (104, .getfield 53, 3), (107, .aload_n 3, 1), (108, .getfield 317, 3), (111, .invokevirtual 320, 3), (114, .ireturn, 1), (115, .aload_n 3, 1), (116, .invokevirtual 308, 3), (119, .ifCond .eq 7, 3), (122, .iconst 1, 1), (123, .goto 4, 3), (126, .iconst 0, 1), (127, .ireturn, 1), (128, .aload_n 3, 1), (129, .getfield 323, 3), (132, .ifCond .lt 7, 3)]
set_option maxRecDepth 20000 in
theorem dn_227_0_1_ok : dn_227_0_1.all (fun q => decide (decode (xm_b n_227) q.1 = .ok (q.2.1, q.2.2))) = true := xa_g_ok (by decide +kernel)
def dn_227_0_2 : List (Nat × Instr × Nat) := [(135, .iconst 1, 1), (136, .goto 4, 3), (139, .iconst 0, 1), (140, .ireturn, 1), (141, .iconst (-1), 1), (142, .ireturn, 1)]
set_option maxRecDepth 20000 in
theorem dn_227_0_2_ok : dn_227_0_2.all (fun q => decide (decode (xm_b n_227) q.1 = .ok (q.2.1, q.2.2))) = true := xa_g_ok (by decide +kernel)
def te_227_0 : Nat → eE := (e_T 64 (e_T 10 (e_T 2 (e_T 0 (e_L 0 (0, ei_load 0 2 1, 0, 0)) (e_T 1 (e_L 1 (0, ei_load 1 0 2, 0, 0)) (e_L 2 (2, e_nof, 246, 2)))) (e_T 8 (e_T 5 (e_L 5 (0, ei_if1 1 10 8, 0, 0)) (e_L 8 (0, ei_push (0, (-1)) 9, 0, 0))) (e_T 9 (e_L 9 (1, e_nof, 1, 0)) (e_L 10 (0, ei_load 0 2 11, 0, 0))))) (e_T 15 (e_T 11 (e_L 11 (0, ei_getf eft elay 11 2 14, 0, 0)) (e_T 14 (e_L 14 (0, ei_load 1 0 15, 0, 0)) (e_L 15 (0, ei_aald elay 16, 0, 0)))) (e_T 17 (e_T 16 (e_L 16 (0, ei_stor 3 2 17, 0, 0)) (e_L 17 (0, ei_load 2 0 18, 0, 0))) (e_T 18 (e_L 18 (0, ei_sw [((-2147483648), (-1), 141), (0, 0, 64), (1, 1, 69), (2, 2, 74), (3, 3, 79), (4, 4, 84), (5, 5, 92), (6, 6, 115), (7, 7, 128), (8, 2147483647, 141)], 0, 0)) (e_L 64 (0, ei_load 3 2 65, 0, 0)))))) (e_T 75 (e_T 69 (e_T 65 (e_L 65 (0, ei_getf eft elay 0 11 68, 0, 0)) (e_T 68 (e_L 68 (1, e_nof, 1, 0)) (e_L 69 (0, ei_load 3 2 70, 0, 0)))) (e_T 73 (e_T 70 (e_L 70 (0, ei_getf eft elay 0 8 73, 0, 0)) (e_L 73 (1, e_nof, 1, 0))) (e_T 74 (e_L 74 (0, ei_load 3 2 75, 0, 0)) (e_L 75 (0, ei_getf eft elay 0 14 78, 0, 0))))) (e_T 80 (e_T 78 (e_L 78 (1, e_nof, 1, 0)) (e_T 79 (e_L 79 (0, ei_load 3 2 80, 0, 0)) (e_L 80 (0, ei_getf eft elay 0 16 83, 0, 0)))) (e_T 84 (e_T 83 (e_L 83 (1, e_nof, 1, 0)) (e_L 84 (0, ei_load 3 2 85, 0, 0))) (e_T 85 (e_L 85 (0, ei_getf eft elay 0 7 88, 0, 0)) (e_L 88 (0, ei_getf eft elay 1 1 91, 0, 0)))))))
set_option maxRecDepth 20000 in
set_option maxHeartbeats 4000000 in
theorem te_227_0_ok : ∀ pc, e_EOq eft cls elay eI n_227 pc (te_227_0 pc) :=
  (e_Tok2
  (e_Tok2
  (e_Tok2
  (e_Tok2
  (e_Lok (ld_aload_n_0 (x_dk dn_227_0_0_ok 0 rfl)))
  (e_Tok2
  (e_Lok (ld_iload_n_1 (x_dk dn_227_0_0_ok 1 rfl)))
  (e_Lok (lk_11_103 ho_227 (x_dk dn_227_0_0_ok 2 rfl)))))
  (e_Tok2
  (e_Tok2
  (e_Lok (e_st (I := eI) (er_ifne (off := 5) (tg := 10) (x_dk dn_227_0_0_ok 3 rfl) (by decide)) nx_if1))
  (e_Lok (ps_iconst_m1 (x_dk dn_227_0_0_ok 4 rfl))))
  (e_Tok2
  (e_Lok (e_rt (I := eI) (k := 1) ⟨(x_dk dn_227_0_0_ok 5 rfl), rfl⟩))
  (e_Lok (ld_aload_n_0 (x_dk dn_227_0_0_ok 6 rfl))))))
  (e_Tok2
  (e_Tok2
  (e_Lok (lk_11_27g ho_227 (x_dk dn_227_0_0_ok 7 rfl)))
  (e_Tok2
  (e_Lok (ld_iload_n_1 (x_dk dn_227_0_0_ok 8 rfl)))
  (e_Lok (e_st (I := eI) (er_aaload (x_dk dn_227_0_0_ok 9 rfl)) nx_aald))))
  (e_Tok2
  (e_Tok2
  (e_Lok (e_st (I := eI) (er_astore_n (i := 3) (x_dk dn_227_0_0_ok 10 rfl) (by decide +kernel)) nx_stor))
  (e_Lok (ld_iload_n_2 (x_dk dn_227_0_0_ok 11 rfl))))
  (e_Tok2
  (e_Lok (e_st (I := eI) (er_tsw (dflt := 123) (lo := 0) (hi := 7) (offs := #[46, 51, 56, 61, 66, 74, 97, 110]) (len := 46) (n := 8) (x_dk dn_227_0_0_ok 12 rfl) (by decide) (by decide +kernel)) nx_sw))
  (e_Lok (ld_aload_n_3 (x_dk dn_227_0_0_ok 13 rfl)))))))
  (e_Tok2
  (e_Tok2
  (e_Tok2
  (e_Lok (lk_11_286g ho_227 (x_dk dn_227_0_0_ok 14 rfl)))
  (e_Tok2
  (e_Lok (e_rt (I := eI) (k := 1) ⟨(x_dk dn_227_0_0_ok 15 rfl), rfl⟩))
  (e_Lok (ld_aload_n_3 (x_dk dn_227_0_0_ok 16 rfl)))))
  (e_Tok2
  (e_Tok2
  (e_Lok (lk_11_112g ho_227 (x_dk dn_227_0_0_ok 17 rfl)))
  (e_Lok (e_rt (I := eI) (k := 1) ⟨(x_dk dn_227_0_0_ok 18 rfl), rfl⟩)))
  (e_Tok2
  (e_Lok (ld_aload_n_3 (x_dk dn_227_0_0_ok 19 rfl)))
  (e_Lok (lk_11_314g ho_227 (x_dk dn_227_0_0_ok 20 rfl))))))
  (e_Tok2
  (e_Tok2
  (e_Lok (e_rt (I := eI) (k := 1) ⟨(x_dk dn_227_0_0_ok 21 rfl), rfl⟩))
  (e_Tok2
  (e_Lok (ld_aload_n_3 (x_dk dn_227_0_0_ok 22 rfl)))
  (e_Lok (lk_11_280g ho_227 (x_dk dn_227_0_0_ok 23 rfl)))))
  (e_Tok2
  (e_Tok2
  (e_Lok (e_rt (I := eI) (k := 1) ⟨(x_dk dn_227_0_0_ok 24 rfl), rfl⟩))
  (e_Lok (ld_aload_n_3 (x_dk dn_227_0_1_ok 0 rfl))))
  (e_Tok2
  (e_Lok (lk_11_240g ho_227 (x_dk dn_227_0_1_ok 1 rfl)))
  (e_Lok (lk_11_241g ho_227 (x_dk dn_227_0_1_ok 2 rfl))))))))
def te_227_28 : Nat → eE := (e_T 116 (e_T 103 (e_T 93 (e_T 91 (e_L 91 (1, e_nof, 1, 0)) (e_T 92 (e_L 92 (0, ei_load 3 2 93, 0, 0)) (e_L 93 (0, ei_getf eft elay 0 17 96, 0, 0)))) (e_T 99 (e_T 96 (e_L 96 (0, ei_if1 3 103 99, 0, 0)) (e_L 99 (0, ei_push (0, (-1)) 100, 0, 0))) (e_T 100 (e_L 100 (0, ei_goto 114, 0, 0)) (e_L 103 (0, ei_load 0 2 104, 0, 0))))) (e_T 108 (e_T 104 (e_L 104 (0, ei_getf eft elay 11 7 107, 0, 0)) (e_T 107 (e_L 107 (0, ei_load 3 2 108, 0, 0)) (e_L 108 (0, ei_getf eft elay 0 17 111, 0, 0)))) (e_T 114 (e_T 111 (e_L 111 (2, e_nof, 95, 2)) (e_L 114 (1, e_nof, 1, 0))) (e_T 115 (e_L 115 (0, ei_load 3 2 116, 0, 0)) (e_L 116 (2, e_nof, 9, 1)))))) (e_T 129 (e_T 123 (e_T 119 (e_L 119 (0, ei_if1 0 126 122, 0, 0)) (e_T 122 (e_L 122 (0, ei_push (0, 1) 123, 0, 0)) (e_L 123 (0, ei_goto 127, 0, 0)))) (e_T 127 (e_T 126 (e_L 126 (0, ei_push (0, 0) 127, 0, 0)) (e_L 127 (1, e_nof, 1, 0))) (e_T 128 (e_L 128 (0, ei_load 3 2 129, 0, 0)) (e_L 129 (0, ei_getf eft elay 0 18 132, 0, 0))))) (e_T 136 (e_T 132 (e_L 132 (0, ei_if1 2 139 135, 0, 0)) (e_T 135 (e_L 135 (0, ei_push (0, 1) 136, 0, 0)) (e_L 136 (0, ei_goto 140, 0, 0)))) (e_T 140 (e_T 139 (e_L 139 (0, ei_push (0, 0) 140, 0, 0)) (e_L 140 (1, e_nof, 1, 0))) (e_T 141 (e_L 141 (0, ei_push (0, (-1)) 142, 0, 0)) (e_L 142 (1, e_nof, 1, 0)))))))
set_option maxRecDepth 20000 in
set_option maxHeartbeats 4000000 in
theorem te_227_28_ok : ∀ pc, e_EOq eft cls elay eI n_227 pc (te_227_28 pc) :=
  (e_Tok2
  (e_Tok2
  (e_Tok2
  (e_Tok2
  (e_Lok (e_rt (I := eI) (k := 1) ⟨(x_dk dn_227_0_1_ok 3 rfl), rfl⟩))
  (e_Tok2
  (e_Lok (ld_aload_n_3 (x_dk dn_227_0_1_ok 4 rfl)))
  (e_Lok (lk_11_317g ho_227 (x_dk dn_227_0_1_ok 5 rfl)))))
  (e_Tok2
  (e_Tok2
  (e_Lok (e_st (I := eI) (er_ifge (off := 7) (tg := 103) (x_dk dn_227_0_1_ok 6 rfl) (by decide)) nx_if1))
  (e_Lok (ps_iconst_m1 (x_dk dn_227_0_1_ok 7 rfl))))
  (e_Tok2
  (e_Lok (e_st (I := eI) (er_goto (off := 14) (tg := 114) (x_dk dn_227_0_1_ok 8 rfl) (by decide)) nx_goto))
  (e_Lok (ld_aload_n_0 (x_dk dn_227_0_1_ok 9 rfl))))))
  (e_Tok2
  (e_Tok2
  (e_Lok (lk_11_53g ho_227 (x_dk dn_227_0_1_ok 10 rfl)))
  (e_Tok2
  (e_Lok (ld_aload_n_3 (x_dk dn_227_0_1_ok 11 rfl)))
  (e_Lok (lk_11_317g ho_227 (x_dk dn_227_0_1_ok 12 rfl)))))
  (e_Tok2
  (e_Tok2
  (e_Lok (lk_11_320 ho_227 (x_dk dn_227_0_1_ok 13 rfl)))
  (e_Lok (e_rt (I := eI) (k := 1) ⟨(x_dk dn_227_0_1_ok 14 rfl), rfl⟩)))
  (e_Tok2
  (e_Lok (ld_aload_n_3 (x_dk dn_227_0_1_ok 15 rfl)))
  (e_Lok (lk_11_308 ho_227 (x_dk dn_227_0_1_ok 16 rfl)))))))
  (e_Tok2
  (e_Tok2
  (e_Tok2
  (e_Lok (e_st (I := eI) (er_ifeq (off := 7) (tg := 126) (x_dk dn_227_0_1_ok 17 rfl) (by decide)) nx_if1))
  (e_Tok2
  (e_Lok (ps_iconst_1 (x_dk dn_227_0_1_ok 18 rfl)))
  (e_Lok (e_st (I := eI) (er_goto (off := 4) (tg := 127) (x_dk dn_227_0_1_ok 19 rfl) (by decide)) nx_goto))))
  (e_Tok2
  (e_Tok2
  (e_Lok (ps_iconst_0 (x_dk dn_227_0_1_ok 20 rfl)))
  (e_Lok (e_rt (I := eI) (k := 1) ⟨(x_dk dn_227_0_1_ok 21 rfl), rfl⟩)))
  (e_Tok2
  (e_Lok (ld_aload_n_3 (x_dk dn_227_0_1_ok 22 rfl)))
  (e_Lok (lk_11_323g ho_227 (x_dk dn_227_0_1_ok 23 rfl))))))
  (e_Tok2
  (e_Tok2
  (e_Lok (e_st (I := eI) (er_iflt (off := 7) (tg := 139) (x_dk dn_227_0_1_ok 24 rfl) (by decide)) nx_if1))
  (e_Tok2
  (e_Lok (ps_iconst_1 (x_dk dn_227_0_2_ok 0 rfl)))
  (e_Lok (e_st (I := eI) (er_goto (off := 4) (tg := 140) (x_dk dn_227_0_2_ok 1 rfl) (by decide)) nx_goto))))
  (e_Tok2
  (e_Tok2
  (e_Lok (ps_iconst_0 (x_dk dn_227_0_2_ok 2 rfl)))
  (e_Lok (e_rt (I := eI) (k := 1) ⟨(x_dk dn_227_0_2_ok 3 rfl), rfl⟩)))
  (e_Tok2
  (e_Lok (ps_iconst_m1 (x_dk dn_227_0_2_ok 4 rfl)))
  (e_Lok (e_rt (I := eI) (k := 1) ⟨(x_dk dn_227_0_2_ok 5 rfl), rfl⟩)))))))
def te_227 : Nat → eE := (e_T 88 te_227_0 te_227_28)
theorem te_227_ok : ∀ pc, e_EOq eft cls elay eI n_227 pc (te_227 pc) := (e_Tok2 (te_227_0_ok) (te_227_28_ok))
theorem ho_228 : (xm_y n_228).cls = "RobotCellHouse" := rfl
def dn_228_0_0 : List (Nat × Instr × Nat) := [(0, .aload_n 0, 1), (1, .iload_n 1, 1), (2, .iload_n 2, 1), (3, .invokevirtual 119, 3), (6, .ifCond .eq 20, 3), (9, .aload_n 0, 1), (10, .getfield 27, 3), (13, .iload_n 1, 1), (14, .aaload, 1), (15, .getfield 123, 3), (18, .iload_n 2, 1), (19, .aaload, 1), (20, .getfield 326, 3), (23, .goto 4, 3), (26, .iconst (-1), 1), (27, .ireturn, 1)]
set_option maxRecDepth 20000 in
theorem dn_228_0_0_ok : dn_228_0_0.all (fun q => decide (decode (xm_b n_228) q.1 = .ok (q.2.1, q.2.2))) = true := xa_g_ok (by decide +kernel)
def te_228_0 : Nat → eE := (e_T 13 (e_T 3 (e_T 1 (e_T 0 (e_L 0 (0, ei_load 0 2 1, 0, 0)) (e_L 1 (0, ei_load 1 0 2, 0, 0))) (e_T 2 (e_L 2 (0, ei_load 2 0 3, 0, 0)) (e_L 3 (2, e_nof, 247, 3)))) (e_T 9 (e_T 6 (e_L 6 (0, ei_if1 0 26 9, 0, 0)) (e_L 9 (0, ei_load 0 2 10, 0, 0))) (e_T 10 (e_L 10 (0, ei_getf eft elay 11 2 13, 0, 0)) (e_L 13 (0, ei_load 1 0 14, 0, 0))))) (e_T 19 (e_T 15 (e_T 14 (e_L 14 (0, ei_aald elay 15, 0, 0)) (e_L 15 (0, ei_getf eft elay 0 0 18, 0, 0))) (e_T 18 (e_L 18 (0, ei_load 2 0 19, 0, 0)) (e_L 19 (0, ei_aald elay 20, 0, 0)))) (e_T 23 (e_T 20 (e_L 20 (0, ei_getf eft elay 5 7 23, 0, 0)) (e_L 23 (0, ei_goto 27, 0, 0))) (e_T 26 (e_L 26 (0, ei_push (0, (-1)) 27, 0, 0)) (e_L 27 (1, e_nof, 1, 0))))))
set_option maxRecDepth 20000 in
set_option maxHeartbeats 4000000 in
theorem te_228_0_ok : ∀ pc, e_EOq eft cls elay eI n_228 pc (te_228_0 pc) :=
  (e_Tok2
  (e_Tok2
  (e_Tok2
  (e_Tok2
  (e_Lok (ld_aload_n_0 (x_dk dn_228_0_0_ok 0 rfl)))
  (e_Lok (ld_iload_n_1 (x_dk dn_228_0_0_ok 1 rfl))))
  (e_Tok2
  (e_Lok (ld_iload_n_2 (x_dk dn_228_0_0_ok 2 rfl)))
  (e_Lok (lk_11_119 ho_228 (x_dk dn_228_0_0_ok 3 rfl)))))
  (e_Tok2
  (e_Tok2
  (e_Lok (e_st (I := eI) (er_ifeq (off := 20) (tg := 26) (x_dk dn_228_0_0_ok 4 rfl) (by decide)) nx_if1))
  (e_Lok (ld_aload_n_0 (x_dk dn_228_0_0_ok 5 rfl))))
  (e_Tok2
  (e_Lok (lk_11_27g ho_228 (x_dk dn_228_0_0_ok 6 rfl)))
  (e_Lok (ld_iload_n_1 (x_dk dn_228_0_0_ok 7 rfl))))))
  (e_Tok2
  (e_Tok2
  (e_Tok2
  (e_Lok (e_st (I := eI) (er_aaload (x_dk dn_228_0_0_ok 8 rfl)) nx_aald))
  (e_Lok (lk_11_123g ho_228 (x_dk dn_228_0_0_ok 9 rfl))))
  (e_Tok2
  (e_Lok (ld_iload_n_2 (x_dk dn_228_0_0_ok 10 rfl)))
  (e_Lok (e_st (I := eI) (er_aaload (x_dk dn_228_0_0_ok 11 rfl)) nx_aald))))
  (e_Tok2
  (e_Tok2
  (e_Lok (lk_11_326g ho_228 (x_dk dn_228_0_0_ok 12 rfl)))
  (e_Lok (e_st (I := eI) (er_goto (off := 4) (tg := 27) (x_dk dn_228_0_0_ok 13 rfl) (by decide)) nx_goto)))
  (e_Tok2
  (e_Lok (ps_iconst_m1 (x_dk dn_228_0_0_ok 14 rfl)))
  (e_Lok (e_rt (I := eI) (k := 1) ⟨(x_dk dn_228_0_0_ok 15 rfl), rfl⟩))))))
def te_228 : Nat → eE := te_228_0
theorem te_228_ok : ∀ pc, e_EOq eft cls elay eI n_228 pc (te_228 pc) := te_228_0_ok
theorem ho_229 : (xm_y n_229).cls = "RobotCellHouse" := rfl
def dn_229_0_0 : List (Nat × Instr × Nat) := [(0, .aload_n 0, 1), (1, .iload_n 1, 1), (2, .invokevirtual 103, 3), (5, .ifCond .eq 29, 3), (8, .iload_n 2, 1), (9, .iconst 0, 1), (10, .aload_n 0, 1), (11, .getfield 27, 3), (14, .iload_n 1, 1), (15, .aaload, 1), (16, .getfield 112, 3), (19, .invokestatic 82, 3), (22, .ifCond .eq 12, 3), (25, .iload_n 3, 1), (26, .iconst 0, 1), (27, .iconst 1, 1), (28, .invokestatic 82, 3), (31, .ifCond .ne 5, 3), (34, .iconst (-1), 1), (35, .ireturn, 1), (36, .iload_n 3, 1), (37, .ifCond .ne 17, 3), (40, .aload_n 0, 1), (41, .getfield 27, 3), (44, .iload_n 1, 1)]
set_option maxRecDepth 20000 in
theorem dn_229_0_0_ok : dn_229_0_0.all (fun q => decide (decode (xm_b n_229) q.1 = .ok (q.2.1, q.2.2))) = true := xa_g_ok (by decide +kernel)
def dn_229_0_1 : List (Nat × Instr × Nat) := [(45, .aaload, 1), (46, .getfield 329, 3), (49, .iload_n 2, 1), (50, .iaload, 1), (51, .goto 14, 3), (54, .aload_n 0, 1), (55, .getfield 27, 3), (58, .iload_n 1, 1), (59, .aaload, 1), (60, .getfield 332, 3), (63, .iload_n 2, 1), (64, .iaload, 1), (65, .ireturn, 1)]
set_option maxRecDepth 20000 in
theorem dn_229_0_1_ok : dn_229_0_1.all (fun q => decide (decode (xm_b n_229) q.1 = .ok (q.2.1, q.2.2))) = true := xa_g_ok (by decide +kernel)
def te_229_0 : Nat → eE := (e_T 34 (e_T 14 (e_T 5 (e_T 1 (e_T 0 (e_L 0 (0, ei_load 0 2 1, 0, 0)) (e_L 1 (0, ei_load 1 0 2, 0, 0))) (e_T 2 (e_L 2 (2, e_nof, 246, 2)) (e_L 5 (0, ei_if1 0 34 8, 0, 0)))) (e_T 9 (e_T 8 (e_L 8 (0, ei_load 2 0 9, 0, 0)) (e_L 9 (0, ei_push (0, 0) 10, 0, 0))) (e_T 10 (e_L 10 (0, ei_load 0 2 11, 0, 0)) (e_T 11 (e_L 11 (0, ei_getf eft elay 11 2 14, 0, 0)) (e_L 14 (0, ei_load 1 0 15, 0, 0)))))) (e_T 25 (e_T 16 (e_T 15 (e_L 15 (0, ei_aald elay 16, 0, 0)) (e_L 16 (0, ei_getf eft elay 0 8 19, 0, 0))) (e_T 19 (e_L 19 (2, e_nof, 242, 3)) (e_T 22 (e_L 22 (0, ei_if1 0 34 25, 0, 0)) (e_L 25 (0, ei_load 3 0 26, 0, 0))))) (e_T 27 (e_T 26 (e_L 26 (0, ei_push (0, 0) 27, 0, 0)) (e_L 27 (0, ei_push (0, 1) 28, 0, 0))) (e_T 28 (e_L 28 (2, e_nof, 242, 3)) (e_T 31 (e_L 31 (0, ei_if1 1 36 34, 0, 0)) (e_L 34 (0, ei_push (0, (-1)) 35, 0, 0))))))) (e_T 49 (e_T 40 (e_T 36 (e_T 35 (e_L 35 (1, e_nof, 1, 0)) (e_L 36 (0, ei_load 3 0 37, 0, 0))) (e_T 37 (e_L 37 (0, ei_if1 1 54 40, 0, 0)) (e_L 40 (0, ei_load 0 2 41, 0, 0)))) (e_T 44 (e_T 41 (e_L 41 (0, ei_getf eft elay 11 2 44, 0, 0)) (e_L 44 (0, ei_load 1 0 45, 0, 0))) (e_T 45 (e_L 45 (0, ei_aald elay 46, 0, 0)) (e_T 46 (e_L 46 (0, ei_getf eft elay 0 1 49, 0, 0)) (e_L 49 (0, ei_load 2 0 50, 0, 0)))))) (e_T 58 (e_T 51 (e_T 50 (e_L 50 (0, ei_ald elay false 51, 0, 0)) (e_L 51 (0, ei_goto 65, 0, 0))) (e_T 54 (e_L 54 (0, ei_load 0 2 55, 0, 0)) (e_T 55 (e_L 55 (0, ei_getf eft elay 11 2 58, 0, 0)) (e_L 58 (0, ei_load 1 0 59, 0, 0))))) (e_T 60 (e_T 59 (e_L 59 (0, ei_aald elay 60, 0, 0)) (e_L 60 (0, ei_getf eft elay 0 2 63, 0, 0))) (e_T 63 (e_L 63 (0, ei_load 2 0 64, 0, 0)) (e_T 64 (e_L 64 (0, ei_ald elay false 65, 0, 0)) (e_L 65 (1, e_nof, 1, 0))))))))
set_option maxRecDepth 20000 in
set_option maxHeartbeats 4000000 in
theorem te_229_0_ok : ∀ pc, e_EOq eft cls elay eI n_229 pc (te_229_0 pc) :=
  (e_Tok2
  (e_Tok2
  (e_Tok2
  (e_Tok2
  (e_Tok2
  (e_Lok (ld_aload_n_0 (x_dk dn_229_0_0_ok 0 rfl)))
  (e_Lok (ld_iload_n_1 (x_dk dn_229_0_0_ok 1 rfl))))
  (e_Tok2
  (e_Lok (lk_11_103 ho_229 (x_dk dn_229_0_0_ok 2 rfl)))
  (e_Lok (e_st (I := eI) (er_ifeq (off := 29) (tg := 34) (x_dk dn_229_0_0_ok 3 rfl) (by decide)) nx_if1))))
  (e_Tok2
  (e_Tok2
  (e_Lok (ld_iload_n_2 (x_dk dn_229_0_0_ok 4 rfl)))
  (e_Lok (ps_iconst_0 (x_dk dn_229_0_0_ok 5 rfl))))
  (e_Tok2
  (e_Lok (ld_aload_n_0 (x_dk dn_229_0_0_ok 6 rfl)))
  (e_Tok2
  (e_Lok (lk_11_27g ho_229 (x_dk dn_229_0_0_ok 7 rfl)))
  (e_Lok (ld_iload_n_1 (x_dk dn_229_0_0_ok 8 rfl)))))))
  (e_Tok2
  (e_Tok2
  (e_Tok2
  (e_Lok (e_st (I := eI) (er_aaload (x_dk dn_229_0_0_ok 9 rfl)) nx_aald))
  (e_Lok (lk_11_112g ho_229 (x_dk dn_229_0_0_ok 10 rfl))))
  (e_Tok2
  (e_Lok (lk_11_82 ho_229 (x_dk dn_229_0_0_ok 11 rfl)))
  (e_Tok2
  (e_Lok (e_st (I := eI) (er_ifeq (off := 12) (tg := 34) (x_dk dn_229_0_0_ok 12 rfl) (by decide)) nx_if1))
  (e_Lok (ld_iload_n_3 (x_dk dn_229_0_0_ok 13 rfl))))))
  (e_Tok2
  (e_Tok2
  (e_Lok (ps_iconst_0 (x_dk dn_229_0_0_ok 14 rfl)))
  (e_Lok (ps_iconst_1 (x_dk dn_229_0_0_ok 15 rfl))))
  (e_Tok2
  (e_Lok (lk_11_82 ho_229 (x_dk dn_229_0_0_ok 16 rfl)))
  (e_Tok2
  (e_Lok (e_st (I := eI) (er_ifne (off := 5) (tg := 36) (x_dk dn_229_0_0_ok 17 rfl) (by decide)) nx_if1))
  (e_Lok (ps_iconst_m1 (x_dk dn_229_0_0_ok 18 rfl))))))))
  (e_Tok2
  (e_Tok2
  (e_Tok2
  (e_Tok2
  (e_Lok (e_rt (I := eI) (k := 1) ⟨(x_dk dn_229_0_0_ok 19 rfl), rfl⟩))
  (e_Lok (ld_iload_n_3 (x_dk dn_229_0_0_ok 20 rfl))))
  (e_Tok2
  (e_Lok (e_st (I := eI) (er_ifne (off := 17) (tg := 54) (x_dk dn_229_0_0_ok 21 rfl) (by decide)) nx_if1))
  (e_Lok (ld_aload_n_0 (x_dk dn_229_0_0_ok 22 rfl)))))
  (e_Tok2
  (e_Tok2
  (e_Lok (lk_11_27g ho_229 (x_dk dn_229_0_0_ok 23 rfl)))
  (e_Lok (ld_iload_n_1 (x_dk dn_229_0_0_ok 24 rfl))))
  (e_Tok2
  (e_Lok (e_st (I := eI) (er_aaload (x_dk dn_229_0_1_ok 0 rfl)) nx_aald))
  (e_Tok2
  (e_Lok (lk_11_329g ho_229 (x_dk dn_229_0_1_ok 1 rfl)))
  (e_Lok (ld_iload_n_2 (x_dk dn_229_0_1_ok 2 rfl)))))))
  (e_Tok2
  (e_Tok2
  (e_Tok2
  (e_Lok (sm_iaload (x_dk dn_229_0_1_ok 3 rfl)))
  (e_Lok (e_st (I := eI) (er_goto (off := 14) (tg := 65) (x_dk dn_229_0_1_ok 4 rfl) (by decide)) nx_goto)))
  (e_Tok2
  (e_Lok (ld_aload_n_0 (x_dk dn_229_0_1_ok 5 rfl)))
  (e_Tok2
  (e_Lok (lk_11_27g ho_229 (x_dk dn_229_0_1_ok 6 rfl)))
  (e_Lok (ld_iload_n_1 (x_dk dn_229_0_1_ok 7 rfl))))))
  (e_Tok2
  (e_Tok2
  (e_Lok (e_st (I := eI) (er_aaload (x_dk dn_229_0_1_ok 8 rfl)) nx_aald))
  (e_Lok (lk_11_332g ho_229 (x_dk dn_229_0_1_ok 9 rfl))))
  (e_Tok2
  (e_Lok (ld_iload_n_2 (x_dk dn_229_0_1_ok 10 rfl)))
  (e_Tok2
  (e_Lok (sm_iaload (x_dk dn_229_0_1_ok 11 rfl)))
  (e_Lok (e_rt (I := eI) (k := 1) ⟨(x_dk dn_229_0_1_ok 12 rfl), rfl⟩))))))))
def te_229 : Nat → eE := te_229_0
theorem te_229_ok : ∀ pc, e_EOq eft cls elay eI n_229 pc (te_229 pc) := te_229_0_ok
theorem ho_230 : (xm_y n_230).cls = "RobotCellHouse" := rfl
def dn_230_0_0 : List (Nat × Instr × Nat) := [(0, .aload_n 0, 1), (1, .iload_n 1, 1), (2, .invokevirtual 103, 3), (5, .ifCond .eq 15, 3), (8, .aload_n 0, 1), (9, .getfield 27, 3), (12, .iload_n 1, 1), (13, .aaload, 1), (14, .getfield 317, 3), (17, .ifCond .ge 5, 3), (20, .iconst (-1), 1), (21, .ireturn, 1), (22, .aload_n 0, 1), (23, .getfield 53, 3), (26, .aload_n 0, 1), (27, .getfield 27, 3), (30, .iload_n 1, 1), (31, .aaload, 1), (32, .getfield 317, 3), (35, .iload_n 2, 1), (36, .invokevirtual 335, 3), (39, .ireturn, 1)]
set_option maxRecDepth 20000 in
theorem dn_230_0_0_ok : dn_230_0_0.all (fun q => decide (decode (xm_b n_230) q.1 = .ok (q.2.1, q.2.2))) = true := xa_g_ok (by decide +kernel)
def te_230_0 : Nat → eE := (e_T 20 (e_T 8 (e_T 1 (e_T 0 (e_L 0 (0, ei_load 0 2 1, 0, 0)) (e_L 1 (0, ei_load 1 0 2, 0, 0))) (e_T 2 (e_L 2 (2, e_nof, 246, 2)) (e_T 5 (e_L 5 (0, ei_if1 0 20 8, 0, 0)) (e_L 8 (0, ei_load 0 2 9, 0, 0))))) (e_T 13 (e_T 9 (e_L 9 (0, ei_getf eft elay 11 2 12, 0, 0)) (e_T 12 (e_L 12 (0, ei_load 1 0 13, 0, 0)) (e_L 13 (0, ei_aald elay 14, 0, 0)))) (e_T 14 (e_L 14 (0, ei_getf eft elay 0 17 17, 0, 0)) (e_T 17 (e_L 17 (0, ei_if1 3 22 20, 0, 0)) (e_L 20 (0, ei_push (0, (-1)) 21, 0, 0)))))) (e_T 27 (e_T 22 (e_T 21 (e_L 21 (1, e_nof, 1, 0)) (e_L 22 (0, ei_load 0 2 23, 0, 0))) (e_T 23 (e_L 23 (0, ei_getf eft elay 11 7 26, 0, 0)) (e_T 26 (e_L 26 (0, ei_load 0 2 27, 0, 0)) (e_L 27 (0, ei_getf eft elay 11 2 30, 0, 0))))) (e_T 32 (e_T 30 (e_L 30 (0, ei_load 1 0 31, 0, 0)) (e_T 31 (e_L 31 (0, ei_aald elay 32, 0, 0)) (e_L 32 (0, ei_getf eft elay 0 17 35, 0, 0)))) (e_T 35 (e_L 35 (0, ei_load 2 0 36, 0, 0)) (e_T 36 (e_L 36 (2, e_nof, 96, 3)) (e_L 39 (1, e_nof, 1, 0)))))))
set_option maxRecDepth 20000 in
set_option maxHeartbeats 4000000 in
theorem te_230_0_ok : ∀ pc, e_EOq eft cls elay eI n_230 pc (te_230_0 pc) :=
  (e_Tok2
  (e_Tok2
  (e_Tok2
  (e_Tok2
  (e_Lok (ld_aload_n_0 (x_dk dn_230_0_0_ok 0 rfl)))
  (e_Lok (ld_iload_n_1 (x_dk dn_230_0_0_ok 1 rfl))))
  (e_Tok2
  (e_Lok (lk_11_103 ho_230 (x_dk dn_230_0_0_ok 2 rfl)))
  (e_Tok2
  (e_Lok (e_st (I := eI) (er_ifeq (off := 15) (tg := 20) (x_dk dn_230_0_0_ok 3 rfl) (by decide)) nx_if1))
  (e_Lok (ld_aload_n_0 (x_dk dn_230_0_0_ok 4 rfl))))))
  (e_Tok2
  (e_Tok2
  (e_Lok (lk_11_27g ho_230 (x_dk dn_230_0_0_ok 5 rfl)))
  (e_Tok2
  (e_Lok (ld_iload_n_1 (x_dk dn_230_0_0_ok 6 rfl)))
  (e_Lok (e_st (I := eI) (er_aaload (x_dk dn_230_0_0_ok 7 rfl)) nx_aald))))
  (e_Tok2
  (e_Lok (lk_11_317g ho_230 (x_dk dn_230_0_0_ok 8 rfl)))
  (e_Tok2
  (e_Lok (e_st (I := eI) (er_ifge (off := 5) (tg := 22) (x_dk dn_230_0_0_ok 9 rfl) (by decide)) nx_if1))
  (e_Lok (ps_iconst_m1 (x_dk dn_230_0_0_ok 10 rfl)))))))
  (e_Tok2
  (e_Tok2
  (e_Tok2
  (e_Lok (e_rt (I := eI) (k := 1) ⟨(x_dk dn_230_0_0_ok 11 rfl), rfl⟩))
  (e_Lok (ld_aload_n_0 (x_dk dn_230_0_0_ok 12 rfl))))
  (e_Tok2
  (e_Lok (lk_11_53g ho_230 (x_dk dn_230_0_0_ok 13 rfl)))
  (e_Tok2
  (e_Lok (ld_aload_n_0 (x_dk dn_230_0_0_ok 14 rfl)))
  (e_Lok (lk_11_27g ho_230 (x_dk dn_230_0_0_ok 15 rfl))))))
  (e_Tok2
  (e_Tok2
  (e_Lok (ld_iload_n_1 (x_dk dn_230_0_0_ok 16 rfl)))
  (e_Tok2
  (e_Lok (e_st (I := eI) (er_aaload (x_dk dn_230_0_0_ok 17 rfl)) nx_aald))
  (e_Lok (lk_11_317g ho_230 (x_dk dn_230_0_0_ok 18 rfl)))))
  (e_Tok2
  (e_Lok (ld_iload_n_2 (x_dk dn_230_0_0_ok 19 rfl)))
  (e_Tok2
  (e_Lok (lk_11_335 ho_230 (x_dk dn_230_0_0_ok 20 rfl)))
  (e_Lok (e_rt (I := eI) (k := 1) ⟨(x_dk dn_230_0_0_ok 21 rfl), rfl⟩)))))))
def te_230 : Nat → eE := te_230_0
theorem te_230_ok : ∀ pc, e_EOq eft cls elay eI n_230 pc (te_230 pc) := te_230_0_ok
theorem ho_231 : (xm_y n_231).cls = "RobotCellHouse" := rfl
def dn_231_0_0 : List (Nat × Instr × Nat) := [(0, .iload_n 1, 1), (1, .iconst 0, 1), (2, .bipush 15, 2), (4, .invokestatic 82, 3), (7, .ifCond .ne 5, 3), (10, .iconst (-1), 1), (11, .ireturn, 1), (12, .aload_n 0, 1), (13, .getfield 19, 3), (16, .getfield 338, 3), (19, .iload_n 1, 1), (20, .aaload, 1), (21, .astore_n 3, 1), (22, .iload_n 2, 1), (23, .tableswitch 49 0 3 #[29, 34, 39, 44], 29), (52, .aload_n 3, 1), (53, .getfield 342, 3), (56, .ireturn, 1), (57, .aload_n 3, 1), (58, .getfield 345, 3), (61, .ireturn, 1), (62, .aload_n 3, 1), (63, .getfield 348, 3), (66, .ireturn, 1), (67, .aload_n 3, 1)]
set_option maxRecDepth 20000 in
theorem dn_231_0_0_ok : dn_231_0_0.all (fun q => decide (decode (xm_b n_231) q.1 = .ok (q.2.1, q.2.2))) = true := xa_g_ok (by decide +kernel)
def dn_231_0_1 : List (Nat × Instr × Nat) := [(68, .getfield 351, 3), (71, .ireturn, 1), (72, .iconst (-1), 1), (73, .ireturn, 1)]
set_option maxRecDepth 20000 in
theorem dn_231_0_1_ok : dn_231_0_1.all (fun q => decide (decode (xm_b n_231) q.1 = .ok (q.2.1, q.2.2))) = true := xa_g_ok (by decide +kernel)
def te_231_0 : Nat → eE := (e_T 22 (e_T 11 (e_T 2 (e_T 0 (e_L 0 (0, ei_load 1 0 1, 0, 0)) (e_T 1 (e_L 1 (0, ei_push (0, 0) 2, 0, 0)) (e_L 2 (0, ei_push (0, 15) 4, 0, 0)))) (e_T 7 (e_T 4 (e_L 4 (2, e_nof, 242, 3)) (e_L 7 (0, ei_if1 1 12 10, 0, 0))) (e_T 10 (e_L 10 (0, ei_push (0, (-1)) 11, 0, 0)) (e_L 11 (1, e_nof, 1, 0))))) (e_T 16 (e_T 12 (e_L 12 (0, ei_load 0 2 13, 0, 0)) (e_T 13 (e_L 13 (0, ei_getf eft elay 11 1 16, 0, 0)) (e_L 16 (0, ei_getf eft elay 3 4 19, 0, 0)))) (e_T 20 (e_T 19 (e_L 19 (0, ei_load 1 0 20, 0, 0)) (e_L 20 (0, ei_aald elay 21, 0, 0))) (e_T 21 (e_L 21 (0, ei_stor 3 2 22, 0, 0)) (e_L 22 (0, ei_load 2 0 23, 0, 0)))))) (e_T 61 (e_T 53 (e_T 23 (e_L 23 (0, ei_sw [((-2147483648), (-1), 72), (0, 0, 52), (1, 1, 57), (2, 2, 62), (3, 3, 67), (4, 2147483647, 72)], 0, 0)) (e_T 52 (e_L 52 (0, ei_load 3 2 53, 0, 0)) (e_L 53 (0, ei_getf eft elay 10 1 56, 0, 0)))) (e_T 57 (e_T 56 (e_L 56 (1, e_nof, 1, 0)) (e_L 57 (0, ei_load 3 2 58, 0, 0))) (e_T 58 (e_L 58 (0, ei_getf eft elay 10 2 61, 0, 0)) (e_L 61 (1, e_nof, 1, 0))))) (e_T 67 (e_T 63 (e_T 62 (e_L 62 (0, ei_load 3 2 63, 0, 0)) (e_L 63 (0, ei_getf eft elay 10 5 66, 0, 0))) (e_T 66 (e_L 66 (1, e_nof, 1, 0)) (e_L 67 (0, ei_load 3 2 68, 0, 0)))) (e_T 71 (e_T 68 (e_L 68 (0, ei_getf eft elay 10 4 71, 0, 0)) (e_L 71 (1, e_nof, 1, 0))) (e_T 72 (e_L 72 (0, ei_push (0, (-1)) 73, 0, 0)) (e_L 73 (1, e_nof, 1, 0)))))))
set_option maxRecDepth 20000 in
set_option maxHeartbeats 4000000 in
theorem te_231_0_ok : ∀ pc, e_EOq eft cls elay eI n_231 pc (te_231_0 pc) :=
  (e_Tok2
  (e_Tok2
  (e_Tok2
  (e_Tok2
  (e_Lok (ld_iload_n_1 (x_dk dn_231_0_0_ok 0 rfl)))
  (e_Tok2
  (e_Lok (ps_iconst_0 (x_dk dn_231_0_0_ok 1 rfl)))
  (e_Lok (ps_bipush_15 (x_dk dn_231_0_0_ok 2 rfl)))))
  (e_Tok2
  (e_Tok2
  (e_Lok (lk_11_82 ho_231 (x_dk dn_231_0_0_ok 3 rfl)))
  (e_Lok (e_st (I := eI) (er_ifne (off := 5) (tg := 12) (x_dk dn_231_0_0_ok 4 rfl) (by decide)) nx_if1)))
  (e_Tok2
  (e_Lok (ps_iconst_m1 (x_dk dn_231_0_0_ok 5 rfl)))
  (e_Lok (e_rt (I := eI) (k := 1) ⟨(x_dk dn_231_0_0_ok 6 rfl), rfl⟩)))))
  (e_Tok2
  (e_Tok2
  (e_Lok (ld_aload_n_0 (x_dk dn_231_0_0_ok 7 rfl)))
  (e_Tok2
  (e_Lok (lk_11_19g ho_231 (x_dk dn_231_0_0_ok 8 rfl)))
  (e_Lok (lk_11_338g ho_231 (x_dk dn_231_0_0_ok 9 rfl)))))
  (e_Tok2
  (e_Tok2
  (e_Lok (ld_iload_n_1 (x_dk dn_231_0_0_ok 10 rfl)))
  (e_Lok (e_st (I := eI) (er_aaload (x_dk dn_231_0_0_ok 11 rfl)) nx_aald)))
  (e_Tok2
  (e_Lok (e_st (I := eI) (er_astore_n (i := 3) (x_dk dn_231_0_0_ok 12 rfl) (by decide +kernel)) nx_stor))
  (e_Lok (ld_iload_n_2 (x_dk dn_231_0_0_ok 13 rfl)))))))
  (e_Tok2
  (e_Tok2
  (e_Tok2
  (e_Lok (e_st (I := eI) (er_tsw (dflt := 49) (lo := 0) (hi := 3) (offs := #[29, 34, 39, 44]) (len := 29) (n := 4) (x_dk dn_231_0_0_ok 14 rfl) (by decide) (by decide +kernel)) nx_sw))
  (e_Tok2
  (e_Lok (ld_aload_n_3 (x_dk dn_231_0_0_ok 15 rfl)))
  (e_Lok (lk_11_342g ho_231 (x_dk dn_231_0_0_ok 16 rfl)))))
  (e_Tok2
  (e_Tok2
  (e_Lok (e_rt (I := eI) (k := 1) ⟨(x_dk dn_231_0_0_ok 17 rfl), rfl⟩))
  (e_Lok (ld_aload_n_3 (x_dk dn_231_0_0_ok 18 rfl))))
  (e_Tok2
  (e_Lok (lk_11_345g ho_231 (x_dk dn_231_0_0_ok 19 rfl)))
  (e_Lok (e_rt (I := eI) (k := 1) ⟨(x_dk dn_231_0_0_ok 20 rfl), rfl⟩)))))
  (e_Tok2
  (e_Tok2
  (e_Tok2
  (e_Lok (ld_aload_n_3 (x_dk dn_231_0_0_ok 21 rfl)))
  (e_Lok (lk_11_348g ho_231 (x_dk dn_231_0_0_ok 22 rfl))))
  (e_Tok2
  (e_Lok (e_rt (I := eI) (k := 1) ⟨(x_dk dn_231_0_0_ok 23 rfl), rfl⟩))
  (e_Lok (ld_aload_n_3 (x_dk dn_231_0_0_ok 24 rfl)))))
  (e_Tok2
  (e_Tok2
  (e_Lok (lk_11_351g ho_231 (x_dk dn_231_0_1_ok 0 rfl)))
  (e_Lok (e_rt (I := eI) (k := 1) ⟨(x_dk dn_231_0_1_ok 1 rfl), rfl⟩)))
  (e_Tok2
  (e_Lok (ps_iconst_m1 (x_dk dn_231_0_1_ok 2 rfl)))
  (e_Lok (e_rt (I := eI) (k := 1) ⟨(x_dk dn_231_0_1_ok 3 rfl), rfl⟩)))))))
def te_231 : Nat → eE := te_231_0
theorem te_231_ok : ∀ pc, e_EOq eft cls elay eI n_231 pc (te_231 pc) := te_231_0_ok
theorem ho_232 : (xm_y n_232).cls = "RobotCellHouse" := rfl
def dn_232_0_0 : List (Nat × Instr × Nat) := [(0, .aload_n 0, 1), (1, .iload_n 1, 1), (2, .invokevirtual 103, 3), (5, .ifCond .eq 25, 3), (8, .iload_n 2, 1), (9, .iconst 0, 1), (10, .aload_n 0, 1), (11, .getfield 27, 3), (14, .iload_n 1, 1), (15, .aaload, 1), (16, .getfield 240, 3), (19, .getfield 354, 3), (22, .iconst 1, 1), (23, .isub, 1), (24, .invokestatic 82, 3), (27, .ifCond .ne 5, 3), (30, .iconst (-1), 1), (31, .ireturn, 1), (32, .aload_n 0, 1), (33, .getfield 27, 3), (36, .iload_n 1, 1), (37, .aaload, 1), (38, .getfield 357, 3), (41, .iload_n 2, 1), (42, .iaload, 1)]
set_option maxRecDepth 20000 in
theorem dn_232_0_0_ok : dn_232_0_0.all (fun q => decide (decode (xm_b n_232) q.1 = .ok (q.2.1, q.2.2))) = true := xa_g_ok (by decide +kernel)
def dn_232_0_1 : List (Nat × Instr × Nat) := [(43, .ireturn, 1)]
set_option maxRecDepth 20000 in
theorem dn_232_0_1_ok : dn_232_0_1.all (fun q => decide (decode (xm_b n_232) q.1 = .ok (q.2.1, q.2.2))) = true := xa_g_ok (by decide +kernel)
def te_232_0 : Nat → eE := (e_T 22 (e_T 9 (e_T 2 (e_T 0 (e_L 0 (0, ei_load 0 2 1, 0, 0)) (e_T 1 (e_L 1 (0, ei_load 1 0 2, 0, 0)) (e_L 2 (2, e_nof, 246, 2)))) (e_T 5 (e_L 5 (0, ei_if1 0 30 8, 0, 0)) (e_T 8 (e_L 8 (0, ei_load 2 0 9, 0, 0)) (e_L 9 (0, ei_push (0, 0) 10, 0, 0))))) (e_T 14 (e_T 10 (e_L 10 (0, ei_load 0 2 11, 0, 0)) (e_T 11 (e_L 11 (0, ei_getf eft elay 11 2 14, 0, 0)) (e_L 14 (0, ei_load 1 0 15, 0, 0)))) (e_T 16 (e_T 15 (e_L 15 (0, ei_aald elay 16, 0, 0)) (e_L 16 (0, ei_getf eft elay 0 7 19, 0, 0))) (e_T 19 (e_L 19 (0, ei_getf eft elay 1 2 22, 0, 0)) (e_L 22 (0, ei_push (0, 1) 23, 0, 0)))))) (e_T 32 (e_T 27 (e_T 23 (e_L 23 (0, ei_bin eF_sub 24, 0, 0)) (e_T 24 (e_L 24 (2, e_nof, 242, 3)) (e_L 27 (0, ei_if1 1 32 30, 0, 0)))) (e_T 30 (e_L 30 (0, ei_push (0, (-1)) 31, 0, 0)) (e_T 31 (e_L 31 (1, e_nof, 1, 0)) (e_L 32 (0, ei_load 0 2 33, 0, 0))))) (e_T 37 (e_T 33 (e_L 33 (0, ei_getf eft elay 11 2 36, 0, 0)) (e_T 36 (e_L 36 (0, ei_load 1 0 37, 0, 0)) (e_L 37 (0, ei_aald elay 38, 0, 0)))) (e_T 41 (e_T 38 (e_L 38 (0, ei_getf eft elay 0 6 41, 0, 0)) (e_L 41 (0, ei_load 2 0 42, 0, 0))) (e_T 42 (e_L 42 (0, ei_ald elay false 43, 0, 0)) (e_L 43 (1, e_nof, 1, 0)))))))
set_option maxRecDepth 20000 in
set_option maxHeartbeats 4000000 in
theorem te_232_0_ok : ∀ pc, e_EOq eft cls elay eI n_232 pc (te_232_0 pc) :=
  (e_Tok2
  (e_Tok2
  (e_Tok2
  (e_Tok2
  (e_Lok (ld_aload_n_0 (x_dk dn_232_0_0_ok 0 rfl)))
  (e_Tok2
  (e_Lok (ld_iload_n_1 (x_dk dn_232_0_0_ok 1 rfl)))
  (e_Lok (lk_11_103 ho_232 (x_dk dn_232_0_0_ok 2 rfl)))))
  (e_Tok2
  (e_Lok (e_st (I := eI) (er_ifeq (off := 25) (tg := 30) (x_dk dn_232_0_0_ok 3 rfl) (by decide)) nx_if1))
  (e_Tok2
  (e_Lok (ld_iload_n_2 (x_dk dn_232_0_0_ok 4 rfl)))
  (e_Lok (ps_iconst_0 (x_dk dn_232_0_0_ok 5 rfl))))))
  (e_Tok2
  (e_Tok2
  (e_Lok (ld_aload_n_0 (x_dk dn_232_0_0_ok 6 rfl)))
  (e_Tok2
  (e_Lok (lk_11_27g ho_232 (x_dk dn_232_0_0_ok 7 rfl)))
  (e_Lok (ld_iload_n_1 (x_dk dn_232_0_0_ok 8 rfl)))))
  (e_Tok2
  (e_Tok2
  (e_Lok (e_st (I := eI) (er_aaload (x_dk dn_232_0_0_ok 9 rfl)) nx_aald))
  (e_Lok (lk_11_240g ho_232 (x_dk dn_232_0_0_ok 10 rfl))))
  (e_Tok2
  (e_Lok (lk_11_354g ho_232 (x_dk dn_232_0_0_ok 11 rfl)))
  (e_Lok (ps_iconst_1 (x_dk dn_232_0_0_ok 12 rfl)))))))
  (e_Tok2
  (e_Tok2
  (e_Tok2
  (e_Lok (sm_isub (x_dk dn_232_0_0_ok 13 rfl)))
  (e_Tok2
  (e_Lok (lk_11_82 ho_232 (x_dk dn_232_0_0_ok 14 rfl)))
  (e_Lok (e_st (I := eI) (er_ifne (off := 5) (tg := 32) (x_dk dn_232_0_0_ok 15 rfl) (by decide)) nx_if1))))
  (e_Tok2
  (e_Lok (ps_iconst_m1 (x_dk dn_232_0_0_ok 16 rfl)))
  (e_Tok2
  (e_Lok (e_rt (I := eI) (k := 1) ⟨(x_dk dn_232_0_0_ok 17 rfl), rfl⟩))
  (e_Lok (ld_aload_n_0 (x_dk dn_232_0_0_ok 18 rfl))))))
  (e_Tok2
  (e_Tok2
  (e_Lok (lk_11_27g ho_232 (x_dk dn_232_0_0_ok 19 rfl)))
  (e_Tok2
  (e_Lok (ld_iload_n_1 (x_dk dn_232_0_0_ok 20 rfl)))
  (e_Lok (e_st (I := eI) (er_aaload (x_dk dn_232_0_0_ok 21 rfl)) nx_aald))))
  (e_Tok2
  (e_Tok2
  (e_Lok (lk_11_357g ho_232 (x_dk dn_232_0_0_ok 22 rfl)))
  (e_Lok (ld_iload_n_2 (x_dk dn_232_0_0_ok 23 rfl))))
  (e_Tok2
  (e_Lok (sm_iaload (x_dk dn_232_0_0_ok 24 rfl)))
  (e_Lok (e_rt (I := eI) (k := 1) ⟨(x_dk dn_232_0_1_ok 0 rfl), rfl⟩)))))))
def te_232 : Nat → eE := te_232_0
theorem te_232_ok : ∀ pc, e_EOq eft cls elay eI n_232 pc (te_232 pc) := te_232_0_ok
theorem ho_233 : (xm_y n_233).cls = "RobotCellHouse" := rfl
def dn_233_0_0 : List (Nat × Instr × Nat) := [(0, .iload_n 1, 1), (1, .invokestatic 178, 3), (4, .ifCond .ne 5, 3), (7, .iconst (-1), 1), (8, .ireturn, 1), (9, .iload_n 2, 1), (10, .tableswitch 56 0 2 #[26, 36, 46], 26), (36, .aload_n 0, 1), (37, .getfield 32, 3), (40, .getfield 360, 3), (43, .iload_n 1, 1), (44, .iaload, 1), (45, .ireturn, 1), (46, .aload_n 0, 1), (47, .getfield 32, 3), (50, .getfield 362, 3), (53, .iload_n 1, 1), (54, .iaload, 1), (55, .ireturn, 1), (56, .aload_n 0, 1), (57, .getfield 32, 3), (60, .getfield 365, 3), (63, .iload_n 1, 1), (64, .iaload, 1), (65, .ireturn, 1)]
set_option maxRecDepth 20000 in
theorem dn_233_0_0_ok : dn_233_0_0.all (fun q => decide (decode (xm_b n_233) q.1 = .ok (q.2.1, q.2.2))) = true := xa_g_ok (by decide +kernel)
def dn_233_0_1 : List (Nat × Instr × Nat) := [(66, .iconst (-1), 1), (67, .ireturn, 1)]
set_option maxRecDepth 20000 in
theorem dn_233_0_1_ok : dn_233_0_1.all (fun q => decide (decode (xm_b n_233) q.1 = .ok (q.2.1, q.2.2))) = true := xa_g_ok (by decide +kernel)
def te_233_0 : Nat → eE := (e_T 45 (e_T 9 (e_T 4 (e_T 0 (e_L 0 (0, ei_load 1 0 1, 0, 0)) (e_T 1 (e_L 1 (2, e_nof, 245, 1)) (e_L 4 (0, ei_if1 1 9 7, 0, 0)))) (e_T 7 (e_L 7 (0, ei_push (0, (-1)) 8, 0, 0)) (e_T 8 (e_L 8 (1, e_nof, 1, 0)) (e_L 9 (0, ei_load 2 0 10, 0, 0))))) (e_T 37 (e_T 10 (e_L 10 (0, ei_sw [((-2147483648), (-1), 66), (0, 0, 36), (1, 1, 46), (2, 2, 56), (3, 2147483647, 66)], 0, 0)) (e_T 36 (e_L 36 (0, ei_load 0 2 37, 0, 0)) (e_L 37 (0, ei_getf eft elay 11 3 40, 0, 0)))) (e_T 43 (e_T 40 (e_L 40 (0, ei_getf eft elay 7 1 43, 0, 0)) (e_L 43 (0, ei_load 1 0 44, 0, 0))) (e_T 44 (e_L 44 (0, ei_ald elay false 45, 0, 0)) (e_L 45 (1, e_nof, 1, 0)))))) (e_T 56 (e_T 50 (e_T 46 (e_L 46 (0, ei_load 0 2 47, 0, 0)) (e_T 47 (e_L 47 (0, ei_getf eft elay 11 3 50, 0, 0)) (e_L 50 (0, ei_getf eft elay 7 0 53, 0, 0)))) (e_T 54 (e_T 53 (e_L 53 (0, ei_load 1 0 54, 0, 0)) (e_L 54 (0, ei_ald elay false 55, 0, 0))) (e_T 55 (e_L 55 (1, e_nof, 1, 0)) (e_L 56 (0, ei_load 0 2 57, 0, 0))))) (e_T 63 (e_T 57 (e_L 57 (0, ei_getf eft elay 11 3 60, 0, 0)) (e_T 60 (e_L 60 (0, ei_getf eft elay 7 2 63, 0, 0)) (e_L 63 (0, ei_load 1 0 64, 0, 0)))) (e_T 65 (e_T 64 (e_L 64 (0, ei_ald elay false 65, 0, 0)) (e_L 65 (1, e_nof, 1, 0))) (e_T 66 (e_L 66 (0, ei_push (0, (-1)) 67, 0, 0)) (e_L 67 (1, e_nof, 1, 0)))))))
set_option maxRecDepth 20000 in
set_option maxHeartbeats 4000000 in
theorem te_233_0_ok : ∀ pc, e_EOq eft cls elay eI n_233 pc (te_233_0 pc) :=
  (e_Tok2
  (e_Tok2
  (e_Tok2
  (e_Tok2
  (e_Lok (ld_iload_n_1 (x_dk dn_233_0_0_ok 0 rfl)))
  (e_Tok2
  (e_Lok (lk_11_178 ho_233 (x_dk dn_233_0_0_ok 1 rfl)))
  (e_Lok (e_st (I := eI) (er_ifne (off := 5) (tg := 9) (x_dk dn_233_0_0_ok 2 rfl) (by decide)) nx_if1))))
  (e_Tok2
  (e_Lok (ps_iconst_m1 (x_dk dn_233_0_0_ok 3 rfl)))
  (e_Tok2
  (e_Lok (e_rt (I := eI) (k := 1) ⟨(x_dk dn_233_0_0_ok 4 rfl), rfl⟩))
  (e_Lok (ld_iload_n_2 (x_dk dn_233_0_0_ok 5 rfl))))))
  (e_Tok2
  (e_Tok2
  (e_Lok (e_st (I := eI) (er_tsw (dflt := 56) (lo := 0) (hi := 2) (offs := #[26, 36, 46]) (len := 26) (n := 3) (x_dk dn_233_0_0_ok 6 rfl) (by decide) (by decide +kernel)) nx_sw))
  (e_Tok2
  (e_Lok (ld_aload_n_0 (x_dk dn_233_0_0_ok 7 rfl)))
  (e_Lok (lk_11_32g ho_233 (x_dk dn_233_0_0_ok 8 rfl)))))
  (e_Tok2
  (e_Tok2
  (e_Lok (lk_11_360g ho_233 (x_dk dn_233_0_0_ok 9 rfl)))
  (e_Lok (ld_iload_n_1 (x_dk dn_233_0_0_ok 10 rfl))))
  (e_Tok2
  (e_Lok (sm_iaload (x_dk dn_233_0_0_ok 11 rfl)))
  (e_Lok (e_rt (I := eI) (k := 1) ⟨(x_dk dn_233_0_0_ok 12 rfl), rfl⟩))))))
  (e_Tok2
  (e_Tok2
  (e_Tok2
  (e_Lok (ld_aload_n_0 (x_dk dn_233_0_0_ok 13 rfl)))
  (e_Tok2
  (e_Lok (lk_11_32g ho_233 (x_dk dn_233_0_0_ok 14 rfl)))
  (e_Lok (lk_11_362g ho_233 (x_dk dn_233_0_0_ok 15 rfl)))))
  (e_Tok2
  (e_Tok2
  (e_Lok (ld_iload_n_1 (x_dk dn_233_0_0_ok 16 rfl)))
  (e_Lok (sm_iaload (x_dk dn_233_0_0_ok 17 rfl))))
  (e_Tok2
  (e_Lok (e_rt (I := eI) (k := 1) ⟨(x_dk dn_233_0_0_ok 18 rfl), rfl⟩))
  (e_Lok (ld_aload_n_0 (x_dk dn_233_0_0_ok 19 rfl))))))
  (e_Tok2
  (e_Tok2
  (e_Lok (lk_11_32g ho_233 (x_dk dn_233_0_0_ok 20 rfl)))
  (e_Tok2
  (e_Lok (lk_11_365g ho_233 (x_dk dn_233_0_0_ok 21 rfl)))
  (e_Lok (ld_iload_n_1 (x_dk dn_233_0_0_ok 22 rfl)))))
  (e_Tok2
  (e_Tok2
  (e_Lok (sm_iaload (x_dk dn_233_0_0_ok 23 rfl)))
  (e_Lok (e_rt (I := eI) (k := 1) ⟨(x_dk dn_233_0_0_ok 24 rfl), rfl⟩)))
  (e_Tok2
  (e_Lok (ps_iconst_m1 (x_dk dn_233_0_1_ok 0 rfl)))
  (e_Lok (e_rt (I := eI) (k := 1) ⟨(x_dk dn_233_0_1_ok 1 rfl), rfl⟩)))))))
def te_233 : Nat → eE := te_233_0
theorem te_233_ok : ∀ pc, e_EOq eft cls elay eI n_233 pc (te_233 pc) := te_233_0_ok
end
end
