noncomputable section
def dn_119_0 : List (Nat × Instr × Nat) := [(0, .aload_n 0, 1), (1, .iconst 0, 1), (2, .putfield 9, 3), (5, .aload_n 0, 1), (6, .iconst (-1), 1), (7, .putfield 15, 3), (10, .aload_n 0, 1), (11, .iconst 0, 1), (12, .putfield 39, 3), (15, .aload_n 0, 1), (16, .iconst 0, 1), (17, .putfield 42, 3), (20, .aload_n 0, 1), (21, .iconst 0, 1), (22, .putfield 45, 3), (25, .aload_n 0, 1), (26, .iconst 0, 1), (27, .putfield 48, 3), (30, .aload_n 0, 1), (31, .getfield 21, 3), (34, .invokevirtual 51, 3), (37, .aload_n 0, 1), (38, .invokevirtual 54, 3), (41, .iconst 0, 1), (42, .istore_n 1, 1), (43, .iload_n 1, 1), (44, .sipush 4000, 3), (47, .if_icmp .ge 22, 3), (50, .aload_n 0, 1), (51, .getfield 57, 3), (54, .bipush 21, 2), (56, .if_icmp .ne 13, 3), (59, .aload_n 0, 1), (60, .invokevirtual 60, 3), (63, .iinc 1 1, 3), (66, .goto (-23), 3), (69, .iconst 0, 1), (70, .istore_n 1, 1), (71, .iload_n 1, 1), (72, .sipush 4000, 3), (75, .if_icmp .ge 22, 3), (78, .aload_n 0, 1), (79, .getfield 57, 3), (82, .bipush 22, 2), (84, .if_icmp .ne 13, 3), (87, .aload_n 0, 1), (88, .invokevirtual 63, 3), (91, .iinc 1 1, 3), (94, .goto (-23), 3), (97, .aload_n 0, 1), (98, .getfield 57, 3), (101, .ifCond .eq 7, 3), (104, .aload_n 0, 1), (105, .invokevirtual 66, 3), (108, .aload_n 0, 1), (109, .getfield 9, 3), (112, .ifCond .eq 4, 3), (115, .return_, 1), (116, .aload_n 0, 1), (117, .invokevirtual 69, 3), (120, .aload_n 0, 1), (121, .aload_n 0, 1), (122, .getfield 39, 3), (125, .putfield 9, 3), (128, .aload_n 0, 1), (129, .getfield 39, 3), (132, .ifCond .eq 11, 3), (135, .aload_n 0, 1), (136, .aload_n 0, 1), (137, .getfield 72, 3), (140, .putfield 15, 3), (143, .return_, 1)]
set_option maxRecDepth 20000 in
theorem dn_119_0_ok : dn_119_0.all (fun q => decide (decode prog_10_method_3_code q.1 = .ok (q.2.1, q.2.2))) = true := by decide +kernel
def te_119_0 : Nat → eE := (e_T 27 (e_T 12 (e_T 5 (e_T 1 (e_T 0 (e_L 0 (0, ei_load 0 2 1, 0, 0)) (e_L 1 (0, ei_push (0, 0) 2, 0, 0))) (e_T 2 (e_L 2 (0, ei_putf eft elay 8 1 0 5, 0, 0)) (e_L 5 (0, ei_load 0 2 6, 0, 0)))) (e_T 7 (e_T 6 (e_L 6 (0, ei_push (0, (-1)) 7, 0, 0)) (e_L 7 (0, ei_putf eft elay 8 2 0 10, 0, 0))) (e_T 10 (e_L 10 (0, ei_load 0 2 11, 0, 0)) (e_T 11 (e_L 11 (0, ei_push (0, 0) 12, 0, 0)) (e_L 12 (0, ei_putf eft elay 8 9 0 15, 0, 0)))))) (e_T 20 (e_T 16 (e_T 15 (e_L 15 (0, ei_load 0 2 16, 0, 0)) (e_L 16 (0, ei_push (0, 0) 17, 0, 0))) (e_T 17 (e_L 17 (0, ei_putf eft elay 8 11 0 20, 0, 0)) (e_L 20 (0, ei_load 0 2 21, 0, 0)))) (e_T 22 (e_T 21 (e_L 21 (0, ei_push (0, 0) 22, 0, 0)) (e_L 22 (0, ei_putf eft elay 8 14 0 25, 0, 0))) (e_T 25 (e_L 25 (0, ei_load 0 2 26, 0, 0)) (e_T 26 (e_L 26 (0, ei_push (0, 0) 27, 0, 0)) (e_L 27 (0, ei_putf eft elay 8 7 0 30, 0, 0))))))) (e_T 44 (e_T 37 (e_T 31 (e_T 30 (e_L 30 (0, ei_load 0 2 31, 0, 0)) (e_L 31 (0, ei_getf eft elay 8 3 34, 0, 0))) (e_T 34 (e_L 34 (2, e_nof, 20, 1)) (e_L 37 (0, ei_load 0 2 38, 0, 0)))) (e_T 41 (e_T 38 (e_L 38 (2, e_nof, 123, 1)) (e_L 41 (0, ei_push (0, 0) 42, 0, 0))) (e_T 42 (e_L 42 (0, ei_stor 1 0 43, 0, 0)) (e_T 43 (e_L 43 (0, ei_load 1 0 44, 0, 0)) (e_L 44 (0, ei_push (0, 4000) 47, 0, 0)))))) (e_T 54 (e_T 50 (e_T 47 (e_L 47 (0, ei_if2 3 69 50, 0, 0)) (e_L 50 (0, ei_load 0 2 51, 0, 0))) (e_T 51 (e_L 51 (0, ei_getf eft elay 8 5 54, 0, 0)) (e_L 54 (0, ei_push (0, 21) 56, 0, 0)))) (e_T 59 (e_T 56 (e_L 56 (0, ei_if2 1 69 59, 0, 0)) (e_L 59 (0, ei_load 0 2 60, 0, 0))) (e_T 60 (e_L 60 (2, e_nof, 140, 1)) (e_T 63 (e_L 63 (0, ei_inc 1 1 66, 0, 0)) (e_L 66 (0, ei_goto 43, 0, 0))))))))
set_option maxRecDepth 20000 in
set_option maxHeartbeats 4000000 in
theorem te_119_0_ok : ∀ pc, e_EOq eft cls elay eI n_119 pc (te_119_0 pc) :=
  (e_Tok2
  (e_Tok2
  (e_Tok2
  (e_Tok2
  (e_Tok2
  (e_Lok (e_st (I := eI) (er_aload_n (i := 0) (x_dk dn_119_0_ok 0 rfl))))
  (e_Lok (e_st (I := eI) (er_iconst (n := 0) (z := 0) (v := 0) (x_dk dn_119_0_ok 1 rfl) (by decide) (by decide)))))
  (e_Tok2
  (e_Lok (e_st (I := eI) (er_putf (ci := 8) (k := 1) (ix := 9) (N := 17) (fk := 0) (C := RX8) (T := TX8) (ty0 := tyX8) (ty := .int) rfl in_X8 tyX8_ok nmX8 (by decide) (in_t1 (List.mem_of_getElem? (i := 67) rfl) rfl) rfl rfl x_fit_int (x_dk dn_119_0_ok 2 rfl))))
  (e_Lok (e_st (I := eI) (er_aload_n (i := 0) (x_dk dn_119_0_ok 3 rfl))))))
  (e_Tok2
  (e_Tok2
  (e_Lok (e_st (I := eI) (er_iconst (n := (-1)) (z := (-1)) (v := (-1)) (x_dk dn_119_0_ok 4 rfl) (by decide) (by decide))))
  (e_Lok (e_st (I := eI) (er_putf (ci := 8) (k := 2) (ix := 15) (N := 17) (fk := 0) (C := RX8) (T := TX8) (ty0 := tyX8) (ty := .int) rfl in_X8 tyX8_ok nmX8 (by decide) (in_t1 (List.mem_of_getElem? (i := 69) rfl) rfl) rfl rfl x_fit_int (x_dk dn_119_0_ok 5 rfl)))))
  (e_Tok2
  (e_Lok (e_st (I := eI) (er_aload_n (i := 0) (x_dk dn_119_0_ok 6 rfl))))
  (e_Tok2
  (e_Lok (e_st (I := eI) (er_iconst (n := 0) (z := 0) (v := 0) (x_dk dn_119_0_ok 7 rfl) (by decide) (by decide))))
  (e_Lok (e_st (I := eI) (er_putf (ci := 8) (k := 9) (ix := 39) (N := 17) (fk := 0) (C := RX8) (T := TX8) (ty0 := tyX8) (ty := .int) rfl in_X8 tyX8_ok nmX8 (by decide) (in_t1 (List.mem_of_getElem? (i := 78) rfl) rfl) rfl rfl x_fit_int (x_dk dn_119_0_ok 8 rfl))))))))
  (e_Tok2
  (e_Tok2
  (e_Tok2
  (e_Lok (e_st (I := eI) (er_aload_n (i := 0) (x_dk dn_119_0_ok 9 rfl))))
  (e_Lok (e_st (I := eI) (er_iconst (n := 0) (z := 0) (v := 0) (x_dk dn_119_0_ok 10 rfl) (by decide) (by decide)))))
  (e_Tok2
  (e_Lok (e_st (I := eI) (er_putf (ci := 8) (k := 11) (ix := 42) (N := 17) (fk := 0) (C := RX8) (T := TX8) (ty0 := tyX8) (ty := .int) rfl in_X8 tyX8_ok nmX8 (by decide) (in_t1 (List.mem_of_getElem? (i := 80) rfl) rfl) rfl rfl x_fit_int (x_dk dn_119_0_ok 11 rfl))))
  (e_Lok (e_st (I := eI) (er_aload_n (i := 0) (x_dk dn_119_0_ok 12 rfl))))))
  (e_Tok2
  (e_Tok2
  (e_Lok (e_st (I := eI) (er_iconst (n := 0) (z := 0) (v := 0) (x_dk dn_119_0_ok 13 rfl) (by decide) (by decide))))
  (e_Lok (e_st (I := eI) (er_putf (ci := 8) (k := 14) (ix := 45) (N := 17) (fk := 0) (C := RX8) (T := TX8) (ty0 := tyX8) (ty := .int) rfl in_X8 tyX8_ok nmX8 (by decide) (in_t1 (List.mem_of_getElem? (i := 83) rfl) rfl) rfl rfl x_fit_int (x_dk dn_119_0_ok 14 rfl)))))
  (e_Tok2
  (e_Lok (e_st (I := eI) (er_aload_n (i := 0) (x_dk dn_119_0_ok 15 rfl))))
  (e_Tok2
  (e_Lok (e_st (I := eI) (er_iconst (n := 0) (z := 0) (v := 0) (x_dk dn_119_0_ok 16 rfl) (by decide) (by decide))))
  (e_Lok (e_st (I := eI) (er_putf (ci := 8) (k := 7) (ix := 48) (N := 17) (fk := 0) (C := RX8) (T := TX8) (ty0 := tyX8) (ty := .int) rfl in_X8 tyX8_ok nmX8 (by decide) (in_t1 (List.mem_of_getElem? (i := 76) rfl) rfl) rfl rfl x_fit_int (x_dk dn_119_0_ok 17 rfl)))))))))
  (e_Tok2
  (e_Tok2
  (e_Tok2
  (e_Tok2
  (e_Lok (e_st (I := eI) (er_aload_n (i := 0) (x_dk dn_119_0_ok 18 rfl))))
  (e_Lok (e_st (I := eI) (er_getf (ci := 8) (k := 3) (ix := 21) (N := 17) (C := RX8) (T := TX8) rfl in_X8 (by decide) (in_t1 (List.mem_of_getElem? (i := 71) rfl) rfl) (x_dk dn_119_0_ok 19 rfl)))))
  (e_Tok2
  (e_Lok (e_ca (I := eI) (q' := n_20) rfl (xr_callV (q' := n_20) (ix := 51) (n := 0) (in_t4 (List.mem_of_getElem? (i := 13) rfl) rfl) good_w (in_t1 (List.mem_of_getElem? (i := 3) rfl) rfl) (in_t5 (List.mem_of_getElem? (i := 76) rfl) rfl) (in_t4 (List.mem_of_getElem? (i := 11) rfl) rfl) (in_t4 (List.mem_of_getElem? (i := 12) rfl) rfl) (by decide +kernel) (by decide +kernel) (by decide +kernel) (x_dk dn_119_0_ok 20 rfl))))
  (e_Lok (e_st (I := eI) (er_aload_n (i := 0) (x_dk dn_119_0_ok 21 rfl))))))
  (e_Tok2
  (e_Tok2
  (e_Lok (e_ca (I := eI) (q' := n_123) rfl (xr_callV (q' := n_123) (ix := 54) (n := 0) (in_t5 (List.mem_of_getElem? (i := 80) rfl) rfl) good_w (in_t1 (List.mem_of_getElem? (i := 2) rfl) rfl) (in_t5 (List.mem_of_getElem? (i := 77) rfl) rfl) (in_t5 (List.mem_of_getElem? (i := 79) rfl) rfl) (in_s1 (List.mem_of_getElem? (i := 11) rfl)) (by decide +kernel) (by decide +kernel) (by decide +kernel) (x_dk dn_119_0_ok 22 rfl))))
  (e_Lok (e_st (I := eI) (er_iconst (n := 0) (z := 0) (v := 0) (x_dk dn_119_0_ok 23 rfl) (by decide) (by decide)))))
  (e_Tok2
  (e_Lok (e_st (I := eI) (er_istore_n (i := 1) (x_dk dn_119_0_ok 24 rfl) (by decide +kernel))))
  (e_Tok2
  (e_Lok (e_st (I := eI) (er_iload_n (i := 1) (x_dk dn_119_0_ok 25 rfl))))
  (e_Lok (e_st (I := eI) (er_sipush (n := 4000) (z := 4000) (v := 4000) (x_dk dn_119_0_ok 26 rfl) (by decide) (by decide))))))))
  (e_Tok2
  (e_Tok2
  (e_Tok2
  (e_Lok (e_st (I := eI) (er_icmpge (off := 22) (tg := 69) (x_dk dn_119_0_ok 27 rfl) (by decide))))
  (e_Lok (e_st (I := eI) (er_aload_n (i := 0) (x_dk dn_119_0_ok 28 rfl)))))
  (e_Tok2
  (e_Lok (e_st (I := eI) (er_getf (ci := 8) (k := 5) (ix := 57) (N := 17) (C := RX8) (T := TX8) rfl in_X8 (by decide) (in_t1 (List.mem_of_getElem? (i := 74) rfl) rfl) (x_dk dn_119_0_ok 29 rfl))))
  (e_Lok (e_st (I := eI) (er_bipush (n := 21) (z := 21) (v := 21) (x_dk dn_119_0_ok 30 rfl) (by decide) (by decide))))))
  (e_Tok2
  (e_Tok2
  (e_Lok (e_st (I := eI) (er_icmpne (off := 13) (tg := 69) (x_dk dn_119_0_ok 31 rfl) (by decide))))
  (e_Lok (e_st (I := eI) (er_aload_n (i := 0) (x_dk dn_119_0_ok 32 rfl)))))
  (e_Tok2
  (e_Lok (e_ca (I := eI) (q' := n_140) rfl (xr_callV (q' := n_140) (ix := 60) (n := 0) (in_t5 (List.mem_of_getElem? (i := 230) rfl) rfl) good_w (in_t1 (List.mem_of_getElem? (i := 2) rfl) rfl) (in_t5 (List.mem_of_getElem? (i := 227) rfl) rfl) (in_t5 (List.mem_of_getElem? (i := 229) rfl) rfl) (in_s2 (List.mem_of_getElem? (i := 2) rfl)) (by decide +kernel) (by decide +kernel) (by decide +kernel) (x_dk dn_119_0_ok 33 rfl))))
  (e_Tok2
  (e_Lok (e_st (I := eI) (er_iinc (i := 1) (n := 1) (x_dk dn_119_0_ok 34 rfl) (by decide +kernel) (by decide))))
  (e_Lok (e_st (I := eI) (er_goto (off := (-23)) (tg := 43) (x_dk dn_119_0_ok 35 rfl) (by decide))))))))))
def te_119_36 : Nat → eE := (e_T 105 (e_T 84 (e_T 72 (e_T 70 (e_T 69 (e_L 69 (0, ei_push (0, 0) 70, 0, 0)) (e_L 70 (0, ei_stor 1 0 71, 0, 0))) (e_T 71 (e_L 71 (0, ei_load 1 0 72, 0, 0)) (e_L 72 (0, ei_push (0, 4000) 75, 0, 0)))) (e_T 78 (e_T 75 (e_L 75 (0, ei_if2 3 97 78, 0, 0)) (e_L 78 (0, ei_load 0 2 79, 0, 0))) (e_T 79 (e_L 79 (0, ei_getf eft elay 8 5 82, 0, 0)) (e_T 82 (e_L 82 (0, ei_push (0, 22) 84, 0, 0)) (e_L 84 (0, ei_if2 1 97 87, 0, 0)))))) (e_T 94 (e_T 88 (e_T 87 (e_L 87 (0, ei_load 0 2 88, 0, 0)) (e_L 88 (2, e_nof, 142, 1))) (e_T 91 (e_L 91 (0, ei_inc 1 1 94, 0, 0)) (e_L 94 (0, ei_goto 71, 0, 0)))) (e_T 98 (e_T 97 (e_L 97 (0, ei_load 0 2 98, 0, 0)) (e_L 98 (0, ei_getf eft elay 8 5 101, 0, 0))) (e_T 101 (e_L 101 (0, ei_if1 0 108 104, 0, 0)) (e_T 104 (e_L 104 (0, ei_load 0 2 105, 0, 0)) (e_L 105 (2, e_nof, 130, 1))))))) (e_T 122 (e_T 115 (e_T 109 (e_T 108 (e_L 108 (0, ei_load 0 2 109, 0, 0)) (e_L 109 (0, ei_getf eft elay 8 1 112, 0, 0))) (e_T 112 (e_L 112 (0, ei_if1 0 116 115, 0, 0)) (e_L 115 (1, e_nof, 0, 0)))) (e_T 117 (e_T 116 (e_L 116 (0, ei_load 0 2 117, 0, 0)) (e_L 117 (2, e_nof, 138, 1))) (e_T 120 (e_L 120 (0, ei_load 0 2 121, 0, 0)) (e_T 121 (e_L 121 (0, ei_load 0 2 122, 0, 0)) (e_L 122 (0, ei_getf eft elay 8 9 125, 0, 0)))))) (e_T 132 (e_T 128 (e_T 125 (e_L 125 (0, ei_putf eft elay 8 1 0 128, 0, 0)) (e_L 128 (0, ei_load 0 2 129, 0, 0))) (e_T 129 (e_L 129 (0, ei_getf eft elay 8 9 132, 0, 0)) (e_L 132 (0, ei_if1 0 143 135, 0, 0)))) (e_T 136 (e_T 135 (e_L 135 (0, ei_load 0 2 136, 0, 0)) (e_L 136 (0, ei_load 0 2 137, 0, 0))) (e_T 137 (e_L 137 (0, ei_getf eft elay 8 10 140, 0, 0)) (e_T 140 (e_L 140 (0, ei_putf eft elay 8 2 0 143, 0, 0)) (e_L 143 (1, e_nof, 0, 0))))))))
set_option maxRecDepth 20000 in
set_option maxHeartbeats 4000000 in
theorem te_119_36_ok : ∀ pc, e_EOq eft cls elay eI n_119 pc (te_119_36 pc) :=
  (e_Tok2
  (e_Tok2
  (e_Tok2
  (e_Tok2
  (e_Tok2
  (e_Lok (e_st (I := eI) (er_iconst (n := 0) (z := 0) (v := 0) (x_dk dn_119_0_ok 36 rfl) (by decide) (by decide))))
  (e_Lok (e_st (I := eI) (er_istore_n (i := 1) (x_dk dn_119_0_ok 37 rfl) (by decide +kernel)))))
  (e_Tok2
  (e_Lok (e_st (I := eI) (er_iload_n (i := 1) (x_dk dn_119_0_ok 38 rfl))))
  (e_Lok (e_st (I := eI) (er_sipush (n := 4000) (z := 4000) (v := 4000) (x_dk dn_119_0_ok 39 rfl) (by decide) (by decide))))))
  (e_Tok2
  (e_Tok2
  (e_Lok (e_st (I := eI) (er_icmpge (off := 22) (tg := 97) (x_dk dn_119_0_ok 40 rfl) (by decide))))
  (e_Lok (e_st (I := eI) (er_aload_n (i := 0) (x_dk dn_119_0_ok 41 rfl)))))
  (e_Tok2
  (e_Lok (e_st (I := eI) (er_getf (ci := 8) (k := 5) (ix := 57) (N := 17) (C := RX8) (T := TX8) rfl in_X8 (by decide) (in_t1 (List.mem_of_getElem? (i := 74) rfl) rfl) (x_dk dn_119_0_ok 42 rfl))))
  (e_Tok2
  (e_Lok (e_st (I := eI) (er_bipush (n := 22) (z := 22) (v := 22) (x_dk dn_119_0_ok 43 rfl) (by decide) (by decide))))
  (e_Lok (e_st (I := eI) (er_icmpne (off := 13) (tg := 97) (x_dk dn_119_0_ok 44 rfl) (by decide))))))))
  (e_Tok2
  (e_Tok2
  (e_Tok2
  (e_Lok (e_st (I := eI) (er_aload_n (i := 0) (x_dk dn_119_0_ok 45 rfl))))
  (e_Lok (e_ca (I := eI) (q' := n_142) rfl (xr_callV (q' := n_142) (ix := 63) (n := 0) (in_t6 (List.mem_of_getElem? (i := 30) rfl) rfl) good_w (in_t1 (List.mem_of_getElem? (i := 2) rfl) rfl) (in_t6 (List.mem_of_getElem? (i := 27) rfl) rfl) (in_t6 (List.mem_of_getElem? (i := 29) rfl) rfl) (in_s2 (List.mem_of_getElem? (i := 12) rfl)) (by decide +kernel) (by decide +kernel) (by decide +kernel) (x_dk dn_119_0_ok 46 rfl)))))
  (e_Tok2
  (e_Lok (e_st (I := eI) (er_iinc (i := 1) (n := 1) (x_dk dn_119_0_ok 47 rfl) (by decide +kernel) (by decide))))
  (e_Lok (e_st (I := eI) (er_goto (off := (-23)) (tg := 71) (x_dk dn_119_0_ok 48 rfl) (by decide))))))
  (e_Tok2
  (e_Tok2
  (e_Lok (e_st (I := eI) (er_aload_n (i := 0) (x_dk dn_119_0_ok 49 rfl))))
  (e_Lok (e_st (I := eI) (er_getf (ci := 8) (k := 5) (ix := 57) (N := 17) (C := RX8) (T := TX8) rfl in_X8 (by decide) (in_t1 (List.mem_of_getElem? (i := 74) rfl) rfl) (x_dk dn_119_0_ok 50 rfl)))))
  (e_Tok2
  (e_Lok (e_st (I := eI) (er_ifeq (off := 7) (tg := 108) (x_dk dn_119_0_ok 51 rfl) (by decide))))
  (e_Tok2
  (e_Lok (e_st (I := eI) (er_aload_n (i := 0) (x_dk dn_119_0_ok 52 rfl))))
  (e_Lok (e_ca (I := eI) (q' := n_130) rfl (xr_callV (q' := n_130) (ix := 66) (n := 0) (in_t6 (List.mem_of_getElem? (i := 22) rfl) rfl) good_w (in_t1 (List.mem_of_getElem? (i := 2) rfl) rfl) (in_t6 (List.mem_of_getElem? (i := 19) rfl) rfl) (in_t6 (List.mem_of_getElem? (i := 21) rfl) rfl) (in_s2 (List.mem_of_getElem? (i := 10) rfl)) (by decide +kernel) (by decide +kernel) (by decide +kernel) (x_dk dn_119_0_ok 53 rfl)))))))))
  (e_Tok2
  (e_Tok2
  (e_Tok2
  (e_Tok2
  (e_Lok (e_st (I := eI) (er_aload_n (i := 0) (x_dk dn_119_0_ok 54 rfl))))
  (e_Lok (e_st (I := eI) (er_getf (ci := 8) (k := 1) (ix := 9) (N := 17) (C := RX8) (T := TX8) rfl in_X8 (by decide) (in_t1 (List.mem_of_getElem? (i := 67) rfl) rfl) (x_dk dn_119_0_ok 55 rfl)))))
  (e_Tok2
  (e_Lok (e_st (I := eI) (er_ifeq (off := 4) (tg := 116) (x_dk dn_119_0_ok 56 rfl) (by decide))))
  (e_Lok (e_rt (I := eI) (k := 0) ⟨(x_dk dn_119_0_ok 57 rfl), rfl⟩))))
  (e_Tok2
  (e_Tok2
  (e_Lok (e_st (I := eI) (er_aload_n (i := 0) (x_dk dn_119_0_ok 58 rfl))))
  (e_Lok (e_ca (I := eI) (q' := n_138) rfl (xr_callV (q' := n_138) (ix := 69) (n := 0) (in_t6 (List.mem_of_getElem? (i := 149) rfl) rfl) good_w (in_t1 (List.mem_of_getElem? (i := 2) rfl) rfl) (in_t6 (List.mem_of_getElem? (i := 146) rfl) rfl) (in_t6 (List.mem_of_getElem? (i := 148) rfl) rfl) (in_s4 (List.mem_of_getElem? (i := 7) rfl)) (by decide +kernel) (by decide +kernel) (by decide +kernel) (x_dk dn_119_0_ok 59 rfl)))))
  (e_Tok2
  (e_Lok (e_st (I := eI) (er_aload_n (i := 0) (x_dk dn_119_0_ok 60 rfl))))
  (e_Tok2
  (e_Lok (e_st (I := eI) (er_aload_n (i := 0) (x_dk dn_119_0_ok 61 rfl))))
  (e_Lok (e_st (I := eI) (er_getf (ci := 8) (k := 9) (ix := 39) (N := 17) (C := RX8) (T := TX8) rfl in_X8 (by decide) (in_t1 (List.mem_of_getElem? (i := 78) rfl) rfl) (x_dk dn_119_0_ok 62 rfl))))))))
  (e_Tok2
  (e_Tok2
  (e_Tok2
  (e_Lok (e_st (I := eI) (er_putf (ci := 8) (k := 1) (ix := 9) (N := 17) (fk := 0) (C := RX8) (T := TX8) (ty0 := tyX8) (ty := .int) rfl in_X8 tyX8_ok nmX8 (by decide) (in_t1 (List.mem_of_getElem? (i := 67) rfl) rfl) rfl rfl x_fit_int (x_dk dn_119_0_ok 63 rfl))))
  (e_Lok (e_st (I := eI) (er_aload_n (i := 0) (x_dk dn_119_0_ok 64 rfl)))))
  (e_Tok2
  (e_Lok (e_st (I := eI) (er_getf (ci := 8) (k := 9) (ix := 39) (N := 17) (C := RX8) (T := TX8) rfl in_X8 (by decide) (in_t1 (List.mem_of_getElem? (i := 78) rfl) rfl) (x_dk dn_119_0_ok 65 rfl))))
  (e_Lok (e_st (I := eI) (er_ifeq (off := 11) (tg := 143) (x_dk dn_119_0_ok 66 rfl) (by decide))))))
  (e_Tok2
  (e_Tok2
  (e_Lok (e_st (I := eI) (er_aload_n (i := 0) (x_dk dn_119_0_ok 67 rfl))))
  (e_Lok (e_st (I := eI) (er_aload_n (i := 0) (x_dk dn_119_0_ok 68 rfl)))))
  (e_Tok2
  (e_Lok (e_st (I := eI) (er_getf (ci := 8) (k := 10) (ix := 72) (N := 17) (C := RX8) (T := TX8) rfl in_X8 (by decide) (in_t1 (List.mem_of_getElem? (i := 79) rfl) rfl) (x_dk dn_119_0_ok 69 rfl))))
  (e_Tok2
  (e_Lok (e_st (I := eI) (er_putf (ci := 8) (k := 2) (ix := 15) (N := 17) (fk := 0) (C := RX8) (T := TX8) (ty0 := tyX8) (ty := .int) rfl in_X8 tyX8_ok nmX8 (by decide) (in_t1 (List.mem_of_getElem? (i := 69) rfl) rfl) rfl rfl x_fit_int (x_dk dn_119_0_ok 70 rfl))))
  (e_Lok (e_rt (I := eI) (k := 0) ⟨(x_dk dn_119_0_ok 71 rfl), rfl⟩))))))))
def te_119 : Nat → eE := (e_T 66 te_119_0 te_119_36)
theorem te_119_ok : ∀ pc, e_EOq eft cls elay eI n_119 pc (te_119 pc) := (e_Tok2 (te_119_0_ok) (te_119_36_ok))
def dn_120_0 : List (Nat × Instr × Nat) := [(0, .iload_n 1, 1), (1, .ifCond .lt 24, 3), (4, .iload_n 1, 1), (5, .aload_n 0, 1), (6, .getfield 36, 3), (9, .if_icmp .ge 16, 3), (12, .aload_n 0, 1), (13, .getfield 25, 3), (16, .iload_n 1, 1), (17, .baload, 1), (18, .sipush 255, 3), (21, .iand, 1), (22, .goto 4, 3), (25, .iconst 0, 1), (26, .ireturn, 1)]
set_option maxRecDepth 20000 in
theorem dn_120_0_ok : dn_120_0.all (fun q => decide (decode prog_10_method_4_code q.1 = .ok (q.2.1, q.2.2))) = true := by decide +kernel
def te_120_0 : Nat → eE := (e_T 12 (e_T 4 (e_T 0 (e_L 0 (0, ei_load 1 0 1, 0, 0)) (e_T 1 (e_L 1 (0, ei_if1 2 25 4, 0, 0)) (e_L 4 (0, ei_load 1 0 5, 0, 0)))) (e_T 6 (e_T 5 (e_L 5 (0, ei_load 0 2 6, 0, 0)) (e_L 6 (0, ei_getf eft elay 8 0 9, 0, 0))) (e_T 9 (e_L 9 (0, ei_if2 3 25 12, 0, 0)) (e_L 12 (0, ei_load 0 2 13, 0, 0))))) (e_T 18 (e_T 16 (e_T 13 (e_L 13 (0, ei_getf eft elay 8 4 16, 0, 0)) (e_L 16 (0, ei_load 1 0 17, 0, 0))) (e_T 17 (e_L 17 (0, ei_ald elay true 18, 0, 0)) (e_L 18 (0, ei_push (0, 255) 21, 0, 0)))) (e_T 22 (e_T 21 (e_L 21 (0, ei_bin (eB (fun x y => x &&& y)) 22, 0, 0)) (e_L 22 (0, ei_goto 26, 0, 0))) (e_T 25 (e_L 25 (0, ei_push (0, 0) 26, 0, 0)) (e_L 26 (1, e_nof, 1, 0))))))
set_option maxRecDepth 20000 in
set_option maxHeartbeats 4000000 in
theorem te_120_0_ok : ∀ pc, e_EOq eft cls elay eI n_120 pc (te_120_0 pc) :=
  (e_Tok2
  (e_Tok2
  (e_Tok2
  (e_Lok (e_st (I := eI) (er_iload_n (i := 1) (x_dk dn_120_0_ok 0 rfl))))
  (e_Tok2
  (e_Lok (e_st (I := eI) (er_iflt (off := 24) (tg := 25) (x_dk dn_120_0_ok 1 rfl) (by decide))))
  (e_Lok (e_st (I := eI) (er_iload_n (i := 1) (x_dk dn_120_0_ok 2 rfl))))))
  (e_Tok2
  (e_Tok2
  (e_Lok (e_st (I := eI) (er_aload_n (i := 0) (x_dk dn_120_0_ok 3 rfl))))
  (e_Lok (e_st (I := eI) (er_getf (ci := 8) (k := 0) (ix := 36) (N := 17) (C := RX8) (T := TX8) rfl in_X8 (by decide) (in_t1 (List.mem_of_getElem? (i := 66) rfl) rfl) (x_dk dn_120_0_ok 4 rfl)))))
  (e_Tok2
  (e_Lok (e_st (I := eI) (er_icmpge (off := 16) (tg := 25) (x_dk dn_120_0_ok 5 rfl) (by decide))))
  (e_Lok (e_st (I := eI) (er_aload_n (i := 0) (x_dk dn_120_0_ok 6 rfl)))))))
  (e_Tok2
  (e_Tok2
  (e_Tok2
  (e_Lok (e_st (I := eI) (er_getf (ci := 8) (k := 4) (ix := 25) (N := 17) (C := RX8) (T := TX8) rfl in_X8 (by decide) (in_t1 (List.mem_of_getElem? (i := 73) rfl) rfl) (x_dk dn_120_0_ok 7 rfl))))
  (e_Lok (e_st (I := eI) (er_iload_n (i := 1) (x_dk dn_120_0_ok 8 rfl)))))
  (e_Tok2
  (e_Lok (e_st (I := eI) (er_baload (x_dk dn_120_0_ok 9 rfl))))
  (e_Lok (e_st (I := eI) (er_sipush (n := 255) (z := 255) (v := 255) (x_dk dn_120_0_ok 10 rfl) (by decide) (by decide))))))
  (e_Tok2
  (e_Tok2
  (e_Lok (e_st (I := eI) (er_iand (x_dk dn_120_0_ok 11 rfl))))
  (e_Lok (e_st (I := eI) (er_goto (off := 4) (tg := 26) (x_dk dn_120_0_ok 12 rfl) (by decide)))))
  (e_Tok2
  (e_Lok (e_st (I := eI) (er_iconst (n := 0) (z := 0) (v := 0) (x_dk dn_120_0_ok 13 rfl) (by decide) (by decide))))
  (e_Lok (e_rt (I := eI) (k := 1) ⟨(x_dk dn_120_0_ok 14 rfl), rfl⟩))))))
def te_120 : Nat → eE := te_120_0
theorem te_120_ok : ∀ pc, e_EOq eft cls elay eI n_120 pc (te_120 pc) := te_120_0_ok
def dn_121_0 : List (Nat × Instr × Nat) := [(0, .iload_n 0, 1), (1, .bipush 48, 2), (3, .if_icmp .lt 13, 3), (6, .iload_n 0, 1), (7, .bipush 57, 2), (9, .if_icmp .gt 7, 3), (12, .iconst 1, 1), (13, .goto 4, 3), (16, .iconst 0, 1), (17, .ireturn, 1)]
set_option maxRecDepth 20000 in
theorem dn_121_0_ok : dn_121_0.all (fun q => decide (decode prog_10_method_5_code q.1 = .ok (q.2.1, q.2.2))) = true := by decide +kernel
def te_121_0 : Nat → eE := (e_T 7 (e_T 1 (e_T 0 (e_L 0 (0, ei_load 0 0 1, 0, 0)) (e_L 1 (0, ei_push (0, 48) 3, 0, 0))) (e_T 3 (e_L 3 (0, ei_if2 2 16 6, 0, 0)) (e_T 6 (e_L 6 (0, ei_load 0 0 7, 0, 0)) (e_L 7 (0, ei_push (0, 57) 9, 0, 0))))) (e_T 12 (e_T 9 (e_L 9 (0, ei_if2 4 16 12, 0, 0)) (e_L 12 (0, ei_push (0, 1) 13, 0, 0))) (e_T 13 (e_L 13 (0, ei_goto 17, 0, 0)) (e_T 16 (e_L 16 (0, ei_push (0, 0) 17, 0, 0)) (e_L 17 (1, e_nof, 4, 0))))))
set_option maxRecDepth 20000 in
set_option maxHeartbeats 4000000 in
theorem te_121_0_ok : ∀ pc, e_EOq eft cls elay eI n_121 pc (te_121_0 pc) :=
  (e_Tok2
  (e_Tok2
  (e_Tok2
  (e_Lok (e_st (I := eI) (er_iload_n (i := 0) (x_dk dn_121_0_ok 0 rfl))))
  (e_Lok (e_st (I := eI) (er_bipush (n := 48) (z := 48) (v := 48) (x_dk dn_121_0_ok 1 rfl) (by decide) (by decide)))))
  (e_Tok2
  (e_Lok (e_st (I := eI) (er_icmplt (off := 13) (tg := 16) (x_dk dn_121_0_ok 2 rfl) (by decide))))
  (e_Tok2
  (e_Lok (e_st (I := eI) (er_iload_n (i := 0) (x_dk dn_121_0_ok 3 rfl))))
  (e_Lok (e_st (I := eI) (er_bipush (n := 57) (z := 57) (v := 57) (x_dk dn_121_0_ok 4 rfl) (by decide) (by decide)))))))
  (e_Tok2
  (e_Tok2
  (e_Lok (e_st (I := eI) (er_icmpgt (off := 7) (tg := 16) (x_dk dn_121_0_ok 5 rfl) (by decide))))
  (e_Lok (e_st (I := eI) (er_iconst (n := 1) (z := 1) (v := 1) (x_dk dn_121_0_ok 6 rfl) (by decide) (by decide)))))
  (e_Tok2
  (e_Lok (e_st (I := eI) (er_goto (off := 4) (tg := 17) (x_dk dn_121_0_ok 7 rfl) (by decide))))
  (e_Tok2
  (e_Lok (e_st (I := eI) (er_iconst (n := 0) (z := 0) (v := 0) (x_dk dn_121_0_ok 8 rfl) (by decide) (by decide))))
  (e_Lok (e_rt (I := eI) (k := 4) ⟨(x_dk dn_121_0_ok 9 rfl), rfl⟩))))))
def te_121 : Nat → eE := te_121_0
theorem te_121_ok : ∀ pc, e_EOq eft cls elay eI n_121 pc (te_121 pc) := te_121_0_ok
def dn_122_0 : List (Nat × Instr × Nat) := [(0, .iload_n 0, 1), (1, .bipush 97, 2), (3, .if_icmp .lt 9, 3), (6, .iload_n 0, 1), (7, .bipush 122, 2), (9, .if_icmp .le 27, 3), (12, .iload_n 0, 1), (13, .bipush 65, 2), (15, .if_icmp .lt 9, 3), (18, .iload_n 0, 1), (19, .bipush 90, 2), (21, .if_icmp .le 15, 3), (24, .iload_n 0, 1), (25, .bipush 48, 2), (27, .if_icmp .lt 13, 3), (30, .iload_n 0, 1), (31, .bipush 57, 2), (33, .if_icmp .gt 7, 3), (36, .iconst 1, 1), (37, .goto 4, 3), (40, .iconst 0, 1), (41, .ireturn, 1)]
set_option maxRecDepth 20000 in
theorem dn_122_0_ok : dn_122_0.all (fun q => decide (decode prog_10_method_6_code q.1 = .ok (q.2.1, q.2.2))) = true := by decide +kernel
def te_122_0 : Nat → eE := (e_T 19 (e_T 7 (e_T 1 (e_T 0 (e_L 0 (0, ei_load 0 0 1, 0, 0)) (e_L 1 (0, ei_push (0, 97) 3, 0, 0))) (e_T 3 (e_L 3 (0, ei_if2 2 12 6, 0, 0)) (e_T 6 (e_L 6 (0, ei_load 0 0 7, 0, 0)) (e_L 7 (0, ei_push (0, 122) 9, 0, 0))))) (e_T 13 (e_T 9 (e_L 9 (0, ei_if2 5 36 12, 0, 0)) (e_T 12 (e_L 12 (0, ei_load 0 0 13, 0, 0)) (e_L 13 (0, ei_push (0, 65) 15, 0, 0)))) (e_T 15 (e_L 15 (0, ei_if2 2 24 18, 0, 0)) (e_T 18 (e_L 18 (0, ei_load 0 0 19, 0, 0)) (e_L 19 (0, ei_push (0, 90) 21, 0, 0)))))) (e_T 30 (e_T 24 (e_T 21 (e_L 21 (0, ei_if2 5 36 24, 0, 0)) (e_L 24 (0, ei_load 0 0 25, 0, 0))) (e_T 25 (e_L 25 (0, ei_push (0, 48) 27, 0, 0)) (e_T 27 (e_L 27 (0, ei_if2 2 40 30, 0, 0)) (e_L 30 (0, ei_load 0 0 31, 0, 0))))) (e_T 36 (e_T 31 (e_L 31 (0, ei_push (0, 57) 33, 0, 0)) (e_T 33 (e_L 33 (0, ei_if2 4 40 36, 0, 0)) (e_L 36 (0, ei_push (0, 1) 37, 0, 0)))) (e_T 37 (e_L 37 (0, ei_goto 41, 0, 0)) (e_T 40 (e_L 40 (0, ei_push (0, 0) 41, 0, 0)) (e_L 41 (1, e_nof, 4, 0)))))))
set_option maxRecDepth 20000 in
set_option maxHeartbeats 4000000 in
theorem te_122_0_ok : ∀ pc, e_EOq eft cls elay eI n_122 pc (te_122_0 pc) :=
  (e_Tok2
  (e_Tok2
  (e_Tok2
  (e_Tok2
  (e_Lok (e_st (I := eI) (er_iload_n (i := 0) (x_dk dn_122_0_ok 0 rfl))))
  (e_Lok (e_st (I := eI) (er_bipush (n := 97) (z := 97) (v := 97) (x_dk dn_122_0_ok 1 rfl) (by decide) (by decide)))))
  (e_Tok2
  (e_Lok (e_st (I := eI) (er_icmplt (off := 9) (tg := 12) (x_dk dn_122_0_ok 2 rfl) (by decide))))
  (e_Tok2
  (e_Lok (e_st (I := eI) (er_iload_n (i := 0) (x_dk dn_122_0_ok 3 rfl))))
  (e_Lok (e_st (I := eI) (er_bipush (n := 122) (z := 122) (v := 122) (x_dk dn_122_0_ok 4 rfl) (by decide) (by decide)))))))
  (e_Tok2
  (e_Tok2
  (e_Lok (e_st (I := eI) (er_icmple (off := 27) (tg := 36) (x_dk dn_122_0_ok 5 rfl) (by decide))))
  (e_Tok2
  (e_Lok (e_st (I := eI) (er_iload_n (i := 0) (x_dk dn_122_0_ok 6 rfl))))
  (e_Lok (e_st (I := eI) (er_bipush (n := 65) (z := 65) (v := 65) (x_dk dn_122_0_ok 7 rfl) (by decide) (by decide))))))
  (e_Tok2
  (e_Lok (e_st (I := eI) (er_icmplt (off := 9) (tg := 24) (x_dk dn_122_0_ok 8 rfl) (by decide))))
  (e_Tok2
  (e_Lok (e_st (I := eI) (er_iload_n (i := 0) (x_dk dn_122_0_ok 9 rfl))))
  (e_Lok (e_st (I := eI) (er_bipush (n := 90) (z := 90) (v := 90) (x_dk dn_122_0_ok 10 rfl) (by decide) (by decide))))))))
  (e_Tok2
  (e_Tok2
  (e_Tok2
  (e_Lok (e_st (I := eI) (er_icmple (off := 15) (tg := 36) (x_dk dn_122_0_ok 11 rfl) (by decide))))
  (e_Lok (e_st (I := eI) (er_iload_n (i := 0) (x_dk dn_122_0_ok 12 rfl)))))
  (e_Tok2
  (e_Lok (e_st (I := eI) (er_bipush (n := 48) (z := 48) (v := 48) (x_dk dn_122_0_ok 13 rfl) (by decide) (by decide))))
  (e_Tok2
  (e_Lok (e_st (I := eI) (er_icmplt (off := 13) (tg := 40) (x_dk dn_122_0_ok 14 rfl) (by decide))))
  (e_Lok (e_st (I := eI) (er_iload_n (i := 0) (x_dk dn_122_0_ok 15 rfl)))))))
  (e_Tok2
  (e_Tok2
  (e_Lok (e_st (I := eI) (er_bipush (n := 57) (z := 57) (v := 57) (x_dk dn_122_0_ok 16 rfl) (by decide) (by decide))))
  (e_Tok2
  (e_Lok (e_st (I := eI) (er_icmpgt (off := 7) (tg := 40) (x_dk dn_122_0_ok 17 rfl) (by decide))))
  (e_Lok (e_st (I := eI) (er_iconst (n := 1) (z := 1) (v := 1) (x_dk dn_122_0_ok 18 rfl) (by decide) (by decide))))))
  (e_Tok2
  (e_Lok (e_st (I := eI) (er_goto (off := 4) (tg := 41) (x_dk dn_122_0_ok 19 rfl) (by decide))))
  (e_Tok2
  (e_Lok (e_st (I := eI) (er_iconst (n := 0) (z := 0) (v := 0) (x_dk dn_122_0_ok 20 rfl) (by decide) (by decide))))
  (e_Lok (e_rt (I := eI) (k := 4) ⟨(x_dk dn_122_0_ok 21 rfl), rfl⟩)))))))
def te_122 : Nat → eE := te_122_0
theorem te_122_ok : ∀ pc, e_EOq eft cls elay eI n_122 pc (te_122 pc) := te_122_0_ok
def dn_123_0 : List (Nat × Instr × Nat) := [(0, .aload_n 0, 1), (1, .invokevirtual 75, 3), (4, .aload_n 0, 1), (5, .aload_n 0, 1), (6, .getfield 48, 3), (9, .putfield 78, 3), (12, .aload_n 0, 1), (13, .aload_n 0, 1), (14, .getfield 48, 3), (17, .invokevirtual 81, 3), (20, .istore_n 1, 1), (21, .aload_n 0, 1), (22, .getfield 48, 3), (25, .aload_n 0, 1), (26, .getfield 36, 3), (29, .if_icmp .lt 11, 3), (32, .aload_n 0, 1), (33, .iconst 0, 1), (34, .putfield 57, 3), (37, .goto 36, 3), (40, .iload_n 1, 1), (41, .invokestatic 85, 3), (44, .ifCond .eq 10, 3), (47, .aload_n 0, 1), (48, .invokevirtual 89, 3), (51, .goto 22, 3), (54, .iload_n 1, 1), (55, .invokestatic 92, 3), (58, .ifCond .eq 10, 3), (61, .aload_n 0, 1), (62, .invokevirtual 95, 3), (65, .goto 8, 3), (68, .aload_n 0, 1), (69, .iload_n 1, 1), (70, .invokevirtual 98, 3), (73, .return_, 1)]
set_option maxRecDepth 20000 in
theorem dn_123_0_ok : dn_123_0.all (fun q => decide (decode prog_10_method_7_code q.1 = .ok (q.2.1, q.2.2))) = true := by decide +kernel
def te_123_0 : Nat → eE := (e_T 33 (e_T 14 (e_T 5 (e_T 1 (e_T 0 (e_L 0 (0, ei_load 0 2 1, 0, 0)) (e_L 1 (2, e_nof, 124, 1))) (e_T 4 (e_L 4 (0, ei_load 0 2 5, 0, 0)) (e_L 5 (0, ei_load 0 2 6, 0, 0)))) (e_T 9 (e_T 6 (e_L 6 (0, ei_getf eft elay 8 7 9, 0, 0)) (e_L 9 (0, ei_putf eft elay 8 6 0 12, 0, 0))) (e_T 12 (e_L 12 (0, ei_load 0 2 13, 0, 0)) (e_T 13 (e_L 13 (0, ei_load 0 2 14, 0, 0)) (e_L 14 (0, ei_getf eft elay 8 7 17, 0, 0)))))) (e_T 22 (e_T 20 (e_T 17 (e_L 17 (2, e_nof, 120, 2)) (e_L 20 (0, ei_stor 1 0 21, 0, 0))) (e_T 21 (e_L 21 (0, ei_load 0 2 22, 0, 0)) (e_L 22 (0, ei_getf eft elay 8 7 25, 0, 0)))) (e_T 26 (e_T 25 (e_L 25 (0, ei_load 0 2 26, 0, 0)) (e_L 26 (0, ei_getf eft elay 8 0 29, 0, 0))) (e_T 29 (e_L 29 (0, ei_if2 2 40 32, 0, 0)) (e_T 32 (e_L 32 (0, ei_load 0 2 33, 0, 0)) (e_L 33 (0, ei_push (0, 0) 34, 0, 0))))))) (e_T 54 (e_T 41 (e_T 37 (e_T 34 (e_L 34 (0, ei_putf eft elay 8 5 0 37, 0, 0)) (e_L 37 (0, ei_goto 73, 0, 0))) (e_T 40 (e_L 40 (0, ei_load 1 0 41, 0, 0)) (e_L 41 (2, e_nof, 121, 1)))) (e_T 47 (e_T 44 (e_L 44 (0, ei_if1 0 54 47, 0, 0)) (e_L 47 (0, ei_load 0 2 48, 0, 0))) (e_T 48 (e_L 48 (2, e_nof, 127, 1)) (e_T 51 (e_L 51 (0, ei_goto 73, 0, 0)) (e_L 54 (0, ei_load 1 0 55, 0, 0)))))) (e_T 62 (e_T 58 (e_T 55 (e_L 55 (2, e_nof, 122, 1)) (e_L 58 (0, ei_if1 0 68 61, 0, 0))) (e_T 61 (e_L 61 (0, ei_load 0 2 62, 0, 0)) (e_L 62 (2, e_nof, 125, 1)))) (e_T 68 (e_T 65 (e_L 65 (0, ei_goto 73, 0, 0)) (e_L 68 (0, ei_load 0 2 69, 0, 0))) (e_T 69 (e_L 69 (0, ei_load 1 0 70, 0, 0)) (e_T 70 (e_L 70 (2, e_nof, 128, 2)) (e_L 73 (1, e_nof, 0, 0))))))))
set_option maxRecDepth 20000 in
set_option maxHeartbeats 4000000 in
theorem te_123_0_ok : ∀ pc, e_EOq eft cls elay eI n_123 pc (te_123_0 pc) :=
  (e_Tok2
  (e_Tok2
  (e_Tok2
  (e_Tok2
  (e_Tok2
  (e_Lok (e_st (I := eI) (er_aload_n (i := 0) (x_dk dn_123_0_ok 0 rfl))))
  (e_Lok (e_ca (I := eI) (q' := n_124) rfl (xr_callV (q' := n_124) (ix := 75) (n := 0) (in_t5 (List.mem_of_getElem? (i := 84) rfl) rfl) good_w (in_t1 (List.mem_of_getElem? (i := 2) rfl) rfl) (in_t5 (List.mem_of_getElem? (i := 81) rfl) rfl) (in_t5 (List.mem_of_getElem? (i := 83) rfl) rfl) (in_s1 (List.mem_of_getElem? (i := 12) rfl)) (by decide +kernel) (by decide +kernel) (by decide +kernel) (x_dk dn_123_0_ok 1 rfl)))))
  (e_Tok2
  (e_Lok (e_st (I := eI) (er_aload_n (i := 0) (x_dk dn_123_0_ok 2 rfl))))
  (e_Lok (e_st (I := eI) (er_aload_n (i := 0) (x_dk dn_123_0_ok 3 rfl))))))
  (e_Tok2
  (e_Tok2
  (e_Lok (e_st (I := eI) (er_getf (ci := 8) (k := 7) (ix := 48) (N := 17) (C := RX8) (T := TX8) rfl in_X8 (by decide) (in_t1 (List.mem_of_getElem? (i := 76) rfl) rfl) (x_dk dn_123_0_ok 4 rfl))))
  (e_Lok (e_st (I := eI) (er_putf (ci := 8) (k := 6) (ix := 78) (N := 17) (fk := 0) (C := RX8) (T := TX8) (ty0 := tyX8) (ty := .int) rfl in_X8 tyX8_ok nmX8 (by decide) (in_t1 (List.mem_of_getElem? (i := 75) rfl) rfl) rfl rfl x_fit_int (x_dk dn_123_0_ok 5 rfl)))))
  (e_Tok2
  (e_Lok (e_st (I := eI) (er_aload_n (i := 0) (x_dk dn_123_0_ok 6 rfl))))
  (e_Tok2
  (e_Lok (e_st (I := eI) (er_aload_n (i := 0) (x_dk dn_123_0_ok 7 rfl))))
  (e_Lok (e_st (I := eI) (er_getf (ci := 8) (k := 7) (ix := 48) (N := 17) (C := RX8) (T := TX8) rfl in_X8 (by decide) (in_t1 (List.mem_of_getElem? (i := 76) rfl) rfl) (x_dk dn_123_0_ok 8 rfl))))))))
  (e_Tok2
  (e_Tok2
  (e_Tok2
  (e_Lok (e_ca (I := eI) (q' := n_120) rfl (xr_callV (q' := n_120) (ix := 81) (n := 1) (in_t5 (List.mem_of_getElem? (i := 88) rfl) rfl) good_w (in_t1 (List.mem_of_getElem? (i := 2) rfl) rfl) (in_t5 (List.mem_of_getElem? (i := 85) rfl) rfl) (in_t5 (List.mem_of_getElem? (i := 87) rfl) rfl) (in_s1 (List.mem_of_getElem? (i := 13) rfl)) (by decide +kernel) (by decide +kernel) (by decide +kernel) (x_dk dn_123_0_ok 9 rfl))))
  (e_Lok (e_st (I := eI) (er_istore_n (i := 1) (x_dk dn_123_0_ok 10 rfl) (by decide +kernel)))))
  (e_Tok2
  (e_Lok (e_st (I := eI) (er_aload_n (i := 0) (x_dk dn_123_0_ok 11 rfl))))
  (e_Lok (e_st (I := eI) (er_getf (ci := 8) (k := 7) (ix := 48) (N := 17) (C := RX8) (T := TX8) rfl in_X8 (by decide) (in_t1 (List.mem_of_getElem? (i := 76) rfl) rfl) (x_dk dn_123_0_ok 12 rfl))))))
  (e_Tok2
  (e_Tok2
  (e_Lok (e_st (I := eI) (er_aload_n (i := 0) (x_dk dn_123_0_ok 13 rfl))))
  (e_Lok (e_st (I := eI) (er_getf (ci := 8) (k := 0) (ix := 36) (N := 17) (C := RX8) (T := TX8) rfl in_X8 (by decide) (in_t1 (List.mem_of_getElem? (i := 66) rfl) rfl) (x_dk dn_123_0_ok 14 rfl)))))
  (e_Tok2
  (e_Lok (e_st (I := eI) (er_icmplt (off := 11) (tg := 40) (x_dk dn_123_0_ok 15 rfl) (by decide))))
  (e_Tok2
  (e_Lok (e_st (I := eI) (er_aload_n (i := 0) (x_dk dn_123_0_ok 16 rfl))))
  (e_Lok (e_st (I := eI) (er_iconst (n := 0) (z := 0) (v := 0) (x_dk dn_123_0_ok 17 rfl) (by decide) (by decide)))))))))
  (e_Tok2
  (e_Tok2
  (e_Tok2
  (e_Tok2
  (e_Lok (e_st (I := eI) (er_putf (ci := 8) (k := 5) (ix := 57) (N := 17) (fk := 0) (C := RX8) (T := TX8) (ty0 := tyX8) (ty := .int) rfl in_X8 tyX8_ok nmX8 (by decide) (in_t1 (List.mem_of_getElem? (i := 74) rfl) rfl) rfl rfl x_fit_int (x_dk dn_123_0_ok 18 rfl))))
  (e_Lok (e_st (I := eI) (er_goto (off := 36) (tg := 73) (x_dk dn_123_0_ok 19 rfl) (by decide)))))
  (e_Tok2
  (e_Lok (e_st (I := eI) (er_iload_n (i := 1) (x_dk dn_123_0_ok 20 rfl))))
  (e_Lok (e_ca (I := eI) (q' := n_121) rfl (xr_callS (q' := n_121) (ix := 85) (n := 1) (in_t5 (List.mem_of_getElem? (i := 91) rfl) rfl) good_w (in_t1 (List.mem_of_getElem? (i := 2) rfl) rfl) (in_t5 (List.mem_of_getElem? (i := 89) rfl) rfl) (in_t5 (List.mem_of_getElem? (i := 90) rfl) rfl) (by decide +kernel) (by decide +kernel) (x_dk dn_123_0_ok 21 rfl))))))
  (e_Tok2
  (e_Tok2
  (e_Lok (e_st (I := eI) (er_ifeq (off := 10) (tg := 54) (x_dk dn_123_0_ok 22 rfl) (by decide))))
  (e_Lok (e_st (I := eI) (er_aload_n (i := 0) (x_dk dn_123_0_ok 23 rfl)))))
  (e_Tok2
  (e_Lok (e_ca (I := eI) (q' := n_127) rfl (xr_callV (q' := n_127) (ix := 89) (n := 0) (in_t5 (List.mem_of_getElem? (i := 95) rfl) rfl) good_w (in_t1 (List.mem_of_getElem? (i := 2) rfl) rfl) (in_t5 (List.mem_of_getElem? (i := 92) rfl) rfl) (in_t5 (List.mem_of_getElem? (i := 94) rfl) rfl) (in_s1 (List.mem_of_getElem? (i := 14) rfl)) (by decide +kernel) (by decide +kernel) (by decide +kernel) (x_dk dn_123_0_ok 24 rfl))))
  (e_Tok2
  (e_Lok (e_st (I := eI) (er_goto (off := 22) (tg := 73) (x_dk dn_123_0_ok 25 rfl) (by decide))))
  (e_Lok (e_st (I := eI) (er_iload_n (i := 1) (x_dk dn_123_0_ok 26 rfl))))))))
  (e_Tok2
  (e_Tok2
  (e_Tok2
  (e_Lok (e_ca (I := eI) (q' := n_122) rfl (xr_callS (q' := n_122) (ix := 92) (n := 1) (in_t5 (List.mem_of_getElem? (i := 105) rfl) rfl) good_w (in_t1 (List.mem_of_getElem? (i := 2) rfl) rfl) (in_t5 (List.mem_of_getElem? (i := 103) rfl) rfl) (in_t5 (List.mem_of_getElem? (i := 104) rfl) rfl) (by decide +kernel) (by decide +kernel) (x_dk dn_123_0_ok 27 rfl))))
  (e_Lok (e_st (I := eI) (er_ifeq (off := 10) (tg := 68) (x_dk dn_123_0_ok 28 rfl) (by decide)))))
  (e_Tok2
  (e_Lok (e_st (I := eI) (er_aload_n (i := 0) (x_dk dn_123_0_ok 29 rfl))))
  (e_Lok (e_ca (I := eI) (q' := n_125) rfl (xr_callV (q' := n_125) (ix := 95) (n := 0) (in_t5 (List.mem_of_getElem? (i := 109) rfl) rfl) good_w (in_t1 (List.mem_of_getElem? (i := 2) rfl) rfl) (in_t5 (List.mem_of_getElem? (i := 106) rfl) rfl) (in_t5 (List.mem_of_getElem? (i := 108) rfl) rfl) (in_s1 (List.mem_of_getElem? (i := 15) rfl)) (by decide +kernel) (by decide +kernel) (by decide +kernel) (x_dk dn_123_0_ok 30 rfl))))))
  (e_Tok2
  (e_Tok2
  (e_Lok (e_st (I := eI) (er_goto (off := 8) (tg := 73) (x_dk dn_123_0_ok 31 rfl) (by decide))))
  (e_Lok (e_st (I := eI) (er_aload_n (i := 0) (x_dk dn_123_0_ok 32 rfl)))))
  (e_Tok2
  (e_Lok (e_st (I := eI) (er_iload_n (i := 1) (x_dk dn_123_0_ok 33 rfl))))
  (e_Tok2
  (e_Lok (e_ca (I := eI) (q' := n_128) rfl (xr_callV (q' := n_128) (ix := 98) (n := 1) (in_t5 (List.mem_of_getElem? (i := 166) rfl) rfl) good_w (in_t1 (List.mem_of_getElem? (i := 2) rfl) rfl) (in_t5 (List.mem_of_getElem? (i := 163) rfl) rfl) (in_t5 (List.mem_of_getElem? (i := 165) rfl) rfl) (in_s2 (List.mem_of_getElem? (i := 1) rfl)) (by decide +kernel) (by decide +kernel) (by decide +kernel) (x_dk dn_123_0_ok 34 rfl))))
  (e_Lok (e_rt (I := eI) (k := 0) ⟨(x_dk dn_123_0_ok 35 rfl), rfl⟩))))))))
def te_123 : Nat → eE := te_123_0
theorem te_123_ok : ∀ pc, e_EOq eft cls elay eI n_123 pc (te_123 pc) := te_123_0_ok
def dn_124_0 : List (Nat × Instr × Nat) := [(0, .iconst 0, 1), (1, .istore_n 1, 1), (2, .aload_n 0, 1), (3, .getfield 48, 3), (6, .aload_n 0, 1), (7, .getfield 36, 3), (10, .if_icmp .ge 58, 3), (13, .aload_n 0, 1), (14, .aload_n 0, 1), (15, .getfield 48, 3), (18, .invokevirtual 81, 3), (21, .istore_n 2, 1), (22, .iload_n 2, 1), (23, .bipush 35, 2), (25, .if_icmp .ne 8, 3), (28, .iconst 1, 1), (29, .istore_n 1, 1), (30, .goto 25, 3), (33, .iload_n 2, 1), (34, .bipush 10, 2), (36, .if_icmp .ne 8, 3), (39, .iconst 0, 1), (40, .istore_n 1, 1), (41, .goto 14, 3), (44, .iload_n 2, 1), (45, .bipush 32, 2), (47, .if_icmp .le 8, 3), (50, .iload_n 1, 1), (51, .ifCond .ne 4, 3), (54, .return_, 1), (55, .aload_n 0, 1), (56, .dup, 1), (57, .getfield 48, 3), (60, .iconst 1, 1), (61, .iadd, 1), (62, .putfield 48, 3), (65, .goto (-63), 3), (68, .return_, 1)]
set_option maxRecDepth 20000 in
theorem dn_124_0_ok : dn_124_0.all (fun q => decide (decode prog_10_method_8_code q.1 = .ok (q.2.1, q.2.2))) = true := by decide +kernel
def te_124_0 : Nat → eE := (e_T 33 (e_T 14 (e_T 3 (e_T 1 (e_T 0 (e_L 0 (0, ei_push (0, 0) 1, 0, 0)) (e_L 1 (0, ei_stor 1 0 2, 0, 0))) (e_T 2 (e_L 2 (0, ei_load 0 2 3, 0, 0)) (e_L 3 (0, ei_getf eft elay 8 7 6, 0, 0)))) (e_T 7 (e_T 6 (e_L 6 (0, ei_load 0 2 7, 0, 0)) (e_L 7 (0, ei_getf eft elay 8 0 10, 0, 0))) (e_T 10 (e_L 10 (0, ei_if2 3 68 13, 0, 0)) (e_T 13 (e_L 13 (0, ei_load 0 2 14, 0, 0)) (e_L 14 (0, ei_load 0 2 15, 0, 0)))))) (e_T 23 (e_T 18 (e_T 15 (e_L 15 (0, ei_getf eft elay 8 7 18, 0, 0)) (e_L 18 (2, e_nof, 120, 2))) (e_T 21 (e_L 21 (0, ei_stor 2 0 22, 0, 0)) (e_T 22 (e_L 22 (0, ei_load 2 0 23, 0, 0)) (e_L 23 (0, ei_push (0, 35) 25, 0, 0))))) (e_T 28 (e_T 25 (e_L 25 (0, ei_if2 1 33 28, 0, 0)) (e_L 28 (0, ei_push (0, 1) 29, 0, 0))) (e_T 29 (e_L 29 (0, ei_stor 1 0 30, 0, 0)) (e_T 30 (e_L 30 (0, ei_goto 55, 0, 0)) (e_L 33 (0, ei_load 2 0 34, 0, 0))))))) (e_T 50 (e_T 40 (e_T 36 (e_T 34 (e_L 34 (0, ei_push (0, 10) 36, 0, 0)) (e_L 36 (0, ei_if2 1 44 39, 0, 0))) (e_T 39 (e_L 39 (0, ei_push (0, 0) 40, 0, 0)) (e_L 40 (0, ei_stor 1 0 41, 0, 0)))) (e_T 44 (e_T 41 (e_L 41 (0, ei_goto 55, 0, 0)) (e_L 44 (0, ei_load 2 0 45, 0, 0))) (e_T 45 (e_L 45 (0, ei_push (0, 32) 47, 0, 0)) (e_T 47 (e_L 47 (0, ei_if2 5 55 50, 0, 0)) (e_L 50 (0, ei_load 1 0 51, 0, 0)))))) (e_T 57 (e_T 54 (e_T 51 (e_L 51 (0, ei_if1 1 55 54, 0, 0)) (e_L 54 (1, e_nof, 0, 0))) (e_T 55 (e_L 55 (0, ei_load 0 2 56, 0, 0)) (e_T 56 (e_L 56 (0, ei_stk ef_dup 57, 0, 0)) (e_L 57 (0, ei_getf eft elay 8 7 60, 0, 0))))) (e_T 61 (e_T 60 (e_L 60 (0, ei_push (0, 1) 61, 0, 0)) (e_L 61 (0, ei_bin eF_add 62, 0, 0))) (e_T 62 (e_L 62 (0, ei_putf eft elay 8 7 0 65, 0, 0)) (e_T 65 (e_L 65 (0, ei_goto 2, 0, 0)) (e_L 68 (1, e_nof, 0, 0))))))))
set_option maxRecDepth 20000 in
set_option maxHeartbeats 4000000 in
theorem te_124_0_ok : ∀ pc, e_EOq eft cls elay eI n_124 pc (te_124_0 pc) :=
  (e_Tok2
  (e_Tok2
  (e_Tok2
  (e_Tok2
  (e_Tok2
  (e_Lok (e_st (I := eI) (er_iconst (n := 0) (z := 0) (v := 0) (x_dk dn_124_0_ok 0 rfl) (by decide) (by decide))))
  (e_Lok (e_st (I := eI) (er_istore_n (i := 1) (x_dk dn_124_0_ok 1 rfl) (by decide +kernel)))))
  (e_Tok2
  (e_Lok (e_st (I := eI) (er_aload_n (i := 0) (x_dk dn_124_0_ok 2 rfl))))
  (e_Lok (e_st (I := eI) (er_getf (ci := 8) (k := 7) (ix := 48) (N := 17) (C := RX8) (T := TX8) rfl in_X8 (by decide) (in_t1 (List.mem_of_getElem? (i := 76) rfl) rfl) (x_dk dn_124_0_ok 3 rfl))))))
  (e_Tok2
  (e_Tok2
  (e_Lok (e_st (I := eI) (er_aload_n (i := 0) (x_dk dn_124_0_ok 4 rfl))))
  (e_Lok (e_st (I := eI) (er_getf (ci := 8) (k := 0) (ix := 36) (N := 17) (C := RX8) (T := TX8) rfl in_X8 (by decide) (in_t1 (List.mem_of_getElem? (i := 66) rfl) rfl) (x_dk dn_124_0_ok 5 rfl)))))
  (e_Tok2
  (e_Lok (e_st (I := eI) (er_icmpge (off := 58) (tg := 68) (x_dk dn_124_0_ok 6 rfl) (by decide))))
  (e_Tok2
  (e_Lok (e_st (I := eI) (er_aload_n (i := 0) (x_dk dn_124_0_ok 7 rfl))))
  (e_Lok (e_st (I := eI) (er_aload_n (i := 0) (x_dk dn_124_0_ok 8 rfl))))))))
  (e_Tok2
  (e_Tok2
  (e_Tok2
  (e_Lok (e_st (I := eI) (er_getf (ci := 8) (k := 7) (ix := 48) (N := 17) (C := RX8) (T := TX8) rfl in_X8 (by decide) (in_t1 (List.mem_of_getElem? (i := 76) rfl) rfl) (x_dk dn_124_0_ok 9 rfl))))
  (e_Lok (e_ca (I := eI) (q' := n_120) rfl (xr_callV (q' := n_120) (ix := 81) (n := 1) (in_t5 (List.mem_of_getElem? (i := 88) rfl) rfl) good_w (in_t1 (List.mem_of_getElem? (i := 2) rfl) rfl) (in_t5 (List.mem_of_getElem? (i := 85) rfl) rfl) (in_t5 (List.mem_of_getElem? (i := 87) rfl) rfl) (in_s1 (List.mem_of_getElem? (i := 13) rfl)) (by decide +kernel) (by decide +kernel) (by decide +kernel) (x_dk dn_124_0_ok 10 rfl)))))
  (e_Tok2
  (e_Lok (e_st (I := eI) (er_istore_n (i := 2) (x_dk dn_124_0_ok 11 rfl) (by decide +kernel))))
  (e_Tok2
  (e_Lok (e_st (I := eI) (er_iload_n (i := 2) (x_dk dn_124_0_ok 12 rfl))))
  (e_Lok (e_st (I := eI) (er_bipush (n := 35) (z := 35) (v := 35) (x_dk dn_124_0_ok 13 rfl) (by decide) (by decide)))))))
  (e_Tok2
  (e_Tok2
  (e_Lok (e_st (I := eI) (er_icmpne (off := 8) (tg := 33) (x_dk dn_124_0_ok 14 rfl) (by decide))))
  (e_Lok (e_st (I := eI) (er_iconst (n := 1) (z := 1) (v := 1) (x_dk dn_124_0_ok 15 rfl) (by decide) (by decide)))))
  (e_Tok2
  (e_Lok (e_st (I := eI) (er_istore_n (i := 1) (x_dk dn_124_0_ok 16 rfl) (by decide +kernel))))
  (e_Tok2
  (e_Lok (e_st (I := eI) (er_goto (off := 25) (tg := 55) (x_dk dn_124_0_ok 17 rfl) (by decide))))
  (e_Lok (e_st (I := eI) (er_iload_n (i := 2) (x_dk dn_124_0_ok 18 rfl)))))))))
  (e_Tok2
  (e_Tok2
  (e_Tok2
  (e_Tok2
  (e_Lok (e_st (I := eI) (er_bipush (n := 10) (z := 10) (v := 10) (x_dk dn_124_0_ok 19 rfl) (by decide) (by decide))))
  (e_Lok (e_st (I := eI) (er_icmpne (off := 8) (tg := 44) (x_dk dn_124_0_ok 20 rfl) (by decide)))))
  (e_Tok2
  (e_Lok (e_st (I := eI) (er_iconst (n := 0) (z := 0) (v := 0) (x_dk dn_124_0_ok 21 rfl) (by decide) (by decide))))
  (e_Lok (e_st (I := eI) (er_istore_n (i := 1) (x_dk dn_124_0_ok 22 rfl) (by decide +kernel))))))
  (e_Tok2
  (e_Tok2
  (e_Lok (e_st (I := eI) (er_goto (off := 14) (tg := 55) (x_dk dn_124_0_ok 23 rfl) (by decide))))
  (e_Lok (e_st (I := eI) (er_iload_n (i := 2) (x_dk dn_124_0_ok 24 rfl)))))
  (e_Tok2
  (e_Lok (e_st (I := eI) (er_bipush (n := 32) (z := 32) (v := 32) (x_dk dn_124_0_ok 25 rfl) (by decide) (by decide))))
  (e_Tok2
  (e_Lok (e_st (I := eI) (er_icmple (off := 8) (tg := 55) (x_dk dn_124_0_ok 26 rfl) (by decide))))
  (e_Lok (e_st (I := eI) (er_iload_n (i := 1) (x_dk dn_124_0_ok 27 rfl))))))))
  (e_Tok2
  (e_Tok2
  (e_Tok2
  (e_Lok (e_st (I := eI) (er_ifne (off := 4) (tg := 55) (x_dk dn_124_0_ok 28 rfl) (by decide))))
  (e_Lok (e_rt (I := eI) (k := 0) ⟨(x_dk dn_124_0_ok 29 rfl), rfl⟩)))
  (e_Tok2
  (e_Lok (e_st (I := eI) (er_aload_n (i := 0) (x_dk dn_124_0_ok 30 rfl))))
  (e_Tok2
  (e_Lok (e_st (I := eI) (er_dup (x_dk dn_124_0_ok 31 rfl))))
  (e_Lok (e_st (I := eI) (er_getf (ci := 8) (k := 7) (ix := 48) (N := 17) (C := RX8) (T := TX8) rfl in_X8 (by decide) (in_t1 (List.mem_of_getElem? (i := 76) rfl) rfl) (x_dk dn_124_0_ok 32 rfl)))))))
  (e_Tok2
  (e_Tok2
  (e_Lok (e_st (I := eI) (er_iconst (n := 1) (z := 1) (v := 1) (x_dk dn_124_0_ok 33 rfl) (by decide) (by decide))))
  (e_Lok (e_st (I := eI) (er_iadd (x_dk dn_124_0_ok 34 rfl)))))
  (e_Tok2
  (e_Lok (e_st (I := eI) (er_putf (ci := 8) (k := 7) (ix := 48) (N := 17) (fk := 0) (C := RX8) (T := TX8) (ty0 := tyX8) (ty := .int) rfl in_X8 tyX8_ok nmX8 (by decide) (in_t1 (List.mem_of_getElem? (i := 76) rfl) rfl) rfl rfl x_fit_int (x_dk dn_124_0_ok 35 rfl))))
  (e_Tok2
  (e_Lok (e_st (I := eI) (er_goto (off := (-63)) (tg := 2) (x_dk dn_124_0_ok 36 rfl) (by decide))))
  (e_Lok (e_rt (I := eI) (k := 0) ⟨(x_dk dn_124_0_ok 37 rfl), rfl⟩))))))))
def te_124 : Nat → eE := te_124_0
theorem te_124_ok : ∀ pc, e_EOq eft cls elay eI n_124 pc (te_124 pc) := te_124_0_ok
def dn_125_0 : List (Nat × Instr × Nat) := [(0, .aload_n 0, 1), (1, .getfield 48, 3), (4, .aload_n 0, 1), (5, .getfield 36, 3), (8, .if_icmp .ge 30, 3), (11, .aload_n 0, 1), (12, .aload_n 0, 1), (13, .getfield 48, 3), (16, .invokevirtual 81, 3), (19, .invokestatic 92, 3), (22, .ifCond .eq 16, 3), (25, .aload_n 0, 1), (26, .dup, 1), (27, .getfield 48, 3), (30, .iconst 1, 1), (31, .iadd, 1), (32, .putfield 48, 3), (35, .goto (-35), 3), (38, .aload_n 0, 1), (39, .aload_n 0, 1), (40, .getfield 48, 3), (43, .aload_n 0, 1), (44, .getfield 78, 3), (47, .isub, 1), (48, .bipush 24, 2), (50, .if_icmp .le 7, 3), (53, .iconst 3, 1), (54, .goto 7, 3), (57, .aload_n 0, 1), (58, .invokevirtual 102, 3), (61, .putfield 57, 3), (64, .return_, 1)]
set_option maxRecDepth 20000 in
theorem dn_125_0_ok : dn_125_0.all (fun q => decide (decode prog_10_method_9_code q.1 = .ok (q.2.1, q.2.2))) = true := by decide +kernel
def te_125_0 : Nat → eE := (e_T 31 (e_T 13 (e_T 5 (e_T 1 (e_T 0 (e_L 0 (0, ei_load 0 2 1, 0, 0)) (e_L 1 (0, ei_getf eft elay 8 7 4, 0, 0))) (e_T 4 (e_L 4 (0, ei_load 0 2 5, 0, 0)) (e_L 5 (0, ei_getf eft elay 8 0 8, 0, 0)))) (e_T 11 (e_T 8 (e_L 8 (0, ei_if2 3 38 11, 0, 0)) (e_L 11 (0, ei_load 0 2 12, 0, 0))) (e_T 12 (e_L 12 (0, ei_load 0 2 13, 0, 0)) (e_L 13 (0, ei_getf eft elay 8 7 16, 0, 0))))) (e_T 25 (e_T 19 (e_T 16 (e_L 16 (2, e_nof, 120, 2)) (e_L 19 (2, e_nof, 122, 1))) (e_T 22 (e_L 22 (0, ei_if1 0 38 25, 0, 0)) (e_L 25 (0, ei_load 0 2 26, 0, 0)))) (e_T 27 (e_T 26 (e_L 26 (0, ei_stk ef_dup 27, 0, 0)) (e_L 27 (0, ei_getf eft elay 8 7 30, 0, 0))) (e_T 30 (e_L 30 (0, ei_push (0, 1) 31, 0, 0)) (e_L 31 (0, ei_bin eF_add 32, 0, 0)))))) (e_T 47 (e_T 39 (e_T 35 (e_T 32 (e_L 32 (0, ei_putf eft elay 8 7 0 35, 0, 0)) (e_L 35 (0, ei_goto 0, 0, 0))) (e_T 38 (e_L 38 (0, ei_load 0 2 39, 0, 0)) (e_L 39 (0, ei_load 0 2 40, 0, 0)))) (e_T 43 (e_T 40 (e_L 40 (0, ei_getf eft elay 8 7 43, 0, 0)) (e_L 43 (0, ei_load 0 2 44, 0, 0))) (e_T 44 (e_L 44 (0, ei_getf eft elay 8 6 47, 0, 0)) (e_L 47 (0, ei_bin eF_sub 48, 0, 0))))) (e_T 54 (e_T 50 (e_T 48 (e_L 48 (0, ei_push (0, 24) 50, 0, 0)) (e_L 50 (0, ei_if2 5 57 53, 0, 0))) (e_T 53 (e_L 53 (0, ei_push (0, 3) 54, 0, 0)) (e_L 54 (0, ei_goto 61, 0, 0)))) (e_T 58 (e_T 57 (e_L 57 (0, ei_load 0 2 58, 0, 0)) (e_L 58 (2, e_nof, 126, 1))) (e_T 61 (e_L 61 (0, ei_putf eft elay 8 5 0 64, 0, 0)) (e_L 64 (1, e_nof, 0, 0)))))))
set_option maxRecDepth 20000 in
set_option maxHeartbeats 4000000 in
theorem te_125_0_ok : ∀ pc, e_EOq eft cls elay eI n_125 pc (te_125_0 pc) :=
  (e_Tok2
  (e_Tok2
  (e_Tok2
  (e_Tok2
  (e_Tok2
  (e_Lok (e_st (I := eI) (er_aload_n (i := 0) (x_dk dn_125_0_ok 0 rfl))))
  (e_Lok (e_st (I := eI) (er_getf (ci := 8) (k := 7) (ix := 48) (N := 17) (C := RX8) (T := TX8) rfl in_X8 (by decide) (in_t1 (List.mem_of_getElem? (i := 76) rfl) rfl) (x_dk dn_125_0_ok 1 rfl)))))
  (e_Tok2
  (e_Lok (e_st (I := eI) (er_aload_n (i := 0) (x_dk dn_125_0_ok 2 rfl))))
  (e_Lok (e_st (I := eI) (er_getf (ci := 8) (k := 0) (ix := 36) (N := 17) (C := RX8) (T := TX8) rfl in_X8 (by decide) (in_t1 (List.mem_of_getElem? (i := 66) rfl) rfl) (x_dk dn_125_0_ok 3 rfl))))))
  (e_Tok2
  (e_Tok2
  (e_Lok (e_st (I := eI) (er_icmpge (off := 30) (tg := 38) (x_dk dn_125_0_ok 4 rfl) (by decide))))
  (e_Lok (e_st (I := eI) (er_aload_n (i := 0) (x_dk dn_125_0_ok 5 rfl)))))
  (e_Tok2
  (e_Lok (e_st (I := eI) (er_aload_n (i := 0) (x_dk dn_125_0_ok 6 rfl))))
  (e_Lok (e_st (I := eI) (er_getf (ci := 8) (k := 7) (ix := 48) (N := 17) (C := RX8) (T := TX8) rfl in_X8 (by decide) (in_t1 (List.mem_of_getElem? (i := 76) rfl) rfl) (x_dk dn_125_0_ok 7 rfl)))))))
  (e_Tok2
  (e_Tok2
  (e_Tok2
  (e_Lok (e_ca (I := eI) (q' := n_120) rfl (xr_callV (q' := n_120) (ix := 81) (n := 1) (in_t5 (List.mem_of_getElem? (i := 88) rfl) rfl) good_w (in_t1 (List.mem_of_getElem? (i := 2) rfl) rfl) (in_t5 (List.mem_of_getElem? (i := 85) rfl) rfl) (in_t5 (List.mem_of_getElem? (i := 87) rfl) rfl) (in_s1 (List.mem_of_getElem? (i := 13) rfl)) (by decide +kernel) (by decide +kernel) (by decide +kernel) (x_dk dn_125_0_ok 8 rfl))))
  (e_Lok (e_ca (I := eI) (q' := n_122) rfl (xr_callS (q' := n_122) (ix := 92) (n := 1) (in_t5 (List.mem_of_getElem? (i := 105) rfl) rfl) good_w (in_t1 (List.mem_of_getElem? (i := 2) rfl) rfl) (in_t5 (List.mem_of_getElem? (i := 103) rfl) rfl) (in_t5 (List.mem_of_getElem? (i := 104) rfl) rfl) (by decide +kernel) (by decide +kernel) (x_dk dn_125_0_ok 9 rfl)))))
  (e_Tok2
  (e_Lok (e_st (I := eI) (er_ifeq (off := 16) (tg := 38) (x_dk dn_125_0_ok 10 rfl) (by decide))))
  (e_Lok (e_st (I := eI) (er_aload_n (i := 0) (x_dk dn_125_0_ok 11 rfl))))))
  (e_Tok2
  (e_Tok2
  (e_Lok (e_st (I := eI) (er_dup (x_dk dn_125_0_ok 12 rfl))))
  (e_Lok (e_st (I := eI) (er_getf (ci := 8) (k := 7) (ix := 48) (N := 17) (C := RX8) (T := TX8) rfl in_X8 (by decide) (in_t1 (List.mem_of_getElem? (i := 76) rfl) rfl) (x_dk dn_125_0_ok 13 rfl)))))
  (e_Tok2
  (e_Lok (e_st (I := eI) (er_iconst (n := 1) (z := 1) (v := 1) (x_dk dn_125_0_ok 14 rfl) (by decide) (by decide))))
  (e_Lok (e_st (I := eI) (er_iadd (x_dk dn_125_0_ok 15 rfl))))))))
  (e_Tok2
  (e_Tok2
  (e_Tok2
  (e_Tok2
  (e_Lok (e_st (I := eI) (er_putf (ci := 8) (k := 7) (ix := 48) (N := 17) (fk := 0) (C := RX8) (T := TX8) (ty0 := tyX8) (ty := .int) rfl in_X8 tyX8_ok nmX8 (by decide) (in_t1 (List.mem_of_getElem? (i := 76) rfl) rfl) rfl rfl x_fit_int (x_dk dn_125_0_ok 16 rfl))))
  (e_Lok (e_st (I := eI) (er_goto (off := (-35)) (tg := 0) (x_dk dn_125_0_ok 17 rfl) (by decide)))))
  (e_Tok2
  (e_Lok (e_st (I := eI) (er_aload_n (i := 0) (x_dk dn_125_0_ok 18 rfl))))
  (e_Lok (e_st (I := eI) (er_aload_n (i := 0) (x_dk dn_125_0_ok 19 rfl))))))
  (e_Tok2
  (e_Tok2
  (e_Lok (e_st (I := eI) (er_getf (ci := 8) (k := 7) (ix := 48) (N := 17) (C := RX8) (T := TX8) rfl in_X8 (by decide) (in_t1 (List.mem_of_getElem? (i := 76) rfl) rfl) (x_dk dn_125_0_ok 20 rfl))))
  (e_Lok (e_st (I := eI) (er_aload_n (i := 0) (x_dk dn_125_0_ok 21 rfl)))))
  (e_Tok2
  (e_Lok (e_st (I := eI) (er_getf (ci := 8) (k := 6) (ix := 78) (N := 17) (C := RX8) (T := TX8) rfl in_X8 (by decide) (in_t1 (List.mem_of_getElem? (i := 75) rfl) rfl) (x_dk dn_125_0_ok 22 rfl))))
  (e_Lok (e_st (I := eI) (er_isub (x_dk dn_125_0_ok 23 rfl)))))))
  (e_Tok2
  (e_Tok2
  (e_Tok2
  (e_Lok (e_st (I := eI) (er_bipush (n := 24) (z := 24) (v := 24) (x_dk dn_125_0_ok 24 rfl) (by decide) (by decide))))
  (e_Lok (e_st (I := eI) (er_icmple (off := 7) (tg := 57) (x_dk dn_125_0_ok 25 rfl) (by decide)))))
  (e_Tok2
  (e_Lok (e_st (I := eI) (er_iconst (n := 3) (z := 3) (v := 3) (x_dk dn_125_0_ok 26 rfl) (by decide) (by decide))))
  (e_Lok (e_st (I := eI) (er_goto (off := 7) (tg := 61) (x_dk dn_125_0_ok 27 rfl) (by decide))))))
  (e_Tok2
  (e_Tok2
  (e_Lok (e_st (I := eI) (er_aload_n (i := 0) (x_dk dn_125_0_ok 28 rfl))))
  (e_Lok (e_ca (I := eI) (q' := n_126) rfl (xr_callV (q' := n_126) (ix := 102) (n := 0) (in_t5 (List.mem_of_getElem? (i := 113) rfl) rfl) good_w (in_t1 (List.mem_of_getElem? (i := 2) rfl) rfl) (in_t5 (List.mem_of_getElem? (i := 110) rfl) rfl) (in_t5 (List.mem_of_getElem? (i := 112) rfl) rfl) (in_s2 (List.mem_of_getElem? (i := 0) rfl)) (by decide +kernel) (by decide +kernel) (by decide +kernel) (x_dk dn_125_0_ok 29 rfl)))))
  (e_Tok2
  (e_Lok (e_st (I := eI) (er_putf (ci := 8) (k := 5) (ix := 57) (N := 17) (fk := 0) (C := RX8) (T := TX8) (ty0 := tyX8) (ty := .int) rfl in_X8 tyX8_ok nmX8 (by decide) (in_t1 (List.mem_of_getElem? (i := 74) rfl) rfl) rfl rfl x_fit_int (x_dk dn_125_0_ok 30 rfl))))
  (e_Lok (e_rt (I := eI) (k := 0) ⟨(x_dk dn_125_0_ok 31 rfl), rfl⟩)))))))
def te_125 : Nat → eE := te_125_0
theorem te_125_ok : ∀ pc, e_EOq eft cls elay eI n_125 pc (te_125 pc) := te_125_0_ok
def dn_126_0 : List (Nat × Instr × Nat) := [(0, .bipush 21, 2), (2, .istore_n 1, 1), (3, .aload_n 0, 1), (4, .getfield 78, 3), (7, .istore_n 2, 1), (8, .iconst 1, 1), (9, .istore_n 3, 1), (10, .iconst 0, 1), (11, .istore 4, 2), (13, .iload 4, 2), (15, .ldc 106, 2), (17, .invokevirtual 108, 3), (20, .if_icmp .ge 84, 3), (23, .ldc 106, 2), (25, .iload 4, 2), (27, .invokevirtual 112, 3), (30, .istore 5, 2), (32, .iload 5, 2), (34, .bipush 32, 2), (36, .if_icmp .eq 38, 3), (39, .iload_n 3, 1), (40, .ifCond .eq 26, 3), (43, .iload_n 2, 1), (44, .aload_n 0, 1), (45, .getfield 48, 3), (48, .if_icmp .ge 18, 3), (51, .aload_n 0, 1), (52, .getfield 25, 3), (55, .iload_n 2, 1), (56, .baload, 1), (57, .iload 5, 2), (59, .if_icmp .ne 7, 3), (62, .iconst 1, 1), (63, .goto 4, 3), (66, .iconst 0, 1), (67, .istore_n 3, 1), (68, .iinc 2 1, 3), (71, .goto 27, 3), (74, .iload_n 3, 1), (75, .ifCond .eq 13, 3), (78, .iload_n 2, 1), (79, .aload_n 0, 1), (80, .getfield 48, 3), (83, .if_icmp .ne 5, 3), (86, .iload_n 1, 1), (87, .ireturn, 1), (88, .iinc 1 1, 3), (91, .aload_n 0, 1), (92, .getfield 78, 3), (95, .istore_n 2, 1), (96, .iconst 1, 1), (97, .istore_n 3, 1), (98, .iinc 4 1, 3), (101, .goto (-88), 3), (104, .iconst 1, 1), (105, .ireturn, 1)]
set_option maxRecDepth 20000 in
theorem dn_126_0_ok : dn_126_0.all (fun q => decide (decode prog_10_method_10_code q.1 = .ok (q.2.1, q.2.2))) = true := by decide +kernel
def te_126_0 : Nat → eE := (e_T 30 (e_T 8 (e_T 3 (e_T 0 (e_L 0 (0, ei_push (0, 21) 2, 0, 0)) (e_T 2 (e_L 2 (0, ei_stor 1 0 3, 0, 0)) (e_L 3 (0, ei_load 0 2 4, 0, 0)))) (e_T 4 (e_L 4 (0, ei_getf eft elay 8 6 7, 0, 0)) (e_T 7 (e_L 7 (0, ei_stor 2 0 8, 0, 0)) (e_L 8 (0, ei_push (0, 1) 9, 0, 0))))) (e_T 11 (e_T 9 (e_L 9 (0, ei_stor 3 0 10, 0, 0)) (e_T 10 (e_L 10 (0, ei_push (0, 0) 11, 0, 0)) (e_L 11 (0, ei_stor 4 0 13, 0, 0)))) (e_T 20 (e_T 13 (e_L 13 (0, ei_load 4 0 15, 0, 0)) (e_L 20 (0, ei_if2 3 104 23, 0, 0))) (e_T 25 (e_L 25 (0, ei_load 4 0 27, 0, 0)) (e_L 30 (0, ei_stor 5 0 32, 0, 0)))))) (e_T 43 (e_T 36 (e_T 32 (e_L 32 (0, ei_load 5 0 34, 0, 0)) (e_T 34 (e_L 34 (0, ei_push (0, 32) 36, 0, 0)) (e_L 36 (0, ei_if2 0 74 39, 0, 0)))) (e_T 39 (e_L 39 (0, ei_load 3 0 40, 0, 0)) (e_T 40 (e_L 40 (0, ei_if1 0 66 43, 0, 0)) (e_L 43 (0, ei_load 2 0 44, 0, 0))))) (e_T 48 (e_T 44 (e_L 44 (0, ei_load 0 2 45, 0, 0)) (e_T 45 (e_L 45 (0, ei_getf eft elay 8 7 48, 0, 0)) (e_L 48 (0, ei_if2 3 66 51, 0, 0)))) (e_T 52 (e_T 51 (e_L 51 (0, ei_load 0 2 52, 0, 0)) (e_L 52 (0, ei_getf eft elay 8 4 55, 0, 0))) (e_T 55 (e_L 55 (0, ei_load 2 0 56, 0, 0)) (e_L 56 (0, ei_ald elay true 57, 0, 0)))))))
set_option maxRecDepth 20000 in
set_option maxHeartbeats 4000000 in
theorem te_126_0_ok : ∀ pc, e_EOq eft cls elay eI n_126 pc (te_126_0 pc) :=
  (e_Tok2
  (e_Tok2
  (e_Tok2
  (e_Tok2
  (e_Lok (e_st (I := eI) (er_bipush (n := 21) (z := 21) (v := 21) (x_dk dn_126_0_ok 0 rfl) (by decide) (by decide))))
  (e_Tok2
  (e_Lok (e_st (I := eI) (er_istore_n (i := 1) (x_dk dn_126_0_ok 1 rfl) (by decide +kernel))))
  (e_Lok (e_st (I := eI) (er_aload_n (i := 0) (x_dk dn_126_0_ok 2 rfl))))))
  (e_Tok2
  (e_Lok (e_st (I := eI) (er_getf (ci := 8) (k := 6) (ix := 78) (N := 17) (C := RX8) (T := TX8) rfl in_X8 (by decide) (in_t1 (List.mem_of_getElem? (i := 75) rfl) rfl) (x_dk dn_126_0_ok 3 rfl))))
  (e_Tok2
  (e_Lok (e_st (I := eI) (er_istore_n (i := 2) (x_dk dn_126_0_ok 4 rfl) (by decide +kernel))))
  (e_Lok (e_st (I := eI) (er_iconst (n := 1) (z := 1) (v := 1) (x_dk dn_126_0_ok 5 rfl) (by decide) (by decide)))))))
  (e_Tok2
  (e_Tok2
  (e_Lok (e_st (I := eI) (er_istore_n (i := 3) (x_dk dn_126_0_ok 6 rfl) (by decide +kernel))))
  (e_Tok2
  (e_Lok (e_st (I := eI) (er_iconst (n := 0) (z := 0) (v := 0) (x_dk dn_126_0_ok 7 rfl) (by decide) (by decide))))
  (e_Lok (e_st (I := eI) (er_istore (i := 4) (x_dk dn_126_0_ok 8 rfl) (by decide +kernel))))))
  (e_Tok2
  (e_Tok2
  (e_Lok (e_st (I := eI) (er_iload (i := 4) (x_dk dn_126_0_ok 9 rfl))))
  (e_Lok (e_st (I := eI) (er_icmpge (off := 84) (tg := 104) (x_dk dn_126_0_ok 12 rfl) (by decide)))))
  (e_Tok2
  (e_Lok (e_st (I := eI) (er_iload (i := 4) (x_dk dn_126_0_ok 14 rfl))))
  (e_Lok (e_st (I := eI) (er_istore (i := 5) (x_dk dn_126_0_ok 16 rfl) (by decide +kernel))))))))
  (e_Tok2
  (e_Tok2
  (e_Tok2
  (e_Lok (e_st (I := eI) (er_iload (i := 5) (x_dk dn_126_0_ok 17 rfl))))
  (e_Tok2
  (e_Lok (e_st (I := eI) (er_bipush (n := 32) (z := 32) (v := 32) (x_dk dn_126_0_ok 18 rfl) (by decide) (by decide))))
  (e_Lok (e_st (I := eI) (er_icmpeq (off := 38) (tg := 74) (x_dk dn_126_0_ok 19 rfl) (by decide))))))
  (e_Tok2
  (e_Lok (e_st (I := eI) (er_iload_n (i := 3) (x_dk dn_126_0_ok 20 rfl))))
  (e_Tok2
  (e_Lok (e_st (I := eI) (er_ifeq (off := 26) (tg := 66) (x_dk dn_126_0_ok 21 rfl) (by decide))))
  (e_Lok (e_st (I := eI) (er_iload_n (i := 2) (x_dk dn_126_0_ok 22 rfl)))))))
  (e_Tok2
  (e_Tok2
  (e_Lok (e_st (I := eI) (er_aload_n (i := 0) (x_dk dn_126_0_ok 23 rfl))))
  (e_Tok2
  (e_Lok (e_st (I := eI) (er_getf (ci := 8) (k := 7) (ix := 48) (N := 17) (C := RX8) (T := TX8) rfl in_X8 (by decide) (in_t1 (List.mem_of_getElem? (i := 76) rfl) rfl) (x_dk dn_126_0_ok 24 rfl))))
  (e_Lok (e_st (I := eI) (er_icmpge (off := 18) (tg := 66) (x_dk dn_126_0_ok 25 rfl) (by decide))))))
  (e_Tok2
  (e_Tok2
  (e_Lok (e_st (I := eI) (er_aload_n (i := 0) (x_dk dn_126_0_ok 26 rfl))))
  (e_Lok (e_st (I := eI) (er_getf (ci := 8) (k := 4) (ix := 25) (N := 17) (C := RX8) (T := TX8) rfl in_X8 (by decide) (in_t1 (List.mem_of_getElem? (i := 73) rfl) rfl) (x_dk dn_126_0_ok 27 rfl)))))
  (e_Tok2
  (e_Lok (e_st (I := eI) (er_iload_n (i := 2) (x_dk dn_126_0_ok 28 rfl))))
  (e_Lok (e_st (I := eI) (er_baload (x_dk dn_126_0_ok 29 rfl)))))))))
def te_126_26 : Nat → eE := (e_T 80 (e_T 67 (e_T 62 (e_T 57 (e_L 57 (0, ei_load 5 0 59, 0, 0)) (e_T 59 (e_L 59 (0, ei_if2 1 66 62, 0, 0)) (e_L 62 (0, ei_push (0, 1) 63, 0, 0)))) (e_T 63 (e_L 63 (0, ei_goto 67, 0, 0)) (e_T 66 (e_L 66 (0, ei_push (0, 0) 67, 0, 0)) (e_L 67 (0, ei_stor 3 0 68, 0, 0))))) (e_T 74 (e_T 68 (e_L 68 (0, ei_inc 2 1 71, 0, 0)) (e_T 71 (e_L 71 (0, ei_goto 98, 0, 0)) (e_L 74 (0, ei_load 3 0 75, 0, 0)))) (e_T 78 (e_T 75 (e_L 75 (0, ei_if1 0 88 78, 0, 0)) (e_L 78 (0, ei_load 2 0 79, 0, 0))) (e_T 79 (e_L 79 (0, ei_load 0 2 80, 0, 0)) (e_L 80 (0, ei_getf eft elay 8 7 83, 0, 0)))))) (e_T 92 (e_T 87 (e_T 83 (e_L 83 (0, ei_if2 1 88 86, 0, 0)) (e_T 86 (e_L 86 (0, ei_load 1 0 87, 0, 0)) (e_L 87 (1, e_nof, 1, 0)))) (e_T 88 (e_L 88 (0, ei_inc 1 1 91, 0, 0)) (e_T 91 (e_L 91 (0, ei_load 0 2 92, 0, 0)) (e_L 92 (0, ei_getf eft elay 8 6 95, 0, 0))))) (e_T 97 (e_T 95 (e_L 95 (0, ei_stor 2 0 96, 0, 0)) (e_T 96 (e_L 96 (0, ei_push (0, 1) 97, 0, 0)) (e_L 97 (0, ei_stor 3 0 98, 0, 0)))) (e_T 101 (e_T 98 (e_L 98 (0, ei_inc 4 1 101, 0, 0)) (e_L 101 (0, ei_goto 13, 0, 0))) (e_T 104 (e_L 104 (0, ei_push (0, 1) 105, 0, 0)) (e_L 105 (1, e_nof, 1, 0)))))))
set_option maxRecDepth 20000 in
set_option maxHeartbeats 4000000 in
theorem te_126_26_ok : ∀ pc, e_EOq eft cls elay eI n_126 pc (te_126_26 pc) :=
  (e_Tok2
  (e_Tok2
  (e_Tok2
  (e_Tok2
  (e_Lok (e_st (I := eI) (er_iload (i := 5) (x_dk dn_126_0_ok 30 rfl))))
  (e_Tok2
  (e_Lok (e_st (I := eI) (er_icmpne (off := 7) (tg := 66) (x_dk dn_126_0_ok 31 rfl) (by decide))))
  (e_Lok (e_st (I := eI) (er_iconst (n := 1) (z := 1) (v := 1) (x_dk dn_126_0_ok 32 rfl) (by decide) (by decide))))))
  (e_Tok2
  (e_Lok (e_st (I := eI) (er_goto (off := 4) (tg := 67) (x_dk dn_126_0_ok 33 rfl) (by decide))))
  (e_Tok2
  (e_Lok (e_st (I := eI) (er_iconst (n := 0) (z := 0) (v := 0) (x_dk dn_126_0_ok 34 rfl) (by decide) (by decide))))
  (e_Lok (e_st (I := eI) (er_istore_n (i := 3) (x_dk dn_126_0_ok 35 rfl) (by decide +kernel)))))))
  (e_Tok2
  (e_Tok2
  (e_Lok (e_st (I := eI) (er_iinc (i := 2) (n := 1) (x_dk dn_126_0_ok 36 rfl) (by decide +kernel) (by decide))))
  (e_Tok2
  (e_Lok (e_st (I := eI) (er_goto (off := 27) (tg := 98) (x_dk dn_126_0_ok 37 rfl) (by decide))))
  (e_Lok (e_st (I := eI) (er_iload_n (i := 3) (x_dk dn_126_0_ok 38 rfl))))))
  (e_Tok2
  (e_Tok2
  (e_Lok (e_st (I := eI) (er_ifeq (off := 13) (tg := 88) (x_dk dn_126_0_ok 39 rfl) (by decide))))
  (e_Lok (e_st (I := eI) (er_iload_n (i := 2) (x_dk dn_126_0_ok 40 rfl)))))
  (e_Tok2
  (e_Lok (e_st (I := eI) (er_aload_n (i := 0) (x_dk dn_126_0_ok 41 rfl))))
  (e_Lok (e_st (I := eI) (er_getf (ci := 8) (k := 7) (ix := 48) (N := 17) (C := RX8) (T := TX8) rfl in_X8 (by decide) (in_t1 (List.mem_of_getElem? (i := 76) rfl) rfl) (x_dk dn_126_0_ok 42 rfl))))))))
  (e_Tok2
  (e_Tok2
  (e_Tok2
  (e_Lok (e_st (I := eI) (er_icmpne (off := 5) (tg := 88) (x_dk dn_126_0_ok 43 rfl) (by decide))))
  (e_Tok2
  (e_Lok (e_st (I := eI) (er_iload_n (i := 1) (x_dk dn_126_0_ok 44 rfl))))
  (e_Lok (e_rt (I := eI) (k := 1) ⟨(x_dk dn_126_0_ok 45 rfl), rfl⟩))))
  (e_Tok2
  (e_Lok (e_st (I := eI) (er_iinc (i := 1) (n := 1) (x_dk dn_126_0_ok 46 rfl) (by decide +kernel) (by decide))))
  (e_Tok2
  (e_Lok (e_st (I := eI) (er_aload_n (i := 0) (x_dk dn_126_0_ok 47 rfl))))
  (e_Lok (e_st (I := eI) (er_getf (ci := 8) (k := 6) (ix := 78) (N := 17) (C := RX8) (T := TX8) rfl in_X8 (by decide) (in_t1 (List.mem_of_getElem? (i := 75) rfl) rfl) (x_dk dn_126_0_ok 48 rfl)))))))
  (e_Tok2
  (e_Tok2
  (e_Lok (e_st (I := eI) (er_istore_n (i := 2) (x_dk dn_126_0_ok 49 rfl) (by decide +kernel))))
  (e_Tok2
  (e_Lok (e_st (I := eI) (er_iconst (n := 1) (z := 1) (v := 1) (x_dk dn_126_0_ok 50 rfl) (by decide) (by decide))))
  (e_Lok (e_st (I := eI) (er_istore_n (i := 3) (x_dk dn_126_0_ok 51 rfl) (by decide +kernel))))))
  (e_Tok2
  (e_Tok2
  (e_Lok (e_st (I := eI) (er_iinc (i := 4) (n := 1) (x_dk dn_126_0_ok 52 rfl) (by decide +kernel) (by decide))))
  (e_Lok (e_st (I := eI) (er_goto (off := (-88)) (tg := 13) (x_dk dn_126_0_ok 53 rfl) (by decide)))))
  (e_Tok2
  (e_Lok (e_st (I := eI) (er_iconst (n := 1) (z := 1) (v := 1) (x_dk dn_126_0_ok 54 rfl) (by decide) (by decide))))
  (e_Lok (e_rt (I := eI) (k := 1) ⟨(x_dk dn_126_0_ok 55 rfl), rfl⟩)))))))
def te_126 : Nat → eE := (e_T 56 te_126_0 te_126_26)
theorem te_126_ok : ∀ pc, e_EOq eft cls elay eI n_126 pc (te_126 pc) := (e_Tok2 (te_126_0_ok) (te_126_26_ok))
def dn_127_0 : List (Nat × Instr × Nat) := [(0, .lconst 0, 1), (1, .lstore_n 1, 1), (2, .aload_n 0, 1), (3, .getfield 48, 3), (6, .aload_n 0, 1), (7, .getfield 36, 3), (10, .if_icmp .ge 56, 3), (13, .aload_n 0, 1), (14, .aload_n 0, 1), (15, .getfield 48, 3), (18, .invokevirtual 81, 3), (21, .invokestatic 85, 3), (24, .ifCond .eq 42, 3), (27, .lload_n 1, 1), (28, .ldc2_w 116, 3), (31, .lmul, 1), (32, .aload_n 0, 1), (33, .aload_n 0, 1), (34, .getfield 48, 3), (37, .invokevirtual 81, 3), (40, .i2l, 1), (41, .ladd, 1), (42, .ldc2_w 118, 3), (45, .lsub, 1), (46, .ldc2_w 120, 3), (49, .invokestatic 122, 3), (52, .lstore_n 1, 1), (53, .aload_n 0, 1), (54, .dup, 1), (55, .getfield 48, 3), (58, .iconst 1, 1), (59, .iadd, 1), (60, .putfield 48, 3), (63, .goto (-61), 3), (66, .aload_n 0, 1), (67, .lload_n 1, 1), (68, .ldc2_w 130, 3), (71, .lcmp, 1), (72, .ifCond .le 7, 3), (75, .iconst 3, 1), (76, .goto 4, 3), (79, .iconst 2, 1), (80, .putfield 57, 3), (83, .aload_n 0, 1), (84, .lload_n 1, 1), (85, .l2i, 1), (86, .putfield 132, 3), (89, .return_, 1)]
set_option maxRecDepth 20000 in
theorem dn_127_0_ok : dn_127_0.all (fun q => decide (decode prog_10_method_11_code q.1 = .ok (q.2.1, q.2.2))) = true := by decide +kernel
def te_127_0 : Nat → eE := (e_T 18 (e_T 6 (e_T 1 (e_T 0 (e_L 0 (0, ei_push (4, 0) 1, 0, 0)) (e_L 1 (0, ei_stor 1 1 2, 0, 0))) (e_T 2 (e_L 2 (0, ei_load 0 2 3, 0, 0)) (e_T 3 (e_L 3 (0, ei_getf eft elay 8 7 6, 0, 0)) (e_L 6 (0, ei_load 0 2 7, 0, 0))))) (e_T 13 (e_T 7 (e_L 7 (0, ei_getf eft elay 8 0 10, 0, 0)) (e_T 10 (e_L 10 (0, ei_if2 3 66 13, 0, 0)) (e_L 13 (0, ei_load 0 2 14, 0, 0)))) (e_T 14 (e_L 14 (0, ei_load 0 2 15, 0, 0)) (e_T 15 (e_L 15 (0, ei_getf eft elay 8 7 18, 0, 0)) (e_L 18 (2, e_nof, 120, 2)))))) (e_T 32 (e_T 27 (e_T 21 (e_L 21 (2, e_nof, 121, 1)) (e_T 24 (e_L 24 (0, ei_if1 0 66 27, 0, 0)) (e_L 27 (0, ei_load 1 1 28, 0, 0)))) (e_T 28 (e_L 28 (0, ei_push (4, 10) 31, 0, 0)) (e_T 31 (e_L 31 (0, ei_binL eG_mul 32, 0, 0)) (e_L 32 (0, ei_load 0 2 33, 0, 0))))) (e_T 37 (e_T 33 (e_L 33 (0, ei_load 0 2 34, 0, 0)) (e_T 34 (e_L 34 (0, ei_getf eft elay 8 7 37, 0, 0)) (e_L 37 (2, e_nof, 120, 2)))) (e_T 40 (e_L 40 (0, ei_un (fun x => (4, x)) 41, 0, 0)) (e_T 41 (e_L 41 (0, ei_binL eG_add 42, 0, 0)) (e_L 42 (0, ei_push (4, 48) 45, 0, 0)))))))
set_option maxRecDepth 20000 in
set_option maxHeartbeats 4000000 in
theorem te_127_0_ok : ∀ pc, e_EOq eft cls elay eI n_127 pc (te_127_0 pc) :=
  (e_Tok2
  (e_Tok2
  (e_Tok2
  (e_Tok2
  (e_Lok (e_st (I := eI) (er_lconst (n := 0) (z := 0) (v := 0) (x_dk dn_127_0_ok 0 rfl) (by decide) (by decide))))
  (e_Lok (e_st (I := eI) (er_lstore_n (i := 1) (x_dk dn_127_0_ok 1 rfl) (by decide +kernel)))))
  (e_Tok2
  (e_Lok (e_st (I := eI) (er_aload_n (i := 0) (x_dk dn_127_0_ok 2 rfl))))
  (e_Tok2
  (e_Lok (e_st (I := eI) (er_getf (ci := 8) (k := 7) (ix := 48) (N := 17) (C := RX8) (T := TX8) rfl in_X8 (by decide) (in_t1 (List.mem_of_getElem? (i := 76) rfl) rfl) (x_dk dn_127_0_ok 3 rfl))))
  (e_Lok (e_st (I := eI) (er_aload_n (i := 0) (x_dk dn_127_0_ok 4 rfl)))))))
  (e_Tok2
  (e_Tok2
  (e_Lok (e_st (I := eI) (er_getf (ci := 8) (k := 0) (ix := 36) (N := 17) (C := RX8) (T := TX8) rfl in_X8 (by decide) (in_t1 (List.mem_of_getElem? (i := 66) rfl) rfl) (x_dk dn_127_0_ok 5 rfl))))
  (e_Tok2
  (e_Lok (e_st (I := eI) (er_icmpge (off := 56) (tg := 66) (x_dk dn_127_0_ok 6 rfl) (by decide))))
  (e_Lok (e_st (I := eI) (er_aload_n (i := 0) (x_dk dn_127_0_ok 7 rfl))))))
  (e_Tok2
  (e_Lok (e_st (I := eI) (er_aload_n (i := 0) (x_dk dn_127_0_ok 8 rfl))))
  (e_Tok2
  (e_Lok (e_st (I := eI) (er_getf (ci := 8) (k := 7) (ix := 48) (N := 17) (C := RX8) (T := TX8) rfl in_X8 (by decide) (in_t1 (List.mem_of_getElem? (i := 76) rfl) rfl) (x_dk dn_127_0_ok 9 rfl))))
  (e_Lok (e_ca (I := eI) (q' := n_120) rfl (xr_callV (q' := n_120) (ix := 81) (n := 1) (in_t5 (List.mem_of_getElem? (i := 88) rfl) rfl) good_w (in_t1 (List.mem_of_getElem? (i := 2) rfl) rfl) (in_t5 (List.mem_of_getElem? (i := 85) rfl) rfl) (in_t5 (List.mem_of_getElem? (i := 87) rfl) rfl) (in_s1 (List.mem_of_getElem? (i := 13) rfl)) (by decide +kernel) (by decide +kernel) (by decide +kernel) (x_dk dn_127_0_ok 10 rfl))))))))
  (e_Tok2
  (e_Tok2
  (e_Tok2
  (e_Lok (e_ca (I := eI) (q' := n_121) rfl (xr_callS (q' := n_121) (ix := 85) (n := 1) (in_t5 (List.mem_of_getElem? (i := 91) rfl) rfl) good_w (in_t1 (List.mem_of_getElem? (i := 2) rfl) rfl) (in_t5 (List.mem_of_getElem? (i := 89) rfl) rfl) (in_t5 (List.mem_of_getElem? (i := 90) rfl) rfl) (by decide +kernel) (by decide +kernel) (x_dk dn_127_0_ok 11 rfl))))
  (e_Tok2
  (e_Lok (e_st (I := eI) (er_ifeq (off := 42) (tg := 66) (x_dk dn_127_0_ok 12 rfl) (by decide))))
  (e_Lok (e_st (I := eI) (er_lload_n (i := 1) (x_dk dn_127_0_ok 13 rfl))))))
  (e_Tok2
  (e_Lok (e_st (I := eI) (er_ldc2 (ix := 116) (z := 10) (v := 10) (x_dk dn_127_0_ok 14 rfl) (in_t5 (List.mem_of_getElem? (i := 96) rfl) rfl) (by decide))))
  (e_Tok2
  (e_Lok (e_st (I := eI) (er_lmul (x_dk dn_127_0_ok 15 rfl))))
  (e_Lok (e_st (I := eI) (er_aload_n (i := 0) (x_dk dn_127_0_ok 16 rfl)))))))
  (e_Tok2
  (e_Tok2
  (e_Lok (e_st (I := eI) (er_aload_n (i := 0) (x_dk dn_127_0_ok 17 rfl))))
  (e_Tok2
  (e_Lok (e_st (I := eI) (er_getf (ci := 8) (k := 7) (ix := 48) (N := 17) (C := RX8) (T := TX8) rfl in_X8 (by decide) (in_t1 (List.mem_of_getElem? (i := 76) rfl) rfl) (x_dk dn_127_0_ok 18 rfl))))
  (e_Lok (e_ca (I := eI) (q' := n_120) rfl (xr_callV (q' := n_120) (ix := 81) (n := 1) (in_t5 (List.mem_of_getElem? (i := 88) rfl) rfl) good_w (in_t1 (List.mem_of_getElem? (i := 2) rfl) rfl) (in_t5 (List.mem_of_getElem? (i := 85) rfl) rfl) (in_t5 (List.mem_of_getElem? (i := 87) rfl) rfl) (in_s1 (List.mem_of_getElem? (i := 13) rfl)) (by decide +kernel) (by decide +kernel) (by decide +kernel) (x_dk dn_127_0_ok 19 rfl))))))
  (e_Tok2
  (e_Lok (e_st (I := eI) (er_i2l (x_dk dn_127_0_ok 20 rfl))))
  (e_Tok2
  (e_Lok (e_st (I := eI) (er_ladd (x_dk dn_127_0_ok 21 rfl))))
  (e_Lok (e_st (I := eI) (er_ldc2 (ix := 118) (z := 48) (v := 48) (x_dk dn_127_0_ok 22 rfl) (in_t5 (List.mem_of_getElem? (i := 97) rfl) rfl) (by decide)))))))))
def te_127_23 : Nat → eE := (e_T 67 (e_T 55 (e_T 52 (e_T 45 (e_L 45 (0, ei_binL eG_sub 46, 0, 0)) (e_T 46 (e_L 46 (0, ei_push (4, 4294967296) 49, 0, 0)) (e_L 52 (0, ei_stor 1 1 53, 0, 0)))) (e_T 53 (e_L 53 (0, ei_load 0 2 54, 0, 0)) (e_T 54 (e_L 54 (0, ei_stk ef_dup 55, 0, 0)) (e_L 55 (0, ei_getf eft elay 8 7 58, 0, 0))))) (e_T 60 (e_T 58 (e_L 58 (0, ei_push (0, 1) 59, 0, 0)) (e_T 59 (e_L 59 (0, ei_bin eF_add 60, 0, 0)) (e_L 60 (0, ei_putf eft elay 8 7 0 63, 0, 0)))) (e_T 63 (e_L 63 (0, ei_goto 2, 0, 0)) (e_T 66 (e_L 66 (0, ei_load 0 2 67, 0, 0)) (e_L 67 (0, ei_load 1 1 68, 0, 0)))))) (e_T 79 (e_T 72 (e_T 68 (e_L 68 (0, ei_push (4, 2147483647) 71, 0, 0)) (e_T 71 (e_L 71 (0, ei_binL eG_cmp 72, 0, 0)) (e_L 72 (0, ei_if1 5 79 75, 0, 0)))) (e_T 75 (e_L 75 (0, ei_push (0, 3) 76, 0, 0)) (e_T 76 (e_L 76 (0, ei_goto 80, 0, 0)) (e_L 79 (0, ei_push (0, 2) 80, 0, 0))))) (e_T 84 (e_T 80 (e_L 80 (0, ei_putf eft elay 8 5 0 83, 0, 0)) (e_T 83 (e_L 83 (0, ei_load 0 2 84, 0, 0)) (e_L 84 (0, ei_load 1 1 85, 0, 0)))) (e_T 85 (e_L 85 (0, ei_unL (fun x => (0, e32 x)) 86, 0, 0)) (e_T 86 (e_L 86 (0, ei_putf eft elay 8 8 0 89, 0, 0)) (e_L 89 (1, e_nof, 0, 0)))))))
set_option maxRecDepth 20000 in
set_option maxHeartbeats 4000000 in
theorem te_127_23_ok : ∀ pc, e_EOq eft cls elay eI n_127 pc (te_127_23 pc) :=
  (e_Tok2
  (e_Tok2
  (e_Tok2
  (e_Tok2
  (e_Lok (e_st (I := eI) (er_lsub (x_dk dn_127_0_ok 23 rfl))))
  (e_Tok2
  (e_Lok (e_st (I := eI) (er_ldc2 (ix := 120) (z := 4294967296) (v := 4294967296) (x_dk dn_127_0_ok 24 rfl) (in_t5 (List.mem_of_getElem? (i := 98) rfl) rfl) (by decide))))
  (e_Lok (e_st (I := eI) (er_lstore_n (i := 1) (x_dk dn_127_0_ok 26 rfl) (by decide +kernel))))))
  (e_Tok2
  (e_Lok (e_st (I := eI) (er_aload_n (i := 0) (x_dk dn_127_0_ok 27 rfl))))
  (e_Tok2
  (e_Lok (e_st (I := eI) (er_dup (x_dk dn_127_0_ok 28 rfl))))
  (e_Lok (e_st (I := eI) (er_getf (ci := 8) (k := 7) (ix := 48) (N := 17) (C := RX8) (T := TX8) rfl in_X8 (by decide) (in_t1 (List.mem_of_getElem? (i := 76) rfl) rfl) (x_dk dn_127_0_ok 29 rfl)))))))
  (e_Tok2
  (e_Tok2
  (e_Lok (e_st (I := eI) (er_iconst (n := 1) (z := 1) (v := 1) (x_dk dn_127_0_ok 30 rfl) (by decide) (by decide))))
  (e_Tok2
  (e_Lok (e_st (I := eI) (er_iadd (x_dk dn_127_0_ok 31 rfl))))
  (e_Lok (e_st (I := eI) (er_putf (ci := 8) (k := 7) (ix := 48) (N := 17) (fk := 0) (C := RX8) (T := TX8) (ty0 := tyX8) (ty := .int) rfl in_X8 tyX8_ok nmX8 (by decide) (in_t1 (List.mem_of_getElem? (i := 76) rfl) rfl) rfl rfl x_fit_int (x_dk dn_127_0_ok 32 rfl))))))
  (e_Tok2
  (e_Lok (e_st (I := eI) (er_goto (off := (-61)) (tg := 2) (x_dk dn_127_0_ok 33 rfl) (by decide))))
  (e_Tok2
  (e_Lok (e_st (I := eI) (er_aload_n (i := 0) (x_dk dn_127_0_ok 34 rfl))))
  (e_Lok (e_st (I := eI) (er_lload_n (i := 1) (x_dk dn_127_0_ok 35 rfl))))))))
  (e_Tok2
  (e_Tok2
  (e_Tok2
  (e_Lok (e_st (I := eI) (er_ldc2 (ix := 130) (z := 2147483647) (v := 2147483647) (x_dk dn_127_0_ok 36 rfl) (in_t5 (List.mem_of_getElem? (i := 102) rfl) rfl) (by decide))))
  (e_Tok2
  (e_Lok (e_st (I := eI) (er_lcmp (x_dk dn_127_0_ok 37 rfl))))
  (e_Lok (e_st (I := eI) (er_ifle (off := 7) (tg := 79) (x_dk dn_127_0_ok 38 rfl) (by decide))))))
  (e_Tok2
  (e_Lok (e_st (I := eI) (er_iconst (n := 3) (z := 3) (v := 3) (x_dk dn_127_0_ok 39 rfl) (by decide) (by decide))))
  (e_Tok2
  (e_Lok (e_st (I := eI) (er_goto (off := 4) (tg := 80) (x_dk dn_127_0_ok 40 rfl) (by decide))))
  (e_Lok (e_st (I := eI) (er_iconst (n := 2) (z := 2) (v := 2) (x_dk dn_127_0_ok 41 rfl) (by decide) (by decide)))))))
  (e_Tok2
  (e_Tok2
  (e_Lok (e_st (I := eI) (er_putf (ci := 8) (k := 5) (ix := 57) (N := 17) (fk := 0) (C := RX8) (T := TX8) (ty0 := tyX8) (ty := .int) rfl in_X8 tyX8_ok nmX8 (by decide) (in_t1 (List.mem_of_getElem? (i := 74) rfl) rfl) rfl rfl x_fit_int (x_dk dn_127_0_ok 42 rfl))))
  (e_Tok2
  (e_Lok (e_st (I := eI) (er_aload_n (i := 0) (x_dk dn_127_0_ok 43 rfl))))
  (e_Lok (e_st (I := eI) (er_lload_n (i := 1) (x_dk dn_127_0_ok 44 rfl))))))
  (e_Tok2
  (e_Lok (e_st (I := eI) (er_l2i (x_dk dn_127_0_ok 45 rfl))))
  (e_Tok2
  (e_Lok (e_st (I := eI) (er_putf (ci := 8) (k := 8) (ix := 132) (N := 17) (fk := 0) (C := RX8) (T := TX8) (ty0 := tyX8) (ty := .int) rfl in_X8 tyX8_ok nmX8 (by decide) (in_t1 (List.mem_of_getElem? (i := 77) rfl) rfl) rfl rfl x_fit_int (x_dk dn_127_0_ok 46 rfl))))
  (e_Lok (e_rt (I := eI) (k := 0) ⟨(x_dk dn_127_0_ok 47 rfl), rfl⟩)))))))
def te_127 : Nat → eE := (e_T 42 te_127_0 te_127_23)
theorem te_127_ok : ∀ pc, e_EOq eft cls elay eI n_127 pc (te_127 pc) := (e_Tok2 (te_127_0_ok) (te_127_23_ok))
def dn_128_0 : List (Nat × Instr × Nat) := [(0, .aload_n 0, 1), (1, .dup, 1), (2, .getfield 48, 3), (5, .iconst 1, 1), (6, .iadd, 1), (7, .putfield 48, 3), (10, .ldc 135, 2), (12, .iload_n 1, 1), (13, .i2c, 1), (14, .invokevirtual 137, 3), (17, .istore_n 2, 1), (18, .aload_n 0, 1), (19, .iload_n 2, 1), (20, .ifCond .ge 7, 3), (23, .iconst 3, 1), (24, .goto 7, 3), (27, .bipush 8, 2), (29, .iload_n 2, 1), (30, .iadd, 1), (31, .putfield 57, 3), (34, .aload_n 0, 1), (35, .aload_n 0, 1), (36, .getfield 48, 3), (39, .invokevirtual 81, 3), (42, .bipush 61, 2), (44, .if_icmp .eq 4, 3), (47, .return_, 1), (48, .iload_n 1, 1), (49, .bipush 33, 2), (51, .if_icmp .ne 11, 3), (54, .aload_n 0, 1), (55, .iconst 5, 1), (56, .putfield 57, 3), (59, .goto 34, 3), (62, .iload_n 1, 1), (63, .bipush 60, 2), (65, .if_icmp .ne 12, 3), (68, .aload_n 0, 1), (69, .bipush 6, 2), (71, .putfield 57, 3), (74, .goto 19, 3), (77, .iload_n 1, 1), (78, .bipush 62, 2), (80, .if_icmp .ne 12, 3), (83, .aload_n 0, 1), (84, .bipush 7, 2), (86, .putfield 57, 3), (89, .goto 4, 3), (92, .return_, 1), (93, .aload_n 0, 1), (94, .dup, 1), (95, .getfield 48, 3), (98, .iconst 1, 1), (99, .iadd, 1), (100, .putfield 48, 3), (103, .return_, 1)]
set_option maxRecDepth 20000 in
theorem dn_128_0_ok : dn_128_0.all (fun q => decide (decode prog_10_method_12_code q.1 = .ok (q.2.1, q.2.2))) = true := by decide +kernel
def te_128_0 : Nat → eE := (e_T 23 (e_T 7 (e_T 2 (e_T 0 (e_L 0 (0, ei_load 0 2 1, 0, 0)) (e_T 1 (e_L 1 (0, ei_stk ef_dup 2, 0, 0)) (e_L 2 (0, ei_getf eft elay 8 7 5, 0, 0)))) (e_T 5 (e_L 5 (0, ei_push (0, 1) 6, 0, 0)) (e_T 6 (e_L 6 (0, ei_bin eF_add 7, 0, 0)) (e_L 7 (0, ei_putf eft elay 8 7 0 10, 0, 0))))) (e_T 17 (e_T 12 (e_L 12 (0, ei_load 1 0 13, 0, 0)) (e_T 13 (e_L 13 (0, ei_un (fun x => (0, ((Int32.ofInt x).toUInt32 % 65536).toInt32.toInt)) 14, 0, 0)) (e_L 17 (0, ei_stor 2 0 18, 0, 0)))) (e_T 19 (e_T 18 (e_L 18 (0, ei_load 0 2 19, 0, 0)) (e_L 19 (0, ei_load 2 0 20, 0, 0))) (e_T 20 (e_L 20 (0, ei_if1 3 27 23, 0, 0)) (e_L 23 (0, ei_push (0, 3) 24, 0, 0)))))) (e_T 35 (e_T 29 (e_T 24 (e_L 24 (0, ei_goto 31, 0, 0)) (e_T 27 (e_L 27 (0, ei_push (0, 8) 29, 0, 0)) (e_L 29 (0, ei_load 2 0 30, 0, 0)))) (e_T 31 (e_T 30 (e_L 30 (0, ei_bin eF_add 31, 0, 0)) (e_L 31 (0, ei_putf eft elay 8 5 0 34, 0, 0))) (e_T 34 (e_L 34 (0, ei_load 0 2 35, 0, 0)) (e_L 35 (0, ei_load 0 2 36, 0, 0))))) (e_T 42 (e_T 36 (e_L 36 (0, ei_getf eft elay 8 7 39, 0, 0)) (e_T 39 (e_L 39 (2, e_nof, 120, 2)) (e_L 42 (0, ei_push (0, 61) 44, 0, 0)))) (e_T 47 (e_T 44 (e_L 44 (0, ei_if2 0 48 47, 0, 0)) (e_L 47 (1, e_nof, 0, 0))) (e_T 48 (e_L 48 (0, ei_load 1 0 49, 0, 0)) (e_L 49 (0, ei_push (0, 33) 51, 0, 0)))))))
set_option maxRecDepth 20000 in
set_option maxHeartbeats 4000000 in
theorem te_128_0_ok : ∀ pc, e_EOq eft cls elay eI n_128 pc (te_128_0 pc) :=
  (e_Tok2
  (e_Tok2
  (e_Tok2
  (e_Tok2
  (e_Lok (e_st (I := eI) (er_aload_n (i := 0) (x_dk dn_128_0_ok 0 rfl))))
  (e_Tok2
  (e_Lok (e_st (I := eI) (er_dup (x_dk dn_128_0_ok 1 rfl))))
  (e_Lok (e_st (I := eI) (er_getf (ci := 8) (k := 7) (ix := 48) (N := 17) (C := RX8) (T := TX8) rfl in_X8 (by decide) (in_t1 (List.mem_of_getElem? (i := 76) rfl) rfl) (x_dk dn_128_0_ok 2 rfl))))))
  (e_Tok2
  (e_Lok (e_st (I := eI) (er_iconst (n := 1) (z := 1) (v := 1) (x_dk dn_128_0_ok 3 rfl) (by decide) (by decide))))
  (e_Tok2
  (e_Lok (e_st (I := eI) (er_iadd (x_dk dn_128_0_ok 4 rfl))))
  (e_Lok (e_st (I := eI) (er_putf (ci := 8) (k := 7) (ix := 48) (N := 17) (fk := 0) (C := RX8) (T := TX8) (ty0 := tyX8) (ty := .int) rfl in_X8 tyX8_ok nmX8 (by decide) (in_t1 (List.mem_of_getElem? (i := 76) rfl) rfl) rfl rfl x_fit_int (x_dk dn_128_0_ok 5 rfl)))))))
  (e_Tok2
  (e_Tok2
  (e_Lok (e_st (I := eI) (er_iload_n (i := 1) (x_dk dn_128_0_ok 7 rfl))))
  (e_Tok2
  (e_Lok (e_st (I := eI) (er_i2c (x_dk dn_128_0_ok 8 rfl))))
  (e_Lok (e_st (I := eI) (er_istore_n (i := 2) (x_dk dn_128_0_ok 10 rfl) (by decide +kernel))))))
  (e_Tok2
  (e_Tok2
  (e_Lok (e_st (I := eI) (er_aload_n (i := 0) (x_dk dn_128_0_ok 11 rfl))))
  (e_Lok (e_st (I := eI) (er_iload_n (i := 2) (x_dk dn_128_0_ok 12 rfl)))))
  (e_Tok2
  (e_Lok (e_st (I := eI) (er_ifge (off := 7) (tg := 27) (x_dk dn_128_0_ok 13 rfl) (by decide))))
  (e_Lok (e_st (I := eI) (er_iconst (n := 3) (z := 3) (v := 3) (x_dk dn_128_0_ok 14 rfl) (by decide) (by decide))))))))
  (e_Tok2
  (e_Tok2
  (e_Tok2
  (e_Lok (e_st (I := eI) (er_goto (off := 7) (tg := 31) (x_dk dn_128_0_ok 15 rfl) (by decide))))
  (e_Tok2
  (e_Lok (e_st (I := eI) (er_bipush (n := 8) (z := 8) (v := 8) (x_dk dn_128_0_ok 16 rfl) (by decide) (by decide))))
  (e_Lok (e_st (I := eI) (er_iload_n (i := 2) (x_dk dn_128_0_ok 17 rfl))))))
  (e_Tok2
  (e_Tok2
  (e_Lok (e_st (I := eI) (er_iadd (x_dk dn_128_0_ok 18 rfl))))
  (e_Lok (e_st (I := eI) (er_putf (ci := 8) (k := 5) (ix := 57) (N := 17) (fk := 0) (C := RX8) (T := TX8) (ty0 := tyX8) (ty := .int) rfl in_X8 tyX8_ok nmX8 (by decide) (in_t1 (List.mem_of_getElem? (i := 74) rfl) rfl) rfl rfl x_fit_int (x_dk dn_128_0_ok 19 rfl)))))
  (e_Tok2
  (e_Lok (e_st (I := eI) (er_aload_n (i := 0) (x_dk dn_128_0_ok 20 rfl))))
  (e_Lok (e_st (I := eI) (er_aload_n (i := 0) (x_dk dn_128_0_ok 21 rfl)))))))
  (e_Tok2
  (e_Tok2
  (e_Lok (e_st (I := eI) (er_getf (ci := 8) (k := 7) (ix := 48) (N := 17) (C := RX8) (T := TX8) rfl in_X8 (by decide) (in_t1 (List.mem_of_getElem? (i := 76) rfl) rfl) (x_dk dn_128_0_ok 22 rfl))))
  (e_Tok2
  (e_Lok (e_ca (I := eI) (q' := n_120) rfl (xr_callV (q' := n_120) (ix := 81) (n := 1) (in_t5 (List.mem_of_getElem? (i := 88) rfl) rfl) good_w (in_t1 (List.mem_of_getElem? (i := 2) rfl) rfl) (in_t5 (List.mem_of_getElem? (i := 85) rfl) rfl) (in_t5 (List.mem_of_getElem? (i := 87) rfl) rfl) (in_s1 (List.mem_of_getElem? (i := 13) rfl)) (by decide +kernel) (by decide +kernel) (by decide +kernel) (x_dk dn_128_0_ok 23 rfl))))
  (e_Lok (e_st (I := eI) (er_bipush (n := 61) (z := 61) (v := 61) (x_dk dn_128_0_ok 24 rfl) (by decide) (by decide))))))
  (e_Tok2
  (e_Tok2
  (e_Lok (e_st (I := eI) (er_icmpeq (off := 4) (tg := 48) (x_dk dn_128_0_ok 25 rfl) (by decide))))
  (e_Lok (e_rt (I := eI) (k := 0) ⟨(x_dk dn_128_0_ok 26 rfl), rfl⟩)))
  (e_Tok2
  (e_Lok (e_st (I := eI) (er_iload_n (i := 1) (x_dk dn_128_0_ok 27 rfl))))
  (e_Lok (e_st (I := eI) (er_bipush (n := 33) (z := 33) (v := 33) (x_dk dn_128_0_ok 28 rfl) (by decide) (by decide)))))))))
def te_128_27 : Nat → eE := (e_T 77 (e_T 62 (e_T 55 (e_T 51 (e_L 51 (0, ei_if2 1 62 54, 0, 0)) (e_T 54 (e_L 54 (0, ei_load 0 2 55, 0, 0)) (e_L 55 (0, ei_push (0, 5) 56, 0, 0)))) (e_T 56 (e_L 56 (0, ei_putf eft elay 8 5 0 59, 0, 0)) (e_T 59 (e_L 59 (0, ei_goto 93, 0, 0)) (e_L 62 (0, ei_load 1 0 63, 0, 0))))) (e_T 68 (e_T 63 (e_L 63 (0, ei_push (0, 60) 65, 0, 0)) (e_T 65 (e_L 65 (0, ei_if2 1 77 68, 0, 0)) (e_L 68 (0, ei_load 0 2 69, 0, 0)))) (e_T 71 (e_T 69 (e_L 69 (0, ei_push (0, 6) 71, 0, 0)) (e_L 71 (0, ei_putf eft elay 8 5 0 74, 0, 0))) (e_T 74 (e_L 74 (0, ei_goto 93, 0, 0)) (e_L 77 (0, ei_load 1 0 78, 0, 0)))))) (e_T 92 (e_T 83 (e_T 78 (e_L 78 (0, ei_push (0, 62) 80, 0, 0)) (e_T 80 (e_L 80 (0, ei_if2 1 92 83, 0, 0)) (e_L 83 (0, ei_load 0 2 84, 0, 0)))) (e_T 86 (e_T 84 (e_L 84 (0, ei_push (0, 7) 86, 0, 0)) (e_L 86 (0, ei_putf eft elay 8 5 0 89, 0, 0))) (e_T 89 (e_L 89 (0, ei_goto 93, 0, 0)) (e_L 92 (1, e_nof, 0, 0))))) (e_T 95 (e_T 93 (e_L 93 (0, ei_load 0 2 94, 0, 0)) (e_T 94 (e_L 94 (0, ei_stk ef_dup 95, 0, 0)) (e_L 95 (0, ei_getf eft elay 8 7 98, 0, 0)))) (e_T 99 (e_T 98 (e_L 98 (0, ei_push (0, 1) 99, 0, 0)) (e_L 99 (0, ei_bin eF_add 100, 0, 0))) (e_T 100 (e_L 100 (0, ei_putf eft elay 8 7 0 103, 0, 0)) (e_L 103 (1, e_nof, 0, 0)))))))
set_option maxRecDepth 20000 in
set_option maxHeartbeats 4000000 in
theorem te_128_27_ok : ∀ pc, e_EOq eft cls elay eI n_128 pc (te_128_27 pc) :=
  (e_Tok2
  (e_Tok2
  (e_Tok2
  (e_Tok2
  (e_Lok (e_st (I := eI) (er_icmpne (off := 11) (tg := 62) (x_dk dn_128_0_ok 29 rfl) (by decide))))
  (e_Tok2
  (e_Lok (e_st (I := eI) (er_aload_n (i := 0) (x_dk dn_128_0_ok 30 rfl))))
  (e_Lok (e_st (I := eI) (er_iconst (n := 5) (z := 5) (v := 5) (x_dk dn_128_0_ok 31 rfl) (by decide) (by decide))))))
  (e_Tok2
  (e_Lok (e_st (I := eI) (er_putf (ci := 8) (k := 5) (ix := 57) (N := 17) (fk := 0) (C := RX8) (T := TX8) (ty0 := tyX8) (ty := .int) rfl in_X8 tyX8_ok nmX8 (by decide) (in_t1 (List.mem_of_getElem? (i := 74) rfl) rfl) rfl rfl x_fit_int (x_dk dn_128_0_ok 32 rfl))))
  (e_Tok2
  (e_Lok (e_st (I := eI) (er_goto (off := 34) (tg := 93) (x_dk dn_128_0_ok 33 rfl) (by decide))))
  (e_Lok (e_st (I := eI) (er_iload_n (i := 1) (x_dk dn_128_0_ok 34 rfl)))))))
  (e_Tok2
  (e_Tok2
  (e_Lok (e_st (I := eI) (er_bipush (n := 60) (z := 60) (v := 60) (x_dk dn_128_0_ok 35 rfl) (by decide) (by decide))))
  (e_Tok2
  (e_Lok (e_st (I := eI) (er_icmpne (off := 12) (tg := 77) (x_dk dn_128_0_ok 36 rfl) (by decide))))
  (e_Lok (e_st (I := eI) (er_aload_n (i := 0) (x_dk dn_128_0_ok 37 rfl))))))
  (e_Tok2
  (e_Tok2
  (e_Lok (e_st (I := eI) (er_bipush (n := 6) (z := 6) (v := 6) (x_dk dn_128_0_ok 38 rfl) (by decide) (by decide))))
  (e_Lok (e_st (I := eI) (er_putf (ci := 8) (k := 5) (ix := 57) (N := 17) (fk := 0) (C := RX8) (T := TX8) (ty0 := tyX8) (ty := .int) rfl in_X8 tyX8_ok nmX8 (by decide) (in_t1 (List.mem_of_getElem? (i := 74) rfl) rfl) rfl rfl x_fit_int (x_dk dn_128_0_ok 39 rfl)))))
  (e_Tok2
  (e_Lok (e_st (I := eI) (er_goto (off := 19) (tg := 93) (x_dk dn_128_0_ok 40 rfl) (by decide))))
  (e_Lok (e_st (I := eI) (er_iload_n (i := 1) (x_dk dn_128_0_ok 41 rfl))))))))
  (e_Tok2
  (e_Tok2
  (e_Tok2
  (e_Lok (e_st (I := eI) (er_bipush (n := 62) (z := 62) (v := 62) (x_dk dn_128_0_ok 42 rfl) (by decide) (by decide))))
  (e_Tok2
  (e_Lok (e_st (I := eI) (er_icmpne (off := 12) (tg := 92) (x_dk dn_128_0_ok 43 rfl) (by decide))))
  (e_Lok (e_st (I := eI) (er_aload_n (i := 0) (x_dk dn_128_0_ok 44 rfl))))))
  (e_Tok2
  (e_Tok2
  (e_Lok (e_st (I := eI) (er_bipush (n := 7) (z := 7) (v := 7) (x_dk dn_128_0_ok 45 rfl) (by decide) (by decide))))
  (e_Lok (e_st (I := eI) (er_putf (ci := 8) (k := 5) (ix := 57) (N := 17) (fk := 0) (C := RX8) (T := TX8) (ty0 := tyX8) (ty := .int) rfl in_X8 tyX8_ok nmX8 (by decide) (in_t1 (List.mem_of_getElem? (i := 74) rfl) rfl) rfl rfl x_fit_int (x_dk dn_128_0_ok 46 rfl)))))
  (e_Tok2
  (e_Lok (e_st (I := eI) (er_goto (off := 4) (tg := 93) (x_dk dn_128_0_ok 47 rfl) (by decide))))
  (e_Lok (e_rt (I := eI) (k := 0) ⟨(x_dk dn_128_0_ok 48 rfl), rfl⟩)))))
  (e_Tok2
  (e_Tok2
  (e_Lok (e_st (I := eI) (er_aload_n (i := 0) (x_dk dn_128_0_ok 49 rfl))))
  (e_Tok2
  (e_Lok (e_st (I := eI) (er_dup (x_dk dn_128_0_ok 50 rfl))))
  (e_Lok (e_st (I := eI) (er_getf (ci := 8) (k := 7) (ix := 48) (N := 17) (C := RX8) (T := TX8) rfl in_X8 (by decide) (in_t1 (List.mem_of_getElem? (i := 76) rfl) rfl) (x_dk dn_128_0_ok 51 rfl))))))
  (e_Tok2
  (e_Tok2
  (e_Lok (e_st (I := eI) (er_iconst (n := 1) (z := 1) (v := 1) (x_dk dn_128_0_ok 52 rfl) (by decide) (by decide))))
  (e_Lok (e_st (I := eI) (er_iadd (x_dk dn_128_0_ok 53 rfl)))))
  (e_Tok2
  (e_Lok (e_st (I := eI) (er_putf (ci := 8) (k := 7) (ix := 48) (N := 17) (fk := 0) (C := RX8) (T := TX8) (ty0 := tyX8) (ty := .int) rfl in_X8 tyX8_ok nmX8 (by decide) (in_t1 (List.mem_of_getElem? (i := 76) rfl) rfl) rfl rfl x_fit_int (x_dk dn_128_0_ok 54 rfl))))
  (e_Lok (e_rt (I := eI) (k := 0) ⟨(x_dk dn_128_0_ok 55 rfl), rfl⟩)))))))
def te_128 : Nat → eE := (e_T 49 te_128_0 te_128_27)
theorem te_128_ok : ∀ pc, e_EOq eft cls elay eI n_128 pc (te_128 pc) := (e_Tok2 (te_128_0_ok) (te_128_27_ok))
def dn_129_0 : List (Nat × Instr × Nat) := [(0, .aload_n 0, 1), (1, .getfield 57, 3), (4, .iload_n 1, 1), (5, .if_icmp .ne 10, 3), (8, .aload_n 0, 1), (9, .invokevirtual 54, 3), (12, .goto 7, 3), (15, .aload_n 0, 1), (16, .invokevirtual 66, 3), (19, .return_, 1)]
set_option maxRecDepth 20000 in
theorem dn_129_0_ok : dn_129_0.all (fun q => decide (decode prog_10_method_13_code q.1 = .ok (q.2.1, q.2.2))) = true := by decide +kernel
def te_129_0 : Nat → eE := (e_T 8 (e_T 1 (e_T 0 (e_L 0 (0, ei_load 0 2 1, 0, 0)) (e_L 1 (0, ei_getf eft elay 8 5 4, 0, 0))) (e_T 4 (e_L 4 (0, ei_load 1 0 5, 0, 0)) (e_T 5 (e_L 5 (0, ei_if2 1 15 8, 0, 0)) (e_L 8 (0, ei_load 0 2 9, 0, 0))))) (e_T 12 (e_T 9 (e_L 9 (2, e_nof, 123, 1)) (e_L 12 (0, ei_goto 19, 0, 0))) (e_T 15 (e_L 15 (0, ei_load 0 2 16, 0, 0)) (e_T 16 (e_L 16 (2, e_nof, 130, 1)) (e_L 19 (1, e_nof, 0, 0))))))
set_option maxRecDepth 20000 in
set_option maxHeartbeats 4000000 in
theorem te_129_0_ok : ∀ pc, e_EOq eft cls elay eI n_129 pc (te_129_0 pc) :=
  (e_Tok2
  (e_Tok2
  (e_Tok2
  (e_Lok (e_st (I := eI) (er_aload_n (i := 0) (x_dk dn_129_0_ok 0 rfl))))
  (e_Lok (e_st (I := eI) (er_getf (ci := 8) (k := 5) (ix := 57) (N := 17) (C := RX8) (T := TX8) rfl in_X8 (by decide) (in_t1 (List.mem_of_getElem? (i := 74) rfl) rfl) (x_dk dn_129_0_ok 1 rfl)))))
  (e_Tok2
  (e_Lok (e_st (I := eI) (er_iload_n (i := 1) (x_dk dn_129_0_ok 2 rfl))))
  (e_Tok2
  (e_Lok (e_st (I := eI) (er_icmpne (off := 10) (tg := 15) (x_dk dn_129_0_ok 3 rfl) (by decide))))
  (e_Lok (e_st (I := eI) (er_aload_n (i := 0) (x_dk dn_129_0_ok 4 rfl)))))))
  (e_Tok2
  (e_Tok2
  (e_Lok (e_ca (I := eI) (q' := n_123) rfl (xr_callV (q' := n_123) (ix := 54) (n := 0) (in_t5 (List.mem_of_getElem? (i := 80) rfl) rfl) good_w (in_t1 (List.mem_of_getElem? (i := 2) rfl) rfl) (in_t5 (List.mem_of_getElem? (i := 77) rfl) rfl) (in_t5 (List.mem_of_getElem? (i := 79) rfl) rfl) (in_s1 (List.mem_of_getElem? (i := 11) rfl)) (by decide +kernel) (by decide +kernel) (by decide +kernel) (x_dk dn_129_0_ok 5 rfl))))
  (e_Lok (e_st (I := eI) (er_goto (off := 7) (tg := 19) (x_dk dn_129_0_ok 6 rfl) (by decide)))))
  (e_Tok2
  (e_Lok (e_st (I := eI) (er_aload_n (i := 0) (x_dk dn_129_0_ok 7 rfl))))
  (e_Tok2
  (e_Lok (e_ca (I := eI) (q' := n_130) rfl (xr_callV (q' := n_130) (ix := 66) (n := 0) (in_t6 (List.mem_of_getElem? (i := 22) rfl) rfl) good_w (in_t1 (List.mem_of_getElem? (i := 2) rfl) rfl) (in_t6 (List.mem_of_getElem? (i := 19) rfl) rfl) (in_t6 (List.mem_of_getElem? (i := 21) rfl) rfl) (in_s2 (List.mem_of_getElem? (i := 10) rfl)) (by decide +kernel) (by decide +kernel) (by decide +kernel) (x_dk dn_129_0_ok 8 rfl))))
  (e_Lok (e_rt (I := eI) (k := 0) ⟨(x_dk dn_129_0_ok 9 rfl), rfl⟩))))))
def te_129 : Nat → eE := te_129_0
theorem te_129_ok : ∀ pc, e_EOq eft cls elay eI n_129 pc (te_129 pc) := te_129_0_ok
def dn_130_0 : List (Nat × Instr × Nat) := [(0, .aload_n 0, 1), (1, .aload_n 0, 1), (2, .getfield 57, 3), (5, .iconst 3, 1), (6, .if_icmp .ne 7, 3), (9, .iconst 1, 1), (10, .goto 4, 3), (13, .iconst 2, 1), (14, .invokevirtual 140, 3), (17, .return_, 1)]
set_option maxRecDepth 20000 in
theorem dn_130_0_ok : dn_130_0.all (fun q => decide (decode prog_10_method_14_code q.1 = .ok (q.2.1, q.2.2))) = true := by decide +kernel
def te_130_0 : Nat → eE := (e_T 6 (e_T 1 (e_T 0 (e_L 0 (0, ei_load 0 2 1, 0, 0)) (e_L 1 (0, ei_load 0 2 2, 0, 0))) (e_T 2 (e_L 2 (0, ei_getf eft elay 8 5 5, 0, 0)) (e_T 5 (e_L 5 (0, ei_push (0, 3) 6, 0, 0)) (e_L 6 (0, ei_if2 1 13 9, 0, 0))))) (e_T 10 (e_T 9 (e_L 9 (0, ei_push (0, 1) 10, 0, 0)) (e_L 10 (0, ei_goto 14, 0, 0))) (e_T 13 (e_L 13 (0, ei_push (0, 2) 14, 0, 0)) (e_T 14 (e_L 14 (2, e_nof, 131, 2)) (e_L 17 (1, e_nof, 0, 0))))))
set_option maxRecDepth 20000 in
set_option maxHeartbeats 4000000 in
theorem te_130_0_ok : ∀ pc, e_EOq eft cls elay eI n_130 pc (te_130_0 pc) :=
  (e_Tok2
  (e_Tok2
  (e_Tok2
  (e_Lok (e_st (I := eI) (er_aload_n (i := 0) (x_dk dn_130_0_ok 0 rfl))))
  (e_Lok (e_st (I := eI) (er_aload_n (i := 0) (x_dk dn_130_0_ok 1 rfl)))))
  (e_Tok2
  (e_Lok (e_st (I := eI) (er_getf (ci := 8) (k := 5) (ix := 57) (N := 17) (C := RX8) (T := TX8) rfl in_X8 (by decide) (in_t1 (List.mem_of_getElem? (i := 74) rfl) rfl) (x_dk dn_130_0_ok 2 rfl))))
  (e_Tok2
  (e_Lok (e_st (I := eI) (er_iconst (n := 3) (z := 3) (v := 3) (x_dk dn_130_0_ok 3 rfl) (by decide) (by decide))))
  (e_Lok (e_st (I := eI) (er_icmpne (off := 7) (tg := 13) (x_dk dn_130_0_ok 4 rfl) (by decide)))))))
  (e_Tok2
  (e_Tok2
  (e_Lok (e_st (I := eI) (er_iconst (n := 1) (z := 1) (v := 1) (x_dk dn_130_0_ok 5 rfl) (by decide) (by decide))))
  (e_Lok (e_st (I := eI) (er_goto (off := 4) (tg := 14) (x_dk dn_130_0_ok 6 rfl) (by decide)))))
  (e_Tok2
  (e_Lok (e_st (I := eI) (er_iconst (n := 2) (z := 2) (v := 2) (x_dk dn_130_0_ok 7 rfl) (by decide) (by decide))))
  (e_Tok2
  (e_Lok (e_ca (I := eI) (q' := n_131) rfl (xr_callV (q' := n_131) (ix := 140) (n := 1) (in_t6 (List.mem_of_getElem? (i := 26) rfl) rfl) good_w (in_t1 (List.mem_of_getElem? (i := 2) rfl) rfl) (in_t6 (List.mem_of_getElem? (i := 23) rfl) rfl) (in_t6 (List.mem_of_getElem? (i := 25) rfl) rfl) (in_s2 (List.mem_of_getElem? (i := 11) rfl)) (by decide +kernel) (by decide +kernel) (by decide +kernel) (x_dk dn_130_0_ok 8 rfl))))
  (e_Lok (e_rt (I := eI) (k := 0) ⟨(x_dk dn_130_0_ok 9 rfl), rfl⟩))))))
def te_130 : Nat → eE := te_130_0
theorem te_130_ok : ∀ pc, e_EOq eft cls elay eI n_130 pc (te_130 pc) := te_130_0_ok
def dn_131_0 : List (Nat × Instr × Nat) := [(0, .aload_n 0, 1), (1, .getfield 9, 3), (4, .ifCond .ne 16, 3), (7, .aload_n 0, 1), (8, .iload_n 1, 1), (9, .putfield 9, 3), (12, .aload_n 0, 1), (13, .aload_n 0, 1), (14, .getfield 78, 3), (17, .putfield 15, 3), (20, .aload_n 0, 1), (21, .iconst 4, 1), (22, .putfield 57, 3), (25, .return_, 1)]
set_option maxRecDepth 20000 in
theorem dn_131_0_ok : dn_131_0.all (fun q => decide (decode prog_10_method_15_code q.1 = .ok (q.2.1, q.2.2))) = true := by decide +kernel
def te_131_0 : Nat → eE := (e_T 12 (e_T 4 (e_T 0 (e_L 0 (0, ei_load 0 2 1, 0, 0)) (e_T 1 (e_L 1 (0, ei_getf eft elay 8 1 4, 0, 0)) (e_L 4 (0, ei_if1 1 20 7, 0, 0)))) (e_T 8 (e_T 7 (e_L 7 (0, ei_load 0 2 8, 0, 0)) (e_L 8 (0, ei_load 1 0 9, 0, 0))) (e_T 9 (e_L 9 (0, ei_putf eft elay 8 1 0 12, 0, 0)) (e_L 12 (0, ei_load 0 2 13, 0, 0))))) (e_T 17 (e_T 13 (e_L 13 (0, ei_load 0 2 14, 0, 0)) (e_T 14 (e_L 14 (0, ei_getf eft elay 8 6 17, 0, 0)) (e_L 17 (0, ei_putf eft elay 8 2 0 20, 0, 0)))) (e_T 21 (e_T 20 (e_L 20 (0, ei_load 0 2 21, 0, 0)) (e_L 21 (0, ei_push (0, 4) 22, 0, 0))) (e_T 22 (e_L 22 (0, ei_putf eft elay 8 5 0 25, 0, 0)) (e_L 25 (1, e_nof, 0, 0))))))
set_option maxRecDepth 20000 in
set_option maxHeartbeats 4000000 in
theorem te_131_0_ok : ∀ pc, e_EOq eft cls elay eI n_131 pc (te_131_0 pc) :=
  (e_Tok2
  (e_Tok2
  (e_Tok2
  (e_Lok (e_st (I := eI) (er_aload_n (i := 0) (x_dk dn_131_0_ok 0 rfl))))
  (e_Tok2
  (e_Lok (e_st (I := eI) (er_getf (ci := 8) (k := 1) (ix := 9) (N := 17) (C := RX8) (T := TX8) rfl in_X8 (by decide) (in_t1 (List.mem_of_getElem? (i := 67) rfl) rfl) (x_dk dn_131_0_ok 1 rfl))))
  (e_Lok (e_st (I := eI) (er_ifne (off := 16) (tg := 20) (x_dk dn_131_0_ok 2 rfl) (by decide))))))
  (e_Tok2
  (e_Tok2
  (e_Lok (e_st (I := eI) (er_aload_n (i := 0) (x_dk dn_131_0_ok 3 rfl))))
  (e_Lok (e_st (I := eI) (er_iload_n (i := 1) (x_dk dn_131_0_ok 4 rfl)))))
  (e_Tok2
  (e_Lok (e_st (I := eI) (er_putf (ci := 8) (k := 1) (ix := 9) (N := 17) (fk := 0) (C := RX8) (T := TX8) (ty0 := tyX8) (ty := .int) rfl in_X8 tyX8_ok nmX8 (by decide) (in_t1 (List.mem_of_getElem? (i := 67) rfl) rfl) rfl rfl x_fit_int (x_dk dn_131_0_ok 5 rfl))))
  (e_Lok (e_st (I := eI) (er_aload_n (i := 0) (x_dk dn_131_0_ok 6 rfl)))))))
  (e_Tok2
  (e_Tok2
  (e_Lok (e_st (I := eI) (er_aload_n (i := 0) (x_dk dn_131_0_ok 7 rfl))))
  (e_Tok2
  (e_Lok (e_st (I := eI) (er_getf (ci := 8) (k := 6) (ix := 78) (N := 17) (C := RX8) (T := TX8) rfl in_X8 (by decide) (in_t1 (List.mem_of_getElem? (i := 75) rfl) rfl) (x_dk dn_131_0_ok 8 rfl))))
  (e_Lok (e_st (I := eI) (er_putf (ci := 8) (k := 2) (ix := 15) (N := 17) (fk := 0) (C := RX8) (T := TX8) (ty0 := tyX8) (ty := .int) rfl in_X8 tyX8_ok nmX8 (by decide) (in_t1 (List.mem_of_getElem? (i := 69) rfl) rfl) rfl rfl x_fit_int (x_dk dn_131_0_ok 9 rfl))))))
  (e_Tok2
  (e_Tok2
  (e_Lok (e_st (I := eI) (er_aload_n (i := 0) (x_dk dn_131_0_ok 10 rfl))))
  (e_Lok (e_st (I := eI) (er_iconst (n := 4) (z := 4) (v := 4) (x_dk dn_131_0_ok 11 rfl) (by decide) (by decide)))))
  (e_Tok2
  (e_Lok (e_st (I := eI) (er_putf (ci := 8) (k := 5) (ix := 57) (N := 17) (fk := 0) (C := RX8) (T := TX8) (ty0 := tyX8) (ty := .int) rfl in_X8 tyX8_ok nmX8 (by decide) (in_t1 (List.mem_of_getElem? (i := 74) rfl) rfl) rfl rfl x_fit_int (x_dk dn_131_0_ok 12 rfl))))
  (e_Lok (e_rt (I := eI) (k := 0) ⟨(x_dk dn_131_0_ok 13 rfl), rfl⟩))))))
def te_131 : Nat → eE := te_131_0
theorem te_131_ok : ∀ pc, e_EOq eft cls elay eI n_131 pc (te_131 pc) := te_131_0_ok
def dn_132_0 : List (Nat × Instr × Nat) := [(0, .aload_n 0, 1), (1, .getfield 42, 3), (4, .bipush 30, 2), (6, .if_icmp .lt 10, 3), (9, .aload_n 0, 1), (10, .iconst 3, 1), (11, .invokevirtual 140, 3), (14, .iconst 0, 1), (15, .ireturn, 1), (16, .aload_n 0, 1), (17, .dup, 1), (18, .getfield 42, 3), (21, .iconst 1, 1), (22, .iadd, 1), (23, .putfield 42, 3), (26, .iconst 1, 1), (27, .ireturn, 1)]
set_option maxRecDepth 20000 in
theorem dn_132_0_ok : dn_132_0.all (fun q => decide (decode prog_10_method_16_code q.1 = .ok (q.2.1, q.2.2))) = true := by decide +kernel
def te_132_0 : Nat → eE := (e_T 14 (e_T 6 (e_T 1 (e_T 0 (e_L 0 (0, ei_load 0 2 1, 0, 0)) (e_L 1 (0, ei_getf eft elay 8 11 4, 0, 0))) (e_T 4 (e_L 4 (0, ei_push (0, 30) 6, 0, 0)) (e_L 6 (0, ei_if2 2 16 9, 0, 0)))) (e_T 10 (e_T 9 (e_L 9 (0, ei_load 0 2 10, 0, 0)) (e_L 10 (0, ei_push (0, 3) 11, 0, 0))) (e_T 11 (e_L 11 (2, e_nof, 131, 2)) (e_L 14 (0, ei_push (0, 0) 15, 0, 0))))) (e_T 18 (e_T 16 (e_T 15 (e_L 15 (1, e_nof, 4, 0)) (e_L 16 (0, ei_load 0 2 17, 0, 0))) (e_T 17 (e_L 17 (0, ei_stk ef_dup 18, 0, 0)) (e_L 18 (0, ei_getf eft elay 8 11 21, 0, 0)))) (e_T 22 (e_T 21 (e_L 21 (0, ei_push (0, 1) 22, 0, 0)) (e_L 22 (0, ei_bin eF_add 23, 0, 0))) (e_T 23 (e_L 23 (0, ei_putf eft elay 8 11 0 26, 0, 0)) (e_T 26 (e_L 26 (0, ei_push (0, 1) 27, 0, 0)) (e_L 27 (1, e_nof, 4, 0)))))))
set_option maxRecDepth 20000 in
set_option maxHeartbeats 4000000 in
theorem te_132_0_ok : ∀ pc, e_EOq eft cls elay eI n_132 pc (te_132_0 pc) :=
  (e_Tok2
  (e_Tok2
  (e_Tok2
  (e_Tok2
  (e_Lok (e_st (I := eI) (er_aload_n (i := 0) (x_dk dn_132_0_ok 0 rfl))))
  (e_Lok (e_st (I := eI) (er_getf (ci := 8) (k := 11) (ix := 42) (N := 17) (C := RX8) (T := TX8) rfl in_X8 (by decide) (in_t1 (List.mem_of_getElem? (i := 80) rfl) rfl) (x_dk dn_132_0_ok 1 rfl)))))
  (e_Tok2
  (e_Lok (e_st (I := eI) (er_bipush (n := 30) (z := 30) (v := 30) (x_dk dn_132_0_ok 2 rfl) (by decide) (by decide))))
  (e_Lok (e_st (I := eI) (er_icmplt (off := 10) (tg := 16) (x_dk dn_132_0_ok 3 rfl) (by decide))))))
  (e_Tok2
  (e_Tok2
  (e_Lok (e_st (I := eI) (er_aload_n (i := 0) (x_dk dn_132_0_ok 4 rfl))))
  (e_Lok (e_st (I := eI) (er_iconst (n := 3) (z := 3) (v := 3) (x_dk dn_132_0_ok 5 rfl) (by decide) (by decide)))))
  (e_Tok2
  (e_Lok (e_ca (I := eI) (q' := n_131) rfl (xr_callV (q' := n_131) (ix := 140) (n := 1) (in_t6 (List.mem_of_getElem? (i := 26) rfl) rfl) good_w (in_t1 (List.mem_of_getElem? (i := 2) rfl) rfl) (in_t6 (List.mem_of_getElem? (i := 23) rfl) rfl) (in_t6 (List.mem_of_getElem? (i := 25) rfl) rfl) (in_s2 (List.mem_of_getElem? (i := 11) rfl)) (by decide +kernel) (by decide +kernel) (by decide +kernel) (x_dk dn_132_0_ok 6 rfl))))
  (e_Lok (e_st (I := eI) (er_iconst (n := 0) (z := 0) (v := 0) (x_dk dn_132_0_ok 7 rfl) (by decide) (by decide)))))))
  (e_Tok2
  (e_Tok2
  (e_Tok2
  (e_Lok (e_rt (I := eI) (k := 4) ⟨(x_dk dn_132_0_ok 8 rfl), rfl⟩))
  (e_Lok (e_st (I := eI) (er_aload_n (i := 0) (x_dk dn_132_0_ok 9 rfl)))))
  (e_Tok2
  (e_Lok (e_st (I := eI) (er_dup (x_dk dn_132_0_ok 10 rfl))))
  (e_Lok (e_st (I := eI) (er_getf (ci := 8) (k := 11) (ix := 42) (N := 17) (C := RX8) (T := TX8) rfl in_X8 (by decide) (in_t1 (List.mem_of_getElem? (i := 80) rfl) rfl) (x_dk dn_132_0_ok 11 rfl))))))
  (e_Tok2
  (e_Tok2
  (e_Lok (e_st (I := eI) (er_iconst (n := 1) (z := 1) (v := 1) (x_dk dn_132_0_ok 12 rfl) (by decide) (by decide))))
  (e_Lok (e_st (I := eI) (er_iadd (x_dk dn_132_0_ok 13 rfl)))))
  (e_Tok2
  (e_Lok (e_st (I := eI) (er_putf (ci := 8) (k := 11) (ix := 42) (N := 17) (fk := 0) (C := RX8) (T := TX8) (ty0 := tyX8) (ty := .int) rfl in_X8 tyX8_ok nmX8 (by decide) (in_t1 (List.mem_of_getElem? (i := 80) rfl) rfl) rfl rfl x_fit_int (x_dk dn_132_0_ok 14 rfl))))
  (e_Tok2
  (e_Lok (e_st (I := eI) (er_iconst (n := 1) (z := 1) (v := 1) (x_dk dn_132_0_ok 15 rfl) (by decide) (by decide))))
  (e_Lok (e_rt (I := eI) (k := 4) ⟨(x_dk dn_132_0_ok 16 rfl), rfl⟩)))))))
def te_132 : Nat → eE := te_132_0
theorem te_132_ok : ∀ pc, e_EOq eft cls elay eI n_132 pc (te_132 pc) := te_132_0_ok
def dn_133_0 : List (Nat × Instr × Nat) := [(0, .aload_n 0, 1), (1, .getfield 39, 3), (4, .ifCond .eq 11, 3), (7, .iload_n 2, 1), (8, .aload_n 0, 1), (9, .getfield 72, 3), (12, .if_icmp .ge 7, 3), (15, .iconst 1, 1), (16, .goto 4, 3), (19, .iconst 0, 1), (20, .istore_n 3, 1), (21, .iload_n 3, 1), (22, .ifCond .ne 20, 3), (25, .iload_n 2, 1), (26, .aload_n 0, 1), (27, .getfield 72, 3), (30, .if_icmp .gt 11, 3), (33, .iload_n 1, 1), (34, .aload_n 0, 1), (35, .getfield 39, 3), (38, .if_icmp .le 4, 3), (41, .return_, 1), (42, .aload_n 0, 1), (43, .iload_n 1, 1), (44, .putfield 39, 3), (47, .aload_n 0, 1), (48, .iload_n 2, 1), (49, .putfield 72, 3), (52, .return_, 1)]
set_option maxRecDepth 20000 in
theorem dn_133_0_ok : dn_133_0.all (fun q => decide (decode prog_10_method_17_code q.1 = .ok (q.2.1, q.2.2))) = true := by decide +kernel
def te_133_0 : Nat → eE := (e_T 25 (e_T 12 (e_T 4 (e_T 0 (e_L 0 (0, ei_load 0 2 1, 0, 0)) (e_T 1 (e_L 1 (0, ei_getf eft elay 8 9 4, 0, 0)) (e_L 4 (0, ei_if1 0 15 7, 0, 0)))) (e_T 8 (e_T 7 (e_L 7 (0, ei_load 2 0 8, 0, 0)) (e_L 8 (0, ei_load 0 2 9, 0, 0))) (e_T 9 (e_L 9 (0, ei_getf eft elay 8 10 12, 0, 0)) (e_L 12 (0, ei_if2 3 19 15, 0, 0))))) (e_T 19 (e_T 15 (e_L 15 (0, ei_push (0, 1) 16, 0, 0)) (e_T 16 (e_L 16 (0, ei_goto 20, 0, 0)) (e_L 19 (0, ei_push (0, 0) 20, 0, 0)))) (e_T 21 (e_T 20 (e_L 20 (0, ei_stor 3 0 21, 0, 0)) (e_L 21 (0, ei_load 3 0 22, 0, 0))) (e_T 22 (e_L 22 (0, ei_if1 1 42 25, 0, 0)) (e_L 25 (0, ei_load 2 0 26, 0, 0)))))) (e_T 38 (e_T 30 (e_T 26 (e_L 26 (0, ei_load 0 2 27, 0, 0)) (e_T 27 (e_L 27 (0, ei_getf eft elay 8 10 30, 0, 0)) (e_L 30 (0, ei_if2 4 41 33, 0, 0)))) (e_T 34 (e_T 33 (e_L 33 (0, ei_load 1 0 34, 0, 0)) (e_L 34 (0, ei_load 0 2 35, 0, 0))) (e_T 35 (e_L 35 (0, ei_getf eft elay 8 9 38, 0, 0)) (e_L 38 (0, ei_if2 5 42 41, 0, 0))))) (e_T 44 (e_T 42 (e_T 41 (e_L 41 (1, e_nof, 0, 0)) (e_L 42 (0, ei_load 0 2 43, 0, 0))) (e_T 43 (e_L 43 (0, ei_load 1 0 44, 0, 0)) (e_L 44 (0, ei_putf eft elay 8 9 0 47, 0, 0)))) (e_T 48 (e_T 47 (e_L 47 (0, ei_load 0 2 48, 0, 0)) (e_L 48 (0, ei_load 2 0 49, 0, 0))) (e_T 49 (e_L 49 (0, ei_putf eft elay 8 10 0 52, 0, 0)) (e_L 52 (1, e_nof, 0, 0)))))))
set_option maxRecDepth 20000 in
set_option maxHeartbeats 4000000 in
theorem te_133_0_ok : ∀ pc, e_EOq eft cls elay eI n_133 pc (te_133_0 pc) :=
  (e_Tok2
  (e_Tok2
  (e_Tok2
  (e_Tok2
  (e_Lok (e_st (I := eI) (er_aload_n (i := 0) (x_dk dn_133_0_ok 0 rfl))))
  (e_Tok2
  (e_Lok (e_st (I := eI) (er_getf (ci := 8) (k := 9) (ix := 39) (N := 17) (C := RX8) (T := TX8) rfl in_X8 (by decide) (in_t1 (List.mem_of_getElem? (i := 78) rfl) rfl) (x_dk dn_133_0_ok 1 rfl))))
  (e_Lok (e_st (I := eI) (er_ifeq (off := 11) (tg := 15) (x_dk dn_133_0_ok 2 rfl) (by decide))))))
  (e_Tok2
  (e_Tok2
  (e_Lok (e_st (I := eI) (er_iload_n (i := 2) (x_dk dn_133_0_ok 3 rfl))))
  (e_Lok (e_st (I := eI) (er_aload_n (i := 0) (x_dk dn_133_0_ok 4 rfl)))))
  (e_Tok2
  (e_Lok (e_st (I := eI) (er_getf (ci := 8) (k := 10) (ix := 72) (N := 17) (C := RX8) (T := TX8) rfl in_X8 (by decide) (in_t1 (List.mem_of_getElem? (i := 79) rfl) rfl) (x_dk dn_133_0_ok 5 rfl))))
  (e_Lok (e_st (I := eI) (er_icmpge (off := 7) (tg := 19) (x_dk dn_133_0_ok 6 rfl) (by decide)))))))
  (e_Tok2
  (e_Tok2
  (e_Lok (e_st (I := eI) (er_iconst (n := 1) (z := 1) (v := 1) (x_dk dn_133_0_ok 7 rfl) (by decide) (by decide))))
  (e_Tok2
  (e_Lok (e_st (I := eI) (er_goto (off := 4) (tg := 20) (x_dk dn_133_0_ok 8 rfl) (by decide))))
  (e_Lok (e_st (I := eI) (er_iconst (n := 0) (z := 0) (v := 0) (x_dk dn_133_0_ok 9 rfl) (by decide) (by decide))))))
  (e_Tok2
  (e_Tok2
  (e_Lok (e_st (I := eI) (er_istore_n (i := 3) (x_dk dn_133_0_ok 10 rfl) (by decide +kernel))))
  (e_Lok (e_st (I := eI) (er_iload_n (i := 3) (x_dk dn_133_0_ok 11 rfl)))))
  (e_Tok2
  (e_Lok (e_st (I := eI) (er_ifne (off := 20) (tg := 42) (x_dk dn_133_0_ok 12 rfl) (by decide))))
  (e_Lok (e_st (I := eI) (er_iload_n (i := 2) (x_dk dn_133_0_ok 13 rfl))))))))
  (e_Tok2
  (e_Tok2
  (e_Tok2
  (e_Lok (e_st (I := eI) (er_aload_n (i := 0) (x_dk dn_133_0_ok 14 rfl))))
  (e_Tok2
  (e_Lok (e_st (I := eI) (er_getf (ci := 8) (k := 10) (ix := 72) (N := 17) (C := RX8) (T := TX8) rfl in_X8 (by decide) (in_t1 (List.mem_of_getElem? (i := 79) rfl) rfl) (x_dk dn_133_0_ok 15 rfl))))
  (e_Lok (e_st (I := eI) (er_icmpgt (off := 11) (tg := 41) (x_dk dn_133_0_ok 16 rfl) (by decide))))))
  (e_Tok2
  (e_Tok2
  (e_Lok (e_st (I := eI) (er_iload_n (i := 1) (x_dk dn_133_0_ok 17 rfl))))
  (e_Lok (e_st (I := eI) (er_aload_n (i := 0) (x_dk dn_133_0_ok 18 rfl)))))
  (e_Tok2
  (e_Lok (e_st (I := eI) (er_getf (ci := 8) (k := 9) (ix := 39) (N := 17) (C := RX8) (T := TX8) rfl in_X8 (by decide) (in_t1 (List.mem_of_getElem? (i := 78) rfl) rfl) (x_dk dn_133_0_ok 19 rfl))))
  (e_Lok (e_st (I := eI) (er_icmple (off := 4) (tg := 42) (x_dk dn_133_0_ok 20 rfl) (by decide)))))))
  (e_Tok2
  (e_Tok2
  (e_Tok2
  (e_Lok (e_rt (I := eI) (k := 0) ⟨(x_dk dn_133_0_ok 21 rfl), rfl⟩))
  (e_Lok (e_st (I := eI) (er_aload_n (i := 0) (x_dk dn_133_0_ok 22 rfl)))))
  (e_Tok2
  (e_Lok (e_st (I := eI) (er_iload_n (i := 1) (x_dk dn_133_0_ok 23 rfl))))
  (e_Lok (e_st (I := eI) (er_putf (ci := 8) (k := 9) (ix := 39) (N := 17) (fk := 0) (C := RX8) (T := TX8) (ty0 := tyX8) (ty := .int) rfl in_X8 tyX8_ok nmX8 (by decide) (in_t1 (List.mem_of_getElem? (i := 78) rfl) rfl) rfl rfl x_fit_int (x_dk dn_133_0_ok 24 rfl))))))
  (e_Tok2
  (e_Tok2
  (e_Lok (e_st (I := eI) (er_aload_n (i := 0) (x_dk dn_133_0_ok 25 rfl))))
  (e_Lok (e_st (I := eI) (er_iload_n (i := 2) (x_dk dn_133_0_ok 26 rfl)))))
  (e_Tok2
  (e_Lok (e_st (I := eI) (er_putf (ci := 8) (k := 10) (ix := 72) (N := 17) (fk := 0) (C := RX8) (T := TX8) (ty0 := tyX8) (ty := .int) rfl in_X8 tyX8_ok nmX8 (by decide) (in_t1 (List.mem_of_getElem? (i := 79) rfl) rfl) rfl rfl x_fit_int (x_dk dn_133_0_ok 27 rfl))))
  (e_Lok (e_rt (I := eI) (k := 0) ⟨(x_dk dn_133_0_ok 28 rfl), rfl⟩)))))))
def te_133 : Nat → eE := te_133_0
theorem te_133_ok : ∀ pc, e_EOq eft cls elay eI n_133 pc (te_133 pc) := te_133_0_ok
def dn_134_0 : List (Nat × Instr × Nat) := [(0, .iconst 0, 1), (1, .istore_n 3, 1), (2, .iload_n 3, 1), (3, .bipush 24, 2), (5, .if_icmp .ge 39, 3), (8, .aload_n 0, 1), (9, .iload_n 1, 1), (10, .iload_n 3, 1), (11, .iadd, 1), (12, .invokevirtual 81, 3), (15, .invokestatic 92, 3), (18, .ifCond .eq 26, 3), (21, .aload_n 0, 1), (22, .iload_n 1, 1), (23, .iload_n 3, 1), (24, .iadd, 1), (25, .invokevirtual 81, 3), (28, .aload_n 0, 1), (29, .iload_n 2, 1), (30, .iload_n 3, 1), (31, .iadd, 1), (32, .invokevirtual 81, 3), (35, .if_icmp .ne 9, 3), (38, .iinc 3 1, 3), (41, .goto (-39), 3), (44, .aload_n 0, 1), (45, .iload_n 1, 1), (46, .iload_n 3, 1), (47, .iadd, 1), (48, .invokevirtual 81, 3), (51, .invokestatic 92, 3), (54, .ifCond .ne 20, 3), (57, .aload_n 0, 1), (58, .iload_n 2, 1), (59, .iload_n 3, 1), (60, .iadd, 1), (61, .invokevirtual 81, 3), (64, .invokestatic 92, 3), (67, .ifCond .ne 7, 3), (70, .iconst 1, 1), (71, .goto 4, 3), (74, .iconst 0, 1), (75, .ireturn, 1)]
set_option maxRecDepth 20000 in
theorem dn_134_0_ok : dn_134_0.all (fun q => decide (decode prog_10_method_18_code q.1 = .ok (q.2.1, q.2.2))) = true := by decide +kernel
def te_134_0 : Nat → eE := (e_T 12 (e_T 5 (e_T 1 (e_T 0 (e_L 0 (0, ei_push (0, 0) 1, 0, 0)) (e_L 1 (0, ei_stor 3 0 2, 0, 0))) (e_T 2 (e_L 2 (0, ei_load 3 0 3, 0, 0)) (e_T 3 (e_L 3 (0, ei_push (0, 24) 5, 0, 0)) (e_L 5 (0, ei_if2 3 44 8, 0, 0))))) (e_T 9 (e_T 8 (e_L 8 (0, ei_load 0 2 9, 0, 0)) (e_L 9 (0, ei_load 1 0 10, 0, 0))) (e_T 10 (e_L 10 (0, ei_load 3 0 11, 0, 0)) (e_T 11 (e_L 11 (0, ei_bin eF_add 12, 0, 0)) (e_L 12 (2, e_nof, 120, 2)))))) (e_T 23 (e_T 18 (e_T 15 (e_L 15 (2, e_nof, 122, 1)) (e_L 18 (0, ei_if1 0 44 21, 0, 0))) (e_T 21 (e_L 21 (0, ei_load 0 2 22, 0, 0)) (e_T 22 (e_L 22 (0, ei_load 1 0 23, 0, 0)) (e_L 23 (0, ei_load 3 0 24, 0, 0))))) (e_T 28 (e_T 24 (e_L 24 (0, ei_bin eF_add 25, 0, 0)) (e_T 25 (e_L 25 (2, e_nof, 120, 2)) (e_L 28 (0, ei_load 0 2 29, 0, 0)))) (e_T 29 (e_L 29 (0, ei_load 2 0 30, 0, 0)) (e_T 30 (e_L 30 (0, ei_load 3 0 31, 0, 0)) (e_L 31 (0, ei_bin eF_add 32, 0, 0)))))))
set_option maxRecDepth 20000 in
set_option maxHeartbeats 4000000 in
theorem te_134_0_ok : ∀ pc, e_EOq eft cls elay eI n_134 pc (te_134_0 pc) :=
  (e_Tok2
  (e_Tok2
  (e_Tok2
  (e_Tok2
  (e_Lok (e_st (I := eI) (er_iconst (n := 0) (z := 0) (v := 0) (x_dk dn_134_0_ok 0 rfl) (by decide) (by decide))))
  (e_Lok (e_st (I := eI) (er_istore_n (i := 3) (x_dk dn_134_0_ok 1 rfl) (by decide +kernel)))))
  (e_Tok2
  (e_Lok (e_st (I := eI) (er_iload_n (i := 3) (x_dk dn_134_0_ok 2 rfl))))
  (e_Tok2
  (e_Lok (e_st (I := eI) (er_bipush (n := 24) (z := 24) (v := 24) (x_dk dn_134_0_ok 3 rfl) (by decide) (by decide))))
  (e_Lok (e_st (I := eI) (er_icmpge (off := 39) (tg := 44) (x_dk dn_134_0_ok 4 rfl) (by decide)))))))
  (e_Tok2
  (e_Tok2
  (e_Lok (e_st (I := eI) (er_aload_n (i := 0) (x_dk dn_134_0_ok 5 rfl))))
  (e_Lok (e_st (I := eI) (er_iload_n (i := 1) (x_dk dn_134_0_ok 6 rfl)))))
  (e_Tok2
  (e_Lok (e_st (I := eI) (er_iload_n (i := 3) (x_dk dn_134_0_ok 7 rfl))))
  (e_Tok2
  (e_Lok (e_st (I := eI) (er_iadd (x_dk dn_134_0_ok 8 rfl))))
  (e_Lok (e_ca (I := eI) (q' := n_120) rfl (xr_callV (q' := n_120) (ix := 81) (n := 1) (in_t5 (List.mem_of_getElem? (i := 88) rfl) rfl) good_w (in_t1 (List.mem_of_getElem? (i := 2) rfl) rfl) (in_t5 (List.mem_of_getElem? (i := 85) rfl) rfl) (in_t5 (List.mem_of_getElem? (i := 87) rfl) rfl) (in_s1 (List.mem_of_getElem? (i := 13) rfl)) (by decide +kernel) (by decide +kernel) (by decide +kernel) (x_dk dn_134_0_ok 9 rfl))))))))
  (e_Tok2
  (e_Tok2
  (e_Tok2
  (e_Lok (e_ca (I := eI) (q' := n_122) rfl (xr_callS (q' := n_122) (ix := 92) (n := 1) (in_t5 (List.mem_of_getElem? (i := 105) rfl) rfl) good_w (in_t1 (List.mem_of_getElem? (i := 2) rfl) rfl) (in_t5 (List.mem_of_getElem? (i := 103) rfl) rfl) (in_t5 (List.mem_of_getElem? (i := 104) rfl) rfl) (by decide +kernel) (by decide +kernel) (x_dk dn_134_0_ok 10 rfl))))
  (e_Lok (e_st (I := eI) (er_ifeq (off := 26) (tg := 44) (x_dk dn_134_0_ok 11 rfl) (by decide)))))
  (e_Tok2
  (e_Lok (e_st (I := eI) (er_aload_n (i := 0) (x_dk dn_134_0_ok 12 rfl))))
  (e_Tok2
  (e_Lok (e_st (I := eI) (er_iload_n (i := 1) (x_dk dn_134_0_ok 13 rfl))))
  (e_Lok (e_st (I := eI) (er_iload_n (i := 3) (x_dk dn_134_0_ok 14 rfl)))))))
  (e_Tok2
  (e_Tok2
  (e_Lok (e_st (I := eI) (er_iadd (x_dk dn_134_0_ok 15 rfl))))
  (e_Tok2
  (e_Lok (e_ca (I := eI) (q' := n_120) rfl (xr_callV (q' := n_120) (ix := 81) (n := 1) (in_t5 (List.mem_of_getElem? (i := 88) rfl) rfl) good_w (in_t1 (List.mem_of_getElem? (i := 2) rfl) rfl) (in_t5 (List.mem_of_getElem? (i := 85) rfl) rfl) (in_t5 (List.mem_of_getElem? (i := 87) rfl) rfl) (in_s1 (List.mem_of_getElem? (i := 13) rfl)) (by decide +kernel) (by decide +kernel) (by decide +kernel) (x_dk dn_134_0_ok 16 rfl))))
  (e_Lok (e_st (I := eI) (er_aload_n (i := 0) (x_dk dn_134_0_ok 17 rfl))))))
  (e_Tok2
  (e_Lok (e_st (I := eI) (er_iload_n (i := 2) (x_dk dn_134_0_ok 18 rfl))))
  (e_Tok2
  (e_Lok (e_st (I := eI) (er_iload_n (i := 3) (x_dk dn_134_0_ok 19 rfl))))
  (e_Lok (e_st (I := eI) (er_iadd (x_dk dn_134_0_ok 20 rfl)))))))))
def te_134_21 : Nat → eE := (e_T 54 (e_T 44 (e_T 35 (e_T 32 (e_L 32 (2, e_nof, 120, 2)) (e_L 35 (0, ei_if2 1 44 38, 0, 0))) (e_T 38 (e_L 38 (0, ei_inc 3 1 41, 0, 0)) (e_T 41 (e_L 41 (0, ei_goto 2, 0, 0)) (e_L 44 (0, ei_load 0 2 45, 0, 0))))) (e_T 47 (e_T 45 (e_L 45 (0, ei_load 1 0 46, 0, 0)) (e_T 46 (e_L 46 (0, ei_load 3 0 47, 0, 0)) (e_L 47 (0, ei_bin eF_add 48, 0, 0)))) (e_T 48 (e_L 48 (2, e_nof, 120, 2)) (e_T 51 (e_L 51 (2, e_nof, 122, 1)) (e_L 54 (0, ei_if1 1 74 57, 0, 0)))))) (e_T 61 (e_T 58 (e_T 57 (e_L 57 (0, ei_load 0 2 58, 0, 0)) (e_L 58 (0, ei_load 2 0 59, 0, 0))) (e_T 59 (e_L 59 (0, ei_load 3 0 60, 0, 0)) (e_T 60 (e_L 60 (0, ei_bin eF_add 61, 0, 0)) (e_L 61 (2, e_nof, 120, 2))))) (e_T 70 (e_T 64 (e_L 64 (2, e_nof, 122, 1)) (e_T 67 (e_L 67 (0, ei_if1 1 74 70, 0, 0)) (e_L 70 (0, ei_push (0, 1) 71, 0, 0)))) (e_T 71 (e_L 71 (0, ei_goto 75, 0, 0)) (e_T 74 (e_L 74 (0, ei_push (0, 0) 75, 0, 0)) (e_L 75 (1, e_nof, 4, 0)))))))
set_option maxRecDepth 20000 in
set_option maxHeartbeats 4000000 in
theorem te_134_21_ok : ∀ pc, e_EOq eft cls elay eI n_134 pc (te_134_21 pc) :=
  (e_Tok2
  (e_Tok2
  (e_Tok2
  (e_Tok2
  (e_Lok (e_ca (I := eI) (q' := n_120) rfl (xr_callV (q' := n_120) (ix := 81) (n := 1) (in_t5 (List.mem_of_getElem? (i := 88) rfl) rfl) good_w (in_t1 (List.mem_of_getElem? (i := 2) rfl) rfl) (in_t5 (List.mem_of_getElem? (i := 85) rfl) rfl) (in_t5 (List.mem_of_getElem? (i := 87) rfl) rfl) (in_s1 (List.mem_of_getElem? (i := 13) rfl)) (by decide +kernel) (by decide +kernel) (by decide +kernel) (x_dk dn_134_0_ok 21 rfl))))
  (e_Lok (e_st (I := eI) (er_icmpne (off := 9) (tg := 44) (x_dk dn_134_0_ok 22 rfl) (by decide)))))
  (e_Tok2
  (e_Lok (e_st (I := eI) (er_iinc (i := 3) (n := 1) (x_dk dn_134_0_ok 23 rfl) (by decide +kernel) (by decide))))
  (e_Tok2
  (e_Lok (e_st (I := eI) (er_goto (off := (-39)) (tg := 2) (x_dk dn_134_0_ok 24 rfl) (by decide))))
  (e_Lok (e_st (I := eI) (er_aload_n (i := 0) (x_dk dn_134_0_ok 25 rfl)))))))
  (e_Tok2
  (e_Tok2
  (e_Lok (e_st (I := eI) (er_iload_n (i := 1) (x_dk dn_134_0_ok 26 rfl))))
  (e_Tok2
  (e_Lok (e_st (I := eI) (er_iload_n (i := 3) (x_dk dn_134_0_ok 27 rfl))))
  (e_Lok (e_st (I := eI) (er_iadd (x_dk dn_134_0_ok 28 rfl))))))
  (e_Tok2
  (e_Lok (e_ca (I := eI) (q' := n_120) rfl (xr_callV (q' := n_120) (ix := 81) (n := 1) (in_t5 (List.mem_of_getElem? (i := 88) rfl) rfl) good_w (in_t1 (List.mem_of_getElem? (i := 2) rfl) rfl) (in_t5 (List.mem_of_getElem? (i := 85) rfl) rfl) (in_t5 (List.mem_of_getElem? (i := 87) rfl) rfl) (in_s1 (List.mem_of_getElem? (i := 13) rfl)) (by decide +kernel) (by decide +kernel) (by decide +kernel) (x_dk dn_134_0_ok 29 rfl))))
  (e_Tok2
  (e_Lok (e_ca (I := eI) (q' := n_122) rfl (xr_callS (q' := n_122) (ix := 92) (n := 1) (in_t5 (List.mem_of_getElem? (i := 105) rfl) rfl) good_w (in_t1 (List.mem_of_getElem? (i := 2) rfl) rfl) (in_t5 (List.mem_of_getElem? (i := 103) rfl) rfl) (in_t5 (List.mem_of_getElem? (i := 104) rfl) rfl) (by decide +kernel) (by decide +kernel) (x_dk dn_134_0_ok 30 rfl))))
  (e_Lok (e_st (I := eI) (er_ifne (off := 20) (tg := 74) (x_dk dn_134_0_ok 31 rfl) (by decide))))))))
  (e_Tok2
  (e_Tok2
  (e_Tok2
  (e_Lok (e_st (I := eI) (er_aload_n (i := 0) (x_dk dn_134_0_ok 32 rfl))))
  (e_Lok (e_st (I := eI) (er_iload_n (i := 2) (x_dk dn_134_0_ok 33 rfl)))))
  (e_Tok2
  (e_Lok (e_st (I := eI) (er_iload_n (i := 3) (x_dk dn_134_0_ok 34 rfl))))
  (e_Tok2
  (e_Lok (e_st (I := eI) (er_iadd (x_dk dn_134_0_ok 35 rfl))))
  (e_Lok (e_ca (I := eI) (q' := n_120) rfl (xr_callV (q' := n_120) (ix := 81) (n := 1) (in_t5 (List.mem_of_getElem? (i := 88) rfl) rfl) good_w (in_t1 (List.mem_of_getElem? (i := 2) rfl) rfl) (in_t5 (List.mem_of_getElem? (i := 85) rfl) rfl) (in_t5 (List.mem_of_getElem? (i := 87) rfl) rfl) (in_s1 (List.mem_of_getElem? (i := 13) rfl)) (by decide +kernel) (by decide +kernel) (by decide +kernel) (x_dk dn_134_0_ok 36 rfl)))))))
  (e_Tok2
  (e_Tok2
  (e_Lok (e_ca (I := eI) (q' := n_122) rfl (xr_callS (q' := n_122) (ix := 92) (n := 1) (in_t5 (List.mem_of_getElem? (i := 105) rfl) rfl) good_w (in_t1 (List.mem_of_getElem? (i := 2) rfl) rfl) (in_t5 (List.mem_of_getElem? (i := 103) rfl) rfl) (in_t5 (List.mem_of_getElem? (i := 104) rfl) rfl) (by decide +kernel) (by decide +kernel) (x_dk dn_134_0_ok 37 rfl))))
  (e_Tok2
  (e_Lok (e_st (I := eI) (er_ifne (off := 7) (tg := 74) (x_dk dn_134_0_ok 38 rfl) (by decide))))
  (e_Lok (e_st (I := eI) (er_iconst (n := 1) (z := 1) (v := 1) (x_dk dn_134_0_ok 39 rfl) (by decide) (by decide))))))
  (e_Tok2
  (e_Lok (e_st (I := eI) (er_goto (off := 4) (tg := 75) (x_dk dn_134_0_ok 40 rfl) (by decide))))
  (e_Tok2
  (e_Lok (e_st (I := eI) (er_iconst (n := 0) (z := 0) (v := 0) (x_dk dn_134_0_ok 41 rfl) (by decide) (by decide))))
  (e_Lok (e_rt (I := eI) (k := 4) ⟨(x_dk dn_134_0_ok 42 rfl), rfl⟩)))))))
def te_134 : Nat → eE := (e_T 31 te_134_0 te_134_21)
theorem te_134_ok : ∀ pc, e_EOq eft cls elay eI n_134 pc (te_134 pc) := (e_Tok2 (te_134_0_ok) (te_134_21_ok))
end
