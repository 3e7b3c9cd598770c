noncomputable section
def dl_13_0 : List (Nat × Instr × Nat) := [(0, .iconst 0, 1), (1, .istore_n 1, 1), (2, .iload_n 1, 1), (3, .bipush 16, 2), (5, .if_icmp .ge 18, 3), (8, .aload_n 0, 1), (9, .getfield 40, 3), (12, .iload_n 1, 1), (13, .aaload, 1), (14, .invokevirtual 58, 3), (17, .iinc 1 1, 3), (20, .goto (-18), 3), (23, .aload_n 0, 1), (24, .getfield 44, 3), (27, .iconst (-1), 1), (28, .invokestatic 61, 3), (31, .aload_n 0, 1), (32, .iconst 0, 1), (33, .putfield 67, 3), (36, .return_, 1)]
set_option maxRecDepth 20000 in
theorem dl_13_0_ok : dl_13_0.all (fun q => decide (decode prog_5_method_2_code q.1 = .ok (q.2.1, q.2.2))) = true := xa_g_ok (by decide +kernel)
def tb_13_0 : Nat → xE := (x_T 14 (x_T 5 (x_T 1 (x_T 0 (x_L 0 (0, xi_push (0, 0, 0) 1, 0, 0)) (x_L 1 (0, xi_stor 1 0 2, 0, 0))) (x_T 2 (x_L 2 (0, xi_load 1 0 3, 0, 0)) (x_T 3 (x_L 3 (0, xi_push (0, 16, 16) 5, 0, 0)) (x_L 5 (0, xi_if2 3 23 8, 0, 0))))) (x_T 9 (x_T 8 (x_L 8 (0, xi_load 0 2 9, 0, 0)) (x_L 9 (0, xi_getf 3 4 12, 0, 0))) (x_T 12 (x_L 12 (0, xi_load 1 0 13, 0, 0)) (x_T 13 (x_L 13 (0, xi_aald 14, 0, 0)) (x_L 14 (2, x_nof, 27, 1)))))) (x_T 27 (x_T 20 (x_T 17 (x_L 17 (0, xi_inc 1 1 20, 0, 0)) (x_L 20 (0, xi_goto 2, 0, 0))) (x_T 23 (x_L 23 (0, xi_load 0 2 24, 0, 0)) (x_T 24 (x_L 24 (0, xi_getf 3 5 27, 0, 0)) (x_L 27 (0, xi_push (0, (-1), (-1)) 28, 0, 0))))) (x_T 31 (x_T 28 (x_L 28 (2, x_nof, 40, 2)) (x_L 31 (0, xi_load 0 2 32, 0, 0))) (x_T 32 (x_L 32 (0, xi_push (0, 0, 0) 33, 0, 0)) (x_T 33 (x_L 33 (0, xi_putf 3 9 0 36, 0, 0)) (x_L 36 (1, x_nof, 0, 0)))))))
set_option maxRecDepth 20000 in
set_option maxHeartbeats 4000000 in
theorem tb_13_0_ok (K : xKx) (hK : x_KP K) : ∀ pc, x_EOq cls K xJ mq_13 pc (tb_13_0 pc) :=
  (x_Tok2
  (x_Tok2
  (x_Tok2
  (x_Tok2
  (x_Lok (x_st (I := xJ) (xr_iconst (n := 0) (z := 0) (v := 0) (x_dk dl_13_0_ok 0 rfl) (by decide) (by decide))))
  (x_Lok (x_st (I := xJ) (xr_istore_n (i := 1) (x_dk dl_13_0_ok 1 rfl) (by decide +kernel)))))
  (x_Tok2
  (x_Lok (x_st (I := xJ) (xr_iload_n (i := 1) (x_dk dl_13_0_ok 2 rfl))))
  (x_Tok2
  (x_Lok (x_st (I := xJ) (xr_bipush (n := 16) (z := 16) (v := 16) (x_dk dl_13_0_ok 3 rfl) (by decide) (by decide))))
  (x_Lok (x_st (I := xJ) (xr_icmpge (off := 18) (tg := 23) (x_dk dl_13_0_ok 4 rfl) (by decide)))))))
  (x_Tok2
  (x_Tok2
  (x_Lok (x_st (I := xJ) (xr_aload_n (i := 0) (x_dk dl_13_0_ok 5 rfl))))
  (x_Lok (x_st (I := xJ) (xr_getf (ci := 3) (k := 4) (ix := 40) (N := 12) (C := RX3) (T := TX3) rfl in_X3 (by decide) (in_t3 (List.mem_of_getElem? (i := 96) rfl) rfl) (x_dk dl_13_0_ok 6 rfl)))))
  (x_Tok2
  (x_Lok (x_st (I := xJ) (xr_iload_n (i := 1) (x_dk dl_13_0_ok 7 rfl))))
  (x_Tok2
  (x_Lok (x_st (I := xJ) (xr_aaload (x_dk dl_13_0_ok 8 rfl))))
  (x_Lok (x_ca (I := xJ) (q' := mq_27) rfl (xr_callV (q' := mq_27) (ix := 58) (n := 0) (in_t4 (List.mem_of_getElem? (i := 98) rfl) rfl) good_w (in_t1 (List.mem_of_getElem? (i := 10) rfl) rfl) (in_t4 (List.mem_of_getElem? (i := 95) rfl) rfl) (in_t4 (List.mem_of_getElem? (i := 96) rfl) rfl) (in_t4 (List.mem_of_getElem? (i := 97) rfl) rfl) (by decide +kernel) (by decide +kernel) (by decide +kernel) (x_dk dl_13_0_ok 9 rfl))))))))
  (x_Tok2
  (x_Tok2
  (x_Tok2
  (x_Lok (x_st (I := xJ) (xr_iinc (i := 1) (n := 1) (x_dk dl_13_0_ok 10 rfl) (by decide +kernel) (by decide))))
  (x_Lok (x_st (I := xJ) (xr_goto (off := (-18)) (tg := 2) (x_dk dl_13_0_ok 11 rfl) (by decide)))))
  (x_Tok2
  (x_Lok (x_st (I := xJ) (xr_aload_n (i := 0) (x_dk dl_13_0_ok 12 rfl))))
  (x_Tok2
  (x_Lok (x_st (I := xJ) (xr_getf (ci := 3) (k := 5) (ix := 44) (N := 12) (C := RX3) (T := TX3) rfl in_X3 (by decide) (in_t3 (List.mem_of_getElem? (i := 98) rfl) rfl) (x_dk dl_13_0_ok 13 rfl))))
  (x_Lok (x_st (I := xJ) (xr_iconst (n := (-1)) (z := (-1)) (v := (-1)) (x_dk dl_13_0_ok 14 rfl) (by decide) (by decide)))))))
  (x_Tok2
  (x_Tok2
  (x_Lok (x_ca (I := xJ) (q' := mq_40) rfl (xr_callS (q' := mq_40) (ix := 61) (n := 2) (in_t4 (List.mem_of_getElem? (i := 9) rfl) rfl) good_w (in_t1 (List.mem_of_getElem? (i := 13) rfl) rfl) (in_t4 (List.mem_of_getElem? (i := 107) rfl) rfl) (in_t4 (List.mem_of_getElem? (i := 8) rfl) rfl) (by decide +kernel) (by decide +kernel) (x_dk dl_13_0_ok 15 rfl))))
  (x_Lok (x_st (I := xJ) (xr_aload_n (i := 0) (x_dk dl_13_0_ok 16 rfl)))))
  (x_Tok2
  (x_Lok (x_st (I := xJ) (xr_iconst (n := 0) (z := 0) (v := 0) (x_dk dl_13_0_ok 17 rfl) (by decide) (by decide))))
  (x_Tok2
  (x_Lok (x_st (I := xJ) (xr_putf (ci := 3) (k := 9) (ix := 67) (N := 12) (fk := 0) (C := RX3) (T := TX3) (ty0 := tyX3) (ty := .int) rfl in_X3 tyX3_ok nmX3 (by decide) (in_t3 (List.mem_of_getElem? (i := 103) rfl) rfl) rfl rfl x_fit_int (x_dk dl_13_0_ok 18 rfl))))
  (x_Lok (x_rt (I := xJ) (k := 0) ⟨(x_dk dl_13_0_ok 19 rfl), rfl⟩)))))))
def tb_13 : Nat → xE := tb_13_0
theorem tb_13_ok (K : xKx) (hK : x_KP K) : ∀ pc, x_EOq cls K xJ mq_13 pc (tb_13 pc) := tb_13_0_ok K hK
def dl_14_0 : List (Nat × Instr × Nat) := [(0, .aload_n 0, 1), (1, .invokespecial 3, 3), (4, .aload_n 0, 1), (5, .iconst 4, 1), (6, .newarray .int, 2), (8, .putfield 9, 3), (11, .aload_n 0, 1), (12, .iconst 4, 1), (13, .newarray .int, 2), (15, .putfield 15, 3), (18, .aload_n 0, 1), (19, .iconst 4, 1), (20, .newarray .int, 2), (22, .putfield 18, 3), (25, .aload_n 0, 1), (26, .iconst 4, 1), (27, .newarray .int, 2), (29, .putfield 21, 3), (32, .aload_n 0, 1), (33, .iconst 4, 1), (34, .newarray .int, 2), (36, .putfield 24, 3), (39, .aload_n 0, 1), (40, .iconst 4, 1), (41, .newarray .int, 2), (43, .putfield 27, 3), (46, .aload_n 0, 1), (47, .iconst 4, 1), (48, .newarray .int, 2), (50, .putfield 30, 3), (53, .aload_n 0, 1), (54, .iconst 4, 1), (55, .newarray .int, 2), (57, .putfield 33, 3), (60, .aload_n 0, 1), (61, .iconst 4, 1), (62, .newarray .int, 2), (64, .putfield 36, 3), (67, .aload_n 0, 1), (68, .iconst 4, 1), (69, .newarray .int, 2), (71, .putfield 39, 3), (74, .aload_n 0, 1), (75, .iconst 4, 1), (76, .bipush 32, 2), (78, .multianewarray 42 2, 4), (82, .putfield 44, 3), (85, .aload_n 0, 1), (86, .iconst 4, 1), (87, .newarray .int, 2), (89, .putfield 47, 3), (92, .aload_n 0, 1), (93, .bipush 32, 2), (95, .newarray .int, 2), (97, .putfield 50, 3), (100, .aload_n 0, 1), (101, .bipush 32, 2), (103, .newarray .int, 2), (105, .putfield 53, 3), (108, .aload_n 0, 1), (109, .bipush 32, 2), (111, .newarray .int, 2), (113, .putfield 56, 3), (116, .aload_n 0, 1), (117, .bipush 32, 2), (119, .newarray .int, 2), (121, .putfield 59, 3), (124, .aload_n 0, 1), (125, .bipush 32, 2), (127, .newarray .int, 2), (129, .putfield 62, 3), (132, .aload_n 0, 1), (133, .bipush 32, 2), (135, .iconst 4, 1), (136, .multianewarray 42 2, 4), (140, .putfield 65, 3), (143, .return_, 1)]
set_option maxRecDepth 20000 in
theorem dl_14_0_ok : dl_14_0.all (fun q => decide (decode prog_6_method_1_code q.1 = .ok (q.2.1, q.2.2))) = true := xa_g_ok (by decide +kernel)
def tb_14_0 : Nat → xE := (x_T 32 (x_T 13 (x_T 5 (x_T 1 (x_T 0 (x_L 0 (0, xi_load 0 2 1, 0, 0)) (x_L 1 (0, xi_oi 4, 0, 0))) (x_T 4 (x_L 4 (0, xi_load 0 2 5, 0, 0)) (x_L 5 (0, xi_push (0, 4, 4) 6, 0, 0)))) (x_T 8 (x_T 6 (x_L 6 (0, xi_newa 1 0 (0, 0, 0) (xm_c mq_14) (xm_s mq_14) 8, 0, 0)) (x_L 8 (0, xi_putf 4 2 2 11, 0, 0))) (x_T 11 (x_L 11 (0, xi_load 0 2 12, 0, 0)) (x_T 12 (x_L 12 (0, xi_push (0, 4, 4) 13, 0, 0)) (x_L 13 (0, xi_newa 1 0 (0, 0, 0) (xm_c mq_14) (xm_s mq_14) 15, 0, 0)))))) (x_T 22 (x_T 18 (x_T 15 (x_L 15 (0, xi_putf 4 3 2 18, 0, 0)) (x_L 18 (0, xi_load 0 2 19, 0, 0))) (x_T 19 (x_L 19 (0, xi_push (0, 4, 4) 20, 0, 0)) (x_T 20 (x_L 20 (0, xi_newa 1 0 (0, 0, 0) (xm_c mq_14) (xm_s mq_14) 22, 0, 0)) (x_L 22 (0, xi_putf 4 4 2 25, 0, 0))))) (x_T 26 (x_T 25 (x_L 25 (0, xi_load 0 2 26, 0, 0)) (x_L 26 (0, xi_push (0, 4, 4) 27, 0, 0))) (x_T 27 (x_L 27 (0, xi_newa 1 0 (0, 0, 0) (xm_c mq_14) (xm_s mq_14) 29, 0, 0)) (x_T 29 (x_L 29 (0, xi_putf 4 5 2 32, 0, 0)) (x_L 32 (0, xi_load 0 2 33, 0, 0))))))) (x_T 47 (x_T 39 (x_T 34 (x_T 33 (x_L 33 (0, xi_push (0, 4, 4) 34, 0, 0)) (x_L 34 (0, xi_newa 1 0 (0, 0, 0) (xm_c mq_14) (xm_s mq_14) 36, 0, 0))) (x_T 36 (x_L 36 (0, xi_putf 4 6 2 39, 0, 0)) (x_L 39 (0, xi_load 0 2 40, 0, 0)))) (x_T 41 (x_T 40 (x_L 40 (0, xi_push (0, 4, 4) 41, 0, 0)) (x_L 41 (0, xi_newa 1 0 (0, 0, 0) (xm_c mq_14) (xm_s mq_14) 43, 0, 0))) (x_T 43 (x_L 43 (0, xi_putf 4 7 2 46, 0, 0)) (x_T 46 (x_L 46 (0, xi_load 0 2 47, 0, 0)) (x_L 47 (0, xi_push (0, 4, 4) 48, 0, 0)))))) (x_T 55 (x_T 50 (x_T 48 (x_L 48 (0, xi_newa 1 0 (0, 0, 0) (xm_c mq_14) (xm_s mq_14) 50, 0, 0)) (x_L 50 (0, xi_putf 4 8 2 53, 0, 0))) (x_T 53 (x_L 53 (0, xi_load 0 2 54, 0, 0)) (x_T 54 (x_L 54 (0, xi_push (0, 4, 4) 55, 0, 0)) (x_L 55 (0, xi_newa 1 0 (0, 0, 0) (xm_c mq_14) (xm_s mq_14) 57, 0, 0))))) (x_T 60 (x_T 57 (x_L 57 (0, xi_putf 4 9 2 60, 0, 0)) (x_L 60 (0, xi_load 0 2 61, 0, 0))) (x_T 61 (x_L 61 (0, xi_push (0, 4, 4) 62, 0, 0)) (x_T 62 (x_L 62 (0, xi_newa 1 0 (0, 0, 0) (xm_c mq_14) (xm_s mq_14) 64, 0, 0)) (x_L 64 (0, xi_putf 4 10 2 67, 0, 0))))))))
set_option maxRecDepth 20000 in
set_option maxHeartbeats 4000000 in
theorem tb_14_0_ok (K : xKx) (hK : x_KP K) : ∀ pc, x_EOq cls K xJ mq_14 pc (tb_14_0 pc) :=
  (x_Tok2
  (x_Tok2
  (x_Tok2
  (x_Tok2
  (x_Tok2
  (x_Lok (x_st (I := xJ) (xr_aload_n (i := 0) (x_dk dl_14_0_ok 0 rfl))))
  (x_Lok (x_st (I := xJ) (xr_oi (ix := 3) (in_t1 (List.mem_of_getElem? (i := 172) rfl) rfl) (in_t1 (List.mem_of_getElem? (i := 27) rfl) rfl) (in_t1 (List.mem_of_getElem? (i := 28) rfl) rfl) (x_dk dl_14_0_ok 1 rfl)))))
  (x_Tok2
  (x_Lok (x_st (I := xJ) (xr_aload_n (i := 0) (x_dk dl_14_0_ok 2 rfl))))
  (x_Lok (x_st (I := xJ) (xr_iconst (n := 4) (z := 4) (v := 4) (x_dk dl_14_0_ok 3 rfl) (by decide) (by decide))))))
  (x_Tok2
  (x_Tok2
  (x_Lok (x_st (I := xJ) (xr_newa (kd := 1) (b := false) (ty := .int) rfl rfl (in_t1 (List.mem_of_getElem? (i := 64) rfl) rfl) (x_dk dl_14_0_ok 4 rfl))))
  (x_Lok (x_st (I := xJ) (xr_putF (ci := 4) (k := 2) (ix := 9) (N := 20) (fk := 2) (C := RX4) (T := TX4) (ty0 := tyX4) (ty := .array .int) rfl in_X4 tyX4_ok nmX4 (by decide) (in_t1 (List.mem_of_getElem? (i := 179) rfl) rfl) rfl rfl rfl rfl x_fit_arr (x_dk dl_14_0_ok 5 rfl)))))
  (x_Tok2
  (x_Lok (x_st (I := xJ) (xr_aload_n (i := 0) (x_dk dl_14_0_ok 6 rfl))))
  (x_Tok2
  (x_Lok (x_st (I := xJ) (xr_iconst (n := 4) (z := 4) (v := 4) (x_dk dl_14_0_ok 7 rfl) (by decide) (by decide))))
  (x_Lok (x_st (I := xJ) (xr_newa (kd := 1) (b := false) (ty := .int) rfl rfl (in_t1 (List.mem_of_getElem? (i := 64) rfl) rfl) (x_dk dl_14_0_ok 8 rfl))))))))
  (x_Tok2
  (x_Tok2
  (x_Tok2
  (x_Lok (x_st (I := xJ) (xr_putF (ci := 4) (k := 3) (ix := 15) (N := 20) (fk := 2) (C := RX4) (T := TX4) (ty0 := tyX4) (ty := .array .int) rfl in_X4 tyX4_ok nmX4 (by decide) (in_t1 (List.mem_of_getElem? (i := 181) rfl) rfl) rfl rfl rfl rfl x_fit_arr (x_dk dl_14_0_ok 9 rfl))))
  (x_Lok (x_st (I := xJ) (xr_aload_n (i := 0) (x_dk dl_14_0_ok 10 rfl)))))
  (x_Tok2
  (x_Lok (x_st (I := xJ) (xr_iconst (n := 4) (z := 4) (v := 4) (x_dk dl_14_0_ok 11 rfl) (by decide) (by decide))))
  (x_Tok2
  (x_Lok (x_st (I := xJ) (xr_newa (kd := 1) (b := false) (ty := .int) rfl rfl (in_t1 (List.mem_of_getElem? (i := 64) rfl) rfl) (x_dk dl_14_0_ok 12 rfl))))
  (x_Lok (x_st (I := xJ) (xr_putF (ci := 4) (k := 4) (ix := 18) (N := 20) (fk := 2) (C := RX4) (T := TX4) (ty0 := tyX4) (ty := .array .int) rfl in_X4 tyX4_ok nmX4 (by decide) (in_t1 (List.mem_of_getElem? (i := 183) rfl) rfl) rfl rfl rfl rfl x_fit_arr (x_dk dl_14_0_ok 13 rfl)))))))
  (x_Tok2
  (x_Tok2
  (x_Lok (x_st (I := xJ) (xr_aload_n (i := 0) (x_dk dl_14_0_ok 14 rfl))))
  (x_Lok (x_st (I := xJ) (xr_iconst (n := 4) (z := 4) (v := 4) (x_dk dl_14_0_ok 15 rfl) (by decide) (by decide)))))
  (x_Tok2
  (x_Lok (x_st (I := xJ) (xr_newa (kd := 1) (b := false) (ty := .int) rfl rfl (in_t1 (List.mem_of_getElem? (i := 64) rfl) rfl) (x_dk dl_14_0_ok 16 rfl))))
  (x_Tok2
  (x_Lok (x_st (I := xJ) (xr_putF (ci := 4) (k := 5) (ix := 21) (N := 20) (fk := 2) (C := RX4) (T := TX4) (ty0 := tyX4) (ty := .array .int) rfl in_X4 tyX4_ok nmX4 (by decide) (in_t1 (List.mem_of_getElem? (i := 185) rfl) rfl) rfl rfl rfl rfl x_fit_arr (x_dk dl_14_0_ok 17 rfl))))
  (x_Lok (x_st (I := xJ) (xr_aload_n (i := 0) (x_dk dl_14_0_ok 18 rfl)))))))))
  (x_Tok2
  (x_Tok2
  (x_Tok2
  (x_Tok2
  (x_Lok (x_st (I := xJ) (xr_iconst (n := 4) (z := 4) (v := 4) (x_dk dl_14_0_ok 19 rfl) (by decide) (by decide))))
  (x_Lok (x_st (I := xJ) (xr_newa (kd := 1) (b := false) (ty := .int) rfl rfl (in_t1 (List.mem_of_getElem? (i := 64) rfl) rfl) (x_dk dl_14_0_ok 20 rfl)))))
  (x_Tok2
  (x_Lok (x_st (I := xJ) (xr_putF (ci := 4) (k := 6) (ix := 24) (N := 20) (fk := 2) (C := RX4) (T := TX4) (ty0 := tyX4) (ty := .array .int) rfl in_X4 tyX4_ok nmX4 (by decide) (in_t1 (List.mem_of_getElem? (i := 187) rfl) rfl) rfl rfl rfl rfl x_fit_arr (x_dk dl_14_0_ok 21 rfl))))
  (x_Lok (x_st (I := xJ) (xr_aload_n (i := 0) (x_dk dl_14_0_ok 22 rfl))))))
  (x_Tok2
  (x_Tok2
  (x_Lok (x_st (I := xJ) (xr_iconst (n := 4) (z := 4) (v := 4) (x_dk dl_14_0_ok 23 rfl) (by decide) (by decide))))
  (x_Lok (x_st (I := xJ) (xr_newa (kd := 1) (b := false) (ty := .int) rfl rfl (in_t1 (List.mem_of_getElem? (i := 64) rfl) rfl) (x_dk dl_14_0_ok 24 rfl)))))
  (x_Tok2
  (x_Lok (x_st (I := xJ) (xr_putF (ci := 4) (k := 7) (ix := 27) (N := 20) (fk := 2) (C := RX4) (T := TX4) (ty0 := tyX4) (ty := .array .int) rfl in_X4 tyX4_ok nmX4 (by decide) (in_t1 (List.mem_of_getElem? (i := 189) rfl) rfl) rfl rfl rfl rfl x_fit_arr (x_dk dl_14_0_ok 25 rfl))))
  (x_Tok2
  (x_Lok (x_st (I := xJ) (xr_aload_n (i := 0) (x_dk dl_14_0_ok 26 rfl))))
  (x_Lok (x_st (I := xJ) (xr_iconst (n := 4) (z := 4) (v := 4) (x_dk dl_14_0_ok 27 rfl) (by decide) (by decide))))))))
  (x_Tok2
  (x_Tok2
  (x_Tok2
  (x_Lok (x_st (I := xJ) (xr_newa (kd := 1) (b := false) (ty := .int) rfl rfl (in_t1 (List.mem_of_getElem? (i := 64) rfl) rfl) (x_dk dl_14_0_ok 28 rfl))))
  (x_Lok (x_st (I := xJ) (xr_putF (ci := 4) (k := 8) (ix := 30) (N := 20) (fk := 2) (C := RX4) (T := TX4) (ty0 := tyX4) (ty := .array .int) rfl in_X4 tyX4_ok nmX4 (by decide) (in_t1 (List.mem_of_getElem? (i := 190) rfl) rfl) rfl rfl rfl rfl x_fit_arr (x_dk dl_14_0_ok 29 rfl)))))
  (x_Tok2
  (x_Lok (x_st (I := xJ) (xr_aload_n (i := 0) (x_dk dl_14_0_ok 30 rfl))))
  (x_Tok2
  (x_Lok (x_st (I := xJ) (xr_iconst (n := 4) (z := 4) (v := 4) (x_dk dl_14_0_ok 31 rfl) (by decide) (by decide))))
  (x_Lok (x_st (I := xJ) (xr_newa (kd := 1) (b := false) (ty := .int) rfl rfl (in_t1 (List.mem_of_getElem? (i := 64) rfl) rfl) (x_dk dl_14_0_ok 32 rfl)))))))
  (x_Tok2
  (x_Tok2
  (x_Lok (x_st (I := xJ) (xr_putF (ci := 4) (k := 9) (ix := 33) (N := 20) (fk := 2) (C := RX4) (T := TX4) (ty0 := tyX4) (ty := .array .int) rfl in_X4 tyX4_ok nmX4 (by decide) (in_t1 (List.mem_of_getElem? (i := 191) rfl) rfl) rfl rfl rfl rfl x_fit_arr (x_dk dl_14_0_ok 33 rfl))))
  (x_Lok (x_st (I := xJ) (xr_aload_n (i := 0) (x_dk dl_14_0_ok 34 rfl)))))
  (x_Tok2
  (x_Lok (x_st (I := xJ) (xr_iconst (n := 4) (z := 4) (v := 4) (x_dk dl_14_0_ok 35 rfl) (by decide) (by decide))))
  (x_Tok2
  (x_Lok (x_st (I := xJ) (xr_newa (kd := 1) (b := false) (ty := .int) rfl rfl (in_t1 (List.mem_of_getElem? (i := 64) rfl) rfl) (x_dk dl_14_0_ok 36 rfl))))
  (x_Lok (x_st (I := xJ) (xr_putF (ci := 4) (k := 10) (ix := 36) (N := 20) (fk := 2) (C := RX4) (T := TX4) (ty0 := tyX4) (ty := .array .int) rfl in_X4 tyX4_ok nmX4 (by decide) (in_t1 (List.mem_of_getElem? (i := 192) rfl) rfl) rfl rfl rfl rfl x_fit_arr (x_dk dl_14_0_ok 37 rfl))))))))))
def tb_14_38 : Nat → xE := (x_T 101 (x_T 82 (x_T 71 (x_T 68 (x_T 67 (x_L 67 (0, xi_load 0 2 68, 0, 0)) (x_L 68 (0, xi_push (0, 4, 4) 69, 0, 0))) (x_T 69 (x_L 69 (0, xi_newa 1 0 (0, 0, 0) (xm_c mq_14) (xm_s mq_14) 71, 0, 0)) (x_L 71 (0, xi_putf 4 11 2 74, 0, 0)))) (x_T 75 (x_T 74 (x_L 74 (0, xi_load 0 2 75, 0, 0)) (x_L 75 (0, xi_push (0, 4, 4) 76, 0, 0))) (x_T 76 (x_L 76 (0, xi_push (0, 32, 32) 78, 0, 0)) (x_T 78 (x_L 78 (0, xi_mna (xm_c mq_14) (xm_s mq_14) 82, 0, 0)) (x_L 82 (0, xi_putf 4 12 2 85, 0, 0)))))) (x_T 92 (x_T 86 (x_T 85 (x_L 85 (0, xi_load 0 2 86, 0, 0)) (x_L 86 (0, xi_push (0, 4, 4) 87, 0, 0))) (x_T 87 (x_L 87 (0, xi_newa 1 0 (0, 0, 0) (xm_c mq_14) (xm_s mq_14) 89, 0, 0)) (x_T 89 (x_L 89 (0, xi_putf 4 13 2 92, 0, 0)) (x_L 92 (0, xi_load 0 2 93, 0, 0))))) (x_T 95 (x_T 93 (x_L 93 (0, xi_push (0, 32, 32) 95, 0, 0)) (x_L 95 (0, xi_newa 1 0 (0, 0, 0) (xm_c mq_14) (xm_s mq_14) 97, 0, 0))) (x_T 97 (x_L 97 (0, xi_putf 4 14 2 100, 0, 0)) (x_T 100 (x_L 100 (0, xi_load 0 2 101, 0, 0)) (x_L 101 (0, xi_push (0, 32, 32) 103, 0, 0))))))) (x_T 121 (x_T 111 (x_T 105 (x_T 103 (x_L 103 (0, xi_newa 1 0 (0, 0, 0) (xm_c mq_14) (xm_s mq_14) 105, 0, 0)) (x_L 105 (0, xi_putf 4 15 2 108, 0, 0))) (x_T 108 (x_L 108 (0, xi_load 0 2 109, 0, 0)) (x_T 109 (x_L 109 (0, xi_push (0, 32, 32) 111, 0, 0)) (x_L 111 (0, xi_newa 1 0 (0, 0, 0) (xm_c mq_14) (xm_s mq_14) 113, 0, 0))))) (x_T 116 (x_T 113 (x_L 113 (0, xi_putf 4 16 2 116, 0, 0)) (x_L 116 (0, xi_load 0 2 117, 0, 0))) (x_T 117 (x_L 117 (0, xi_push (0, 32, 32) 119, 0, 0)) (x_T 119 (x_L 119 (0, xi_newa 1 0 (0, 0, 0) (xm_c mq_14) (xm_s mq_14) 121, 0, 0)) (x_L 121 (0, xi_putf 4 17 2 124, 0, 0)))))) (x_T 132 (x_T 125 (x_T 124 (x_L 124 (0, xi_load 0 2 125, 0, 0)) (x_L 125 (0, xi_push (0, 32, 32) 127, 0, 0))) (x_T 127 (x_L 127 (0, xi_newa 1 0 (0, 0, 0) (xm_c mq_14) (xm_s mq_14) 129, 0, 0)) (x_T 129 (x_L 129 (0, xi_putf 4 18 2 132, 0, 0)) (x_L 132 (0, xi_load 0 2 133, 0, 0))))) (x_T 135 (x_T 133 (x_L 133 (0, xi_push (0, 32, 32) 135, 0, 0)) (x_L 135 (0, xi_push (0, 4, 4) 136, 0, 0))) (x_T 136 (x_L 136 (0, xi_mna (xm_c mq_14) (xm_s mq_14) 140, 0, 0)) (x_T 140 (x_L 140 (0, xi_putf 4 19 2 143, 0, 0)) (x_L 143 (1, x_nof, 0, 0))))))))
set_option maxRecDepth 20000 in
set_option maxHeartbeats 4000000 in
theorem tb_14_38_ok (K : xKx) (hK : x_KP K) : ∀ pc, x_EOq cls K xJ mq_14 pc (tb_14_38 pc) :=
  (x_Tok2
  (x_Tok2
  (x_Tok2
  (x_Tok2
  (x_Tok2
  (x_Lok (x_st (I := xJ) (xr_aload_n (i := 0) (x_dk dl_14_0_ok 38 rfl))))
  (x_Lok (x_st (I := xJ) (xr_iconst (n := 4) (z := 4) (v := 4) (x_dk dl_14_0_ok 39 rfl) (by decide) (by decide)))))
  (x_Tok2
  (x_Lok (x_st (I := xJ) (xr_newa (kd := 1) (b := false) (ty := .int) rfl rfl (in_t1 (List.mem_of_getElem? (i := 64) rfl) rfl) (x_dk dl_14_0_ok 40 rfl))))
  (x_Lok (x_st (I := xJ) (xr_putF (ci := 4) (k := 11) (ix := 39) (N := 20) (fk := 2) (C := RX4) (T := TX4) (ty0 := tyX4) (ty := .array .int) rfl in_X4 tyX4_ok nmX4 (by decide) (in_t1 (List.mem_of_getElem? (i := 193) rfl) rfl) rfl rfl rfl rfl x_fit_arr (x_dk dl_14_0_ok 41 rfl))))))
  (x_Tok2
  (x_Tok2
  (x_Lok (x_st (I := xJ) (xr_aload_n (i := 0) (x_dk dl_14_0_ok 42 rfl))))
  (x_Lok (x_st (I := xJ) (xr_iconst (n := 4) (z := 4) (v := 4) (x_dk dl_14_0_ok 43 rfl) (by decide) (by decide)))))
  (x_Tok2
  (x_Lok (x_st (I := xJ) (xr_bipush (n := 32) (z := 32) (v := 32) (x_dk dl_14_0_ok 44 rfl) (by decide) (by decide))))
  (x_Tok2
  (x_Lok (x_st (I := xJ) (xr_mna (ix := 42) (C := "[[I") (by decide +kernel) (in_t1 (List.mem_of_getElem? (i := 173) rfl) rfl) (in_t1 (List.mem_of_getElem? (i := 64) rfl) rfl) (x_dk dl_14_0_ok 45 rfl))))
  (x_Lok (x_st (I := xJ) (xr_putF (ci := 4) (k := 12) (ix := 44) (N := 20) (fk := 2) (C := RX4) (T := TX4) (ty0 := tyX4) (ty := .array (.array .int)) rfl in_X4 tyX4_ok nmX4 (by decide) (in_t1 (List.mem_of_getElem? (i := 194) rfl) rfl) rfl rfl rfl rfl x_fit_arr (x_dk dl_14_0_ok 46 rfl))))))))
  (x_Tok2
  (x_Tok2
  (x_Tok2
  (x_Lok (x_st (I := xJ) (xr_aload_n (i := 0) (x_dk dl_14_0_ok 47 rfl))))
  (x_Lok (x_st (I := xJ) (xr_iconst (n := 4) (z := 4) (v := 4) (x_dk dl_14_0_ok 48 rfl) (by decide) (by decide)))))
  (x_Tok2
  (x_Lok (x_st (I := xJ) (xr_newa (kd := 1) (b := false) (ty := .int) rfl rfl (in_t1 (List.mem_of_getElem? (i := 64) rfl) rfl) (x_dk dl_14_0_ok 49 rfl))))
  (x_Tok2
  (x_Lok (x_st (I := xJ) (xr_putF (ci := 4) (k := 13) (ix := 47) (N := 20) (fk := 2) (C := RX4) (T := TX4) (ty0 := tyX4) (ty := .array .int) rfl in_X4 tyX4_ok nmX4 (by decide) (in_t1 (List.mem_of_getElem? (i := 195) rfl) rfl) rfl rfl rfl rfl x_fit_arr (x_dk dl_14_0_ok 50 rfl))))
  (x_Lok (x_st (I := xJ) (xr_aload_n (i := 0) (x_dk dl_14_0_ok 51 rfl)))))))
  (x_Tok2
  (x_Tok2
  (x_Lok (x_st (I := xJ) (xr_bipush (n := 32) (z := 32) (v := 32) (x_dk dl_14_0_ok 52 rfl) (by decide) (by decide))))
  (x_Lok (x_st (I := xJ) (xr_newa (kd := 1) (b := false) (ty := .int) rfl rfl (in_t1 (List.mem_of_getElem? (i := 64) rfl) rfl) (x_dk dl_14_0_ok 53 rfl)))))
  (x_Tok2
  (x_Lok (x_st (I := xJ) (xr_putF (ci := 4) (k := 14) (ix := 50) (N := 20) (fk := 2) (C := RX4) (T := TX4) (ty0 := tyX4) (ty := .array .int) rfl in_X4 tyX4_ok nmX4 (by decide) (in_t1 (List.mem_of_getElem? (i := 196) rfl) rfl) rfl rfl rfl rfl x_fit_arr (x_dk dl_14_0_ok 54 rfl))))
  (x_Tok2
  (x_Lok (x_st (I := xJ) (xr_aload_n (i := 0) (x_dk dl_14_0_ok 55 rfl))))
  (x_Lok (x_st (I := xJ) (xr_bipush (n := 32) (z := 32) (v := 32) (x_dk dl_14_0_ok 56 rfl) (by decide) (by decide)))))))))
  (x_Tok2
  (x_Tok2
  (x_Tok2
  (x_Tok2
  (x_Lok (x_st (I := xJ) (xr_newa (kd := 1) (b := false) (ty := .int) rfl rfl (in_t1 (List.mem_of_getElem? (i := 64) rfl) rfl) (x_dk dl_14_0_ok 57 rfl))))
  (x_Lok (x_st (I := xJ) (xr_putF (ci := 4) (k := 15) (ix := 53) (N := 20) (fk := 2) (C := RX4) (T := TX4) (ty0 := tyX4) (ty := .array .int) rfl in_X4 tyX4_ok nmX4 (by decide) (in_t1 (List.mem_of_getElem? (i := 198) rfl) rfl) rfl rfl rfl rfl x_fit_arr (x_dk dl_14_0_ok 58 rfl)))))
  (x_Tok2
  (x_Lok (x_st (I := xJ) (xr_aload_n (i := 0) (x_dk dl_14_0_ok 59 rfl))))
  (x_Tok2
  (x_Lok (x_st (I := xJ) (xr_bipush (n := 32) (z := 32) (v := 32) (x_dk dl_14_0_ok 60 rfl) (by decide) (by decide))))
  (x_Lok (x_st (I := xJ) (xr_newa (kd := 1) (b := false) (ty := .int) rfl rfl (in_t1 (List.mem_of_getElem? (i := 64) rfl) rfl) (x_dk dl_14_0_ok 61 rfl)))))))
  (x_Tok2
  (x_Tok2
  (x_Lok (x_st (I := xJ) (xr_putF (ci := 4) (k := 16) (ix := 56) (N := 20) (fk := 2) (C := RX4) (T := TX4) (ty0 := tyX4) (ty := .array .int) rfl in_X4 tyX4_ok nmX4 (by decide) (in_t1 (List.mem_of_getElem? (i := 200) rfl) rfl) rfl rfl rfl rfl x_fit_arr (x_dk dl_14_0_ok 62 rfl))))
  (x_Lok (x_st (I := xJ) (xr_aload_n (i := 0) (x_dk dl_14_0_ok 63 rfl)))))
  (x_Tok2
  (x_Lok (x_st (I := xJ) (xr_bipush (n := 32) (z := 32) (v := 32) (x_dk dl_14_0_ok 64 rfl) (by decide) (by decide))))
  (x_Tok2
  (x_Lok (x_st (I := xJ) (xr_newa (kd := 1) (b := false) (ty := .int) rfl rfl (in_t1 (List.mem_of_getElem? (i := 64) rfl) rfl) (x_dk dl_14_0_ok 65 rfl))))
  (x_Lok (x_st (I := xJ) (xr_putF (ci := 4) (k := 17) (ix := 59) (N := 20) (fk := 2) (C := RX4) (T := TX4) (ty0 := tyX4) (ty := .array .int) rfl in_X4 tyX4_ok nmX4 (by decide) (in_t1 (List.mem_of_getElem? (i := 202) rfl) rfl) rfl rfl rfl rfl x_fit_arr (x_dk dl_14_0_ok 66 rfl))))))))
  (x_Tok2
  (x_Tok2
  (x_Tok2
  (x_Lok (x_st (I := xJ) (xr_aload_n (i := 0) (x_dk dl_14_0_ok 67 rfl))))
  (x_Lok (x_st (I := xJ) (xr_bipush (n := 32) (z := 32) (v := 32) (x_dk dl_14_0_ok 68 rfl) (by decide) (by decide)))))
  (x_Tok2
  (x_Lok (x_st (I := xJ) (xr_newa (kd := 1) (b := false) (ty := .int) rfl rfl (in_t1 (List.mem_of_getElem? (i := 64) rfl) rfl) (x_dk dl_14_0_ok 69 rfl))))
  (x_Tok2
  (x_Lok (x_st (I := xJ) (xr_putF (ci := 4) (k := 18) (ix := 62) (N := 20) (fk := 2) (C := RX4) (T := TX4) (ty0 := tyX4) (ty := .array .int) rfl in_X4 tyX4_ok nmX4 (by decide) (in_t1 (List.mem_of_getElem? (i := 203) rfl) rfl) rfl rfl rfl rfl x_fit_arr (x_dk dl_14_0_ok 70 rfl))))
  (x_Lok (x_st (I := xJ) (xr_aload_n (i := 0) (x_dk dl_14_0_ok 71 rfl)))))))
  (x_Tok2
  (x_Tok2
  (x_Lok (x_st (I := xJ) (xr_bipush (n := 32) (z := 32) (v := 32) (x_dk dl_14_0_ok 72 rfl) (by decide) (by decide))))
  (x_Lok (x_st (I := xJ) (xr_iconst (n := 4) (z := 4) (v := 4) (x_dk dl_14_0_ok 73 rfl) (by decide) (by decide)))))
  (x_Tok2
  (x_Lok (x_st (I := xJ) (xr_mna (ix := 42) (C := "[[I") (by decide +kernel) (in_t1 (List.mem_of_getElem? (i := 173) rfl) rfl) (in_t1 (List.mem_of_getElem? (i := 64) rfl) rfl) (x_dk dl_14_0_ok 74 rfl))))
  (x_Tok2
  (x_Lok (x_st (I := xJ) (xr_putF (ci := 4) (k := 19) (ix := 65) (N := 20) (fk := 2) (C := RX4) (T := TX4) (ty0 := tyX4) (ty := .array (.array .int)) rfl in_X4 tyX4_ok nmX4 (by decide) (in_t1 (List.mem_of_getElem? (i := 204) rfl) rfl) rfl rfl rfl rfl x_fit_arr (x_dk dl_14_0_ok 75 rfl))))
  (x_Lok (x_rt (I := xJ) (k := 0) ⟨(x_dk dl_14_0_ok 76 rfl), rfl⟩))))))))
def tb_14 : Nat → xE := (x_T 64 tb_14_0 tb_14_38)
theorem tb_14_ok (K : xKx) (hK : x_KP K) : ∀ pc, x_EOq cls K xJ mq_14 pc (tb_14 pc) := (x_Tok2 (tb_14_0_ok K hK) (tb_14_38_ok K hK))
def dl_15_0 : List (Nat × Instr × Nat) := [(0, .iconst 0, 1), (1, .istore_n 1, 1), (2, .iload_n 1, 1), (3, .aload_n 0, 1), (4, .getfield 68, 3), (7, .if_icmp .ge 16, 3), (23, .iconst 0, 1), (24, .istore_n 1, 1), (25, .iload_n 1, 1), (26, .aload_n 0, 1), (27, .getfield 79, 3), (30, .if_icmp .ge 14, 3), (44, .return_, 1)]
set_option maxRecDepth 20000 in
theorem dl_15_0_ok : dl_15_0.all (fun q => decide (decode prog_6_method_6_code q.1 = .ok (q.2.1, q.2.2))) = true := xa_g_ok (by decide +kernel)
def tb_15_0 : Nat → xE := (x_T 7 (x_T 2 (x_T 0 (x_L 0 (0, xi_push (0, 0, 0) 1, 0, 0)) (x_T 1 (x_L 1 (0, xi_stor 1 0 2, 0, 0)) (x_L 2 (0, xi_load 1 0 3, 0, 0)))) (x_T 3 (x_L 3 (0, xi_load 0 2 4, 0, 0)) (x_T 4 (x_L 4 (0, xi_getf 4 0 7, 0, 0)) (x_L 7 (0, xi_if2 3 23 10, 0, 0))))) (x_T 25 (x_T 23 (x_L 23 (0, xi_push (0, 0, 0) 24, 0, 0)) (x_T 24 (x_L 24 (0, xi_stor 1 0 25, 0, 0)) (x_L 25 (0, xi_load 1 0 26, 0, 0)))) (x_T 27 (x_T 26 (x_L 26 (0, xi_load 0 2 27, 0, 0)) (x_L 27 (0, xi_getf 4 1 30, 0, 0))) (x_T 30 (x_L 30 (0, xi_if2 3 44 33, 0, 0)) (x_L 44 (1, x_nof, 0, 0))))))
set_option maxRecDepth 20000 in
set_option maxHeartbeats 4000000 in
theorem tb_15_0_ok (K : xKx) (hK : x_KP K) : ∀ pc, x_EOq cls K xJ mq_15 pc (tb_15_0 pc) :=
  (x_Tok2
  (x_Tok2
  (x_Tok2
  (x_Lok (x_st (I := xJ) (xr_iconst (n := 0) (z := 0) (v := 0) (x_dk dl_15_0_ok 0 rfl) (by decide) (by decide))))
  (x_Tok2
  (x_Lok (x_st (I := xJ) (xr_istore_n (i := 1) (x_dk dl_15_0_ok 1 rfl) (by decide +kernel))))
  (x_Lok (x_st (I := xJ) (xr_iload_n (i := 1) (x_dk dl_15_0_ok 2 rfl))))))
  (x_Tok2
  (x_Lok (x_st (I := xJ) (xr_aload_n (i := 0) (x_dk dl_15_0_ok 3 rfl))))
  (x_Tok2
  (x_Lok (x_st (I := xJ) (xr_getf (ci := 4) (k := 0) (ix := 68) (N := 20) (C := RX4) (T := TX4) rfl in_X4 (by decide) (in_t1 (List.mem_of_getElem? (i := 175) rfl) rfl) (x_dk dl_15_0_ok 4 rfl))))
  (x_Lok (x_st (I := xJ) (xr_icmpge (off := 16) (tg := 23) (x_dk dl_15_0_ok 5 rfl) (by decide)))))))
  (x_Tok2
  (x_Tok2
  (x_Lok (x_st (I := xJ) (xr_iconst (n := 0) (z := 0) (v := 0) (x_dk dl_15_0_ok 6 rfl) (by decide) (by decide))))
  (x_Tok2
  (x_Lok (x_st (I := xJ) (xr_istore_n (i := 1) (x_dk dl_15_0_ok 7 rfl) (by decide +kernel))))
  (x_Lok (x_st (I := xJ) (xr_iload_n (i := 1) (x_dk dl_15_0_ok 8 rfl))))))
  (x_Tok2
  (x_Tok2
  (x_Lok (x_st (I := xJ) (xr_aload_n (i := 0) (x_dk dl_15_0_ok 9 rfl))))
  (x_Lok (x_st (I := xJ) (xr_getf (ci := 4) (k := 1) (ix := 79) (N := 20) (C := RX4) (T := TX4) rfl in_X4 (by decide) (in_t1 (List.mem_of_getElem? (i := 177) rfl) rfl) (x_dk dl_15_0_ok 10 rfl)))))
  (x_Tok2
  (x_Lok (x_st (I := xJ) (xr_icmpge (off := 14) (tg := 44) (x_dk dl_15_0_ok 11 rfl) (by decide))))
  (x_Lok (x_rt (I := xJ) (k := 0) ⟨(x_dk dl_15_0_ok 12 rfl), rfl⟩))))))
def tb_15 : Nat → xE := tb_15_0
theorem tb_15_ok (K : xKx) (hK : x_KP K) : ∀ pc, x_EOq cls K xJ mq_15 pc (tb_15 pc) := tb_15_0_ok K hK
def dl_16_0 : List (Nat × Instr × Nat) := [(0, .aload_n 0, 1), (1, .invokespecial 3, 3), (4, .return_, 1)]
set_option maxRecDepth 20000 in
theorem dl_16_0_ok : dl_16_0.all (fun q => decide (decode prog_7_method_1_code q.1 = .ok (q.2.1, q.2.2))) = true := xa_g_ok (by decide +kernel)
def tb_16_0 : Nat → xE := (x_T 0 (x_L 0 (0, xi_load 0 2 1, 0, 0)) (x_T 1 (x_L 1 (0, xi_oi 4, 0, 0)) (x_L 4 (1, x_nof, 0, 0))))
set_option maxRecDepth 20000 in
set_option maxHeartbeats 4000000 in
theorem tb_16_0_ok (K : xKx) (hK : x_KP K) : ∀ pc, x_EOq cls K xJ mq_16 pc (tb_16_0 pc) :=
  (x_Tok2
  (x_Lok (x_st (I := xJ) (xr_aload_n (i := 0) (x_dk dl_16_0_ok 0 rfl))))
  (x_Tok2
  (x_Lok (x_st (I := xJ) (xr_oi (ix := 3) (in_t2 (List.mem_of_getElem? (i := 87) rfl) rfl) (in_t1 (List.mem_of_getElem? (i := 27) rfl) rfl) (in_t1 (List.mem_of_getElem? (i := 28) rfl) rfl) (x_dk dl_16_0_ok 1 rfl))))
  (x_Lok (x_rt (I := xJ) (k := 0) ⟨(x_dk dl_16_0_ok 2 rfl), rfl⟩))))
def tb_16 : Nat → xE := tb_16_0
theorem tb_16_ok (K : xKx) (hK : x_KP K) : ∀ pc, x_EOq cls K xJ mq_16 pc (tb_16 pc) := tb_16_0_ok K hK
def dl_17_0 : List (Nat × Instr × Nat) := [(0, .aload_n 0, 1), (1, .invokespecial 3, 3), (4, .aload_n 0, 1), (5, .bipush 6, 2), (7, .newarray .int, 2), (9, .putfield 9, 3), (12, .aload_n 0, 1), (13, .bipush 6, 2), (15, .newarray .int, 2), (17, .putfield 15, 3), (20, .aload_n 0, 1), (21, .bipush 6, 2), (23, .newarray .int, 2), (25, .putfield 18, 3), (28, .aload_n 0, 1), (29, .bipush 6, 2), (31, .newarray .int, 2), (33, .putfield 21, 3), (36, .aload_n 0, 1), (37, .sipush 1000, 3), (40, .newarray .int, 2), (42, .putfield 24, 3), (45, .aload_n 0, 1), (46, .sipush 1000, 3), (49, .newarray .int, 2), (51, .putfield 27, 3), (54, .aload_n 0, 1), (55, .ldc 30, 2), (57, .newarray .byte, 2), (59, .putfield 31, 3), (62, .aload_n 0, 1), (63, .bipush 60, 2), (65, .newarray .int, 2), (67, .putfield 35, 3), (70, .aload_n 0, 1), (71, .bipush 60, 2), (73, .newarray .int, 2), (75, .putfield 38, 3), (78, .return_, 1)]
set_option maxRecDepth 20000 in
theorem dl_17_0_ok : dl_17_0.all (fun q => decide (decode prog_8_method_1_code q.1 = .ok (q.2.1, q.2.2))) = true := xa_g_ok (by decide +kernel)
def tb_17_0 : Nat → xE := (x_T 36 (x_T 15 (x_T 5 (x_T 1 (x_T 0 (x_L 0 (0, xi_load 0 2 1, 0, 0)) (x_L 1 (0, xi_oi 4, 0, 0))) (x_T 4 (x_L 4 (0, xi_load 0 2 5, 0, 0)) (x_L 5 (0, xi_push (0, 6, 6) 7, 0, 0)))) (x_T 9 (x_T 7 (x_L 7 (0, xi_newa 1 0 (0, 0, 0) (xm_c mq_17) (xm_s mq_17) 9, 0, 0)) (x_L 9 (0, xi_putf 6 4 2 12, 0, 0))) (x_T 12 (x_L 12 (0, xi_load 0 2 13, 0, 0)) (x_T 13 (x_L 13 (0, xi_push (0, 6, 6) 15, 0, 0)) (x_L 15 (0, xi_newa 1 0 (0, 0, 0) (xm_c mq_17) (xm_s mq_17) 17, 0, 0)))))) (x_T 25 (x_T 20 (x_T 17 (x_L 17 (0, xi_putf 6 5 2 20, 0, 0)) (x_L 20 (0, xi_load 0 2 21, 0, 0))) (x_T 21 (x_L 21 (0, xi_push (0, 6, 6) 23, 0, 0)) (x_T 23 (x_L 23 (0, xi_newa 1 0 (0, 0, 0) (xm_c mq_17) (xm_s mq_17) 25, 0, 0)) (x_L 25 (0, xi_putf 6 6 2 28, 0, 0))))) (x_T 29 (x_T 28 (x_L 28 (0, xi_load 0 2 29, 0, 0)) (x_L 29 (0, xi_push (0, 6, 6) 31, 0, 0))) (x_T 31 (x_L 31 (0, xi_newa 1 0 (0, 0, 0) (xm_c mq_17) (xm_s mq_17) 33, 0, 0)) (x_T 33 (x_L 33 (0, xi_putf 6 7 2 36, 0, 0)) (x_L 36 (0, xi_load 0 2 37, 0, 0))))))) (x_T 57 (x_T 46 (x_T 40 (x_T 37 (x_L 37 (0, xi_push (0, 1000, 1000) 40, 0, 0)) (x_L 40 (0, xi_newa 1 0 (0, 0, 0) (xm_c mq_17) (xm_s mq_17) 42, 0, 0))) (x_T 42 (x_L 42 (0, xi_putf 6 8 2 45, 0, 0)) (x_T 45 (x_L 45 (0, xi_load 0 2 46, 0, 0)) (x_L 46 (0, xi_push (0, 1000, 1000) 49, 0, 0))))) (x_T 51 (x_T 49 (x_L 49 (0, xi_newa 1 0 (0, 0, 0) (xm_c mq_17) (xm_s mq_17) 51, 0, 0)) (x_L 51 (0, xi_putf 6 9 2 54, 0, 0))) (x_T 54 (x_L 54 (0, xi_load 0 2 55, 0, 0)) (x_T 55 (x_L 55 (0, xi_push (0, 60000, 60000) 57, 0, 0)) (x_L 57 (0, xi_newa 2 0 (0, 0, 0) (xm_c mq_17) (xm_s mq_17) 59, 0, 0)))))) (x_T 67 (x_T 62 (x_T 59 (x_L 59 (0, xi_putf 6 10 2 62, 0, 0)) (x_L 62 (0, xi_load 0 2 63, 0, 0))) (x_T 63 (x_L 63 (0, xi_push (0, 60, 60) 65, 0, 0)) (x_T 65 (x_L 65 (0, xi_newa 1 0 (0, 0, 0) (xm_c mq_17) (xm_s mq_17) 67, 0, 0)) (x_L 67 (0, xi_putf 6 11 2 70, 0, 0))))) (x_T 71 (x_T 70 (x_L 70 (0, xi_load 0 2 71, 0, 0)) (x_L 71 (0, xi_push (0, 60, 60) 73, 0, 0))) (x_T 73 (x_L 73 (0, xi_newa 1 0 (0, 0, 0) (xm_c mq_17) (xm_s mq_17) 75, 0, 0)) (x_T 75 (x_L 75 (0, xi_putf 6 12 2 78, 0, 0)) (x_L 78 (1, x_nof, 0, 0))))))))
set_option maxRecDepth 20000 in
set_option maxHeartbeats 4000000 in
theorem tb_17_0_ok (K : xKx) (hK : x_KP K) : ∀ pc, x_EOq cls K xJ mq_17 pc (tb_17_0 pc) :=
  (x_Tok2
  (x_Tok2
  (x_Tok2
  (x_Tok2
  (x_Tok2
  (x_Lok (x_st (I := xJ) (xr_aload_n (i := 0) (x_dk dl_17_0_ok 0 rfl))))
  (x_Lok (x_st (I := xJ) (xr_oi (ix := 3) (in_t3 (List.mem_of_getElem? (i := 197) rfl) rfl) (in_t1 (List.mem_of_getElem? (i := 27) rfl) rfl) (in_t1 (List.mem_of_getElem? (i := 28) rfl) rfl) (x_dk dl_17_0_ok 1 rfl)))))
  (x_Tok2
  (x_Lok (x_st (I := xJ) (xr_aload_n (i := 0) (x_dk dl_17_0_ok 2 rfl))))
  (x_Lok (x_st (I := xJ) (xr_bipush (n := 6) (z := 6) (v := 6) (x_dk dl_17_0_ok 3 rfl) (by decide) (by decide))))))
  (x_Tok2
  (x_Tok2
  (x_Lok (x_st (I := xJ) (xr_newa (kd := 1) (b := false) (ty := .int) rfl rfl (in_t1 (List.mem_of_getElem? (i := 64) rfl) rfl) (x_dk dl_17_0_ok 4 rfl))))
  (x_Lok (x_st (I := xJ) (xr_putF (ci := 6) (k := 4) (ix := 9) (N := 13) (fk := 2) (C := RX6) (T := TX6) (ty0 := tyX6) (ty := .array .int) rfl in_X6 tyX6_ok nmX6 (by decide) (in_t3 (List.mem_of_getElem? (i := 203) rfl) rfl) rfl rfl rfl rfl x_fit_arr (x_dk dl_17_0_ok 5 rfl)))))
  (x_Tok2
  (x_Lok (x_st (I := xJ) (xr_aload_n (i := 0) (x_dk dl_17_0_ok 6 rfl))))
  (x_Tok2
  (x_Lok (x_st (I := xJ) (xr_bipush (n := 6) (z := 6) (v := 6) (x_dk dl_17_0_ok 7 rfl) (by decide) (by decide))))
  (x_Lok (x_st (I := xJ) (xr_newa (kd := 1) (b := false) (ty := .int) rfl rfl (in_t1 (List.mem_of_getElem? (i := 64) rfl) rfl) (x_dk dl_17_0_ok 8 rfl))))))))
  (x_Tok2
  (x_Tok2
  (x_Tok2
  (x_Lok (x_st (I := xJ) (xr_putF (ci := 6) (k := 5) (ix := 15) (N := 13) (fk := 2) (C := RX6) (T := TX6) (ty0 := tyX6) (ty := .array .int) rfl in_X6 tyX6_ok nmX6 (by decide) (in_t3 (List.mem_of_getElem? (i := 204) rfl) rfl) rfl rfl rfl rfl x_fit_arr (x_dk dl_17_0_ok 9 rfl))))
  (x_Lok (x_st (I := xJ) (xr_aload_n (i := 0) (x_dk dl_17_0_ok 10 rfl)))))
  (x_Tok2
  (x_Lok (x_st (I := xJ) (xr_bipush (n := 6) (z := 6) (v := 6) (x_dk dl_17_0_ok 11 rfl) (by decide) (by decide))))
  (x_Tok2
  (x_Lok (x_st (I := xJ) (xr_newa (kd := 1) (b := false) (ty := .int) rfl rfl (in_t1 (List.mem_of_getElem? (i := 64) rfl) rfl) (x_dk dl_17_0_ok 12 rfl))))
  (x_Lok (x_st (I := xJ) (xr_putF (ci := 6) (k := 6) (ix := 18) (N := 13) (fk := 2) (C := RX6) (T := TX6) (ty0 := tyX6) (ty := .array .int) rfl in_X6 tyX6_ok nmX6 (by decide) (in_t3 (List.mem_of_getElem? (i := 205) rfl) rfl) rfl rfl rfl rfl x_fit_arr (x_dk dl_17_0_ok 13 rfl)))))))
  (x_Tok2
  (x_Tok2
  (x_Lok (x_st (I := xJ) (xr_aload_n (i := 0) (x_dk dl_17_0_ok 14 rfl))))
  (x_Lok (x_st (I := xJ) (xr_bipush (n := 6) (z := 6) (v := 6) (x_dk dl_17_0_ok 15 rfl) (by decide) (by decide)))))
  (x_Tok2
  (x_Lok (x_st (I := xJ) (xr_newa (kd := 1) (b := false) (ty := .int) rfl rfl (in_t1 (List.mem_of_getElem? (i := 64) rfl) rfl) (x_dk dl_17_0_ok 16 rfl))))
  (x_Tok2
  (x_Lok (x_st (I := xJ) (xr_putF (ci := 6) (k := 7) (ix := 21) (N := 13) (fk := 2) (C := RX6) (T := TX6) (ty0 := tyX6) (ty := .array .int) rfl in_X6 tyX6_ok nmX6 (by decide) (in_t3 (List.mem_of_getElem? (i := 206) rfl) rfl) rfl rfl rfl rfl x_fit_arr (x_dk dl_17_0_ok 17 rfl))))
  (x_Lok (x_st (I := xJ) (xr_aload_n (i := 0) (x_dk dl_17_0_ok 18 rfl)))))))))
  (x_Tok2
  (x_Tok2
  (x_Tok2
  (x_Tok2
  (x_Lok (x_st (I := xJ) (xr_sipush (n := 1000) (z := 1000) (v := 1000) (x_dk dl_17_0_ok 19 rfl) (by decide) (by decide))))
  (x_Lok (x_st (I := xJ) (xr_newa (kd := 1) (b := false) (ty := .int) rfl rfl (in_t1 (List.mem_of_getElem? (i := 64) rfl) rfl) (x_dk dl_17_0_ok 20 rfl)))))
  (x_Tok2
  (x_Lok (x_st (I := xJ) (xr_putF (ci := 6) (k := 8) (ix := 24) (N := 13) (fk := 2) (C := RX6) (T := TX6) (ty0 := tyX6) (ty := .array .int) rfl in_X6 tyX6_ok nmX6 (by decide) (in_t3 (List.mem_of_getElem? (i := 207) rfl) rfl) rfl rfl rfl rfl x_fit_arr (x_dk dl_17_0_ok 21 rfl))))
  (x_Tok2
  (x_Lok (x_st (I := xJ) (xr_aload_n (i := 0) (x_dk dl_17_0_ok 22 rfl))))
  (x_Lok (x_st (I := xJ) (xr_sipush (n := 1000) (z := 1000) (v := 1000) (x_dk dl_17_0_ok 23 rfl) (by decide) (by decide)))))))
  (x_Tok2
  (x_Tok2
  (x_Lok (x_st (I := xJ) (xr_newa (kd := 1) (b := false) (ty := .int) rfl rfl (in_t1 (List.mem_of_getElem? (i := 64) rfl) rfl) (x_dk dl_17_0_ok 24 rfl))))
  (x_Lok (x_st (I := xJ) (xr_putF (ci := 6) (k := 9) (ix := 27) (N := 13) (fk := 2) (C := RX6) (T := TX6) (ty0 := tyX6) (ty := .array .int) rfl in_X6 tyX6_ok nmX6 (by decide) (in_t3 (List.mem_of_getElem? (i := 208) rfl) rfl) rfl rfl rfl rfl x_fit_arr (x_dk dl_17_0_ok 25 rfl)))))
  (x_Tok2
  (x_Lok (x_st (I := xJ) (xr_aload_n (i := 0) (x_dk dl_17_0_ok 26 rfl))))
  (x_Tok2
  (x_Lok (x_st (I := xJ) (xr_ldc (ix := 30) (z := 60000) (v := 60000) (x_dk dl_17_0_ok 27 rfl) (in_t3 (List.mem_of_getElem? (i := 198) rfl) rfl) (by decide))))
  (x_Lok (x_st (I := xJ) (xr_newa (kd := 2) (b := true) (ty := .byte) rfl rfl (in_t1 (List.mem_of_getElem? (i := 121) rfl) rfl) (x_dk dl_17_0_ok 28 rfl))))))))
  (x_Tok2
  (x_Tok2
  (x_Tok2
  (x_Lok (x_st (I := xJ) (xr_putF (ci := 6) (k := 10) (ix := 31) (N := 13) (fk := 2) (C := RX6) (T := TX6) (ty0 := tyX6) (ty := .array .byte) rfl in_X6 tyX6_ok nmX6 (by decide) (in_t3 (List.mem_of_getElem? (i := 209) rfl) rfl) rfl rfl rfl rfl x_fit_arr (x_dk dl_17_0_ok 29 rfl))))
  (x_Lok (x_st (I := xJ) (xr_aload_n (i := 0) (x_dk dl_17_0_ok 30 rfl)))))
  (x_Tok2
  (x_Lok (x_st (I := xJ) (xr_bipush (n := 60) (z := 60) (v := 60) (x_dk dl_17_0_ok 31 rfl) (by decide) (by decide))))
  (x_Tok2
  (x_Lok (x_st (I := xJ) (xr_newa (kd := 1) (b := false) (ty := .int) rfl rfl (in_t1 (List.mem_of_getElem? (i := 64) rfl) rfl) (x_dk dl_17_0_ok 32 rfl))))
  (x_Lok (x_st (I := xJ) (xr_putF (ci := 6) (k := 11) (ix := 35) (N := 13) (fk := 2) (C := RX6) (T := TX6) (ty0 := tyX6) (ty := .array .int) rfl in_X6 tyX6_ok nmX6 (by decide) (in_t3 (List.mem_of_getElem? (i := 210) rfl) rfl) rfl rfl rfl rfl x_fit_arr (x_dk dl_17_0_ok 33 rfl)))))))
  (x_Tok2
  (x_Tok2
  (x_Lok (x_st (I := xJ) (xr_aload_n (i := 0) (x_dk dl_17_0_ok 34 rfl))))
  (x_Lok (x_st (I := xJ) (xr_bipush (n := 60) (z := 60) (v := 60) (x_dk dl_17_0_ok 35 rfl) (by decide) (by decide)))))
  (x_Tok2
  (x_Lok (x_st (I := xJ) (xr_newa (kd := 1) (b := false) (ty := .int) rfl rfl (in_t1 (List.mem_of_getElem? (i := 64) rfl) rfl) (x_dk dl_17_0_ok 36 rfl))))
  (x_Tok2
  (x_Lok (x_st (I := xJ) (xr_putF (ci := 6) (k := 12) (ix := 38) (N := 13) (fk := 2) (C := RX6) (T := TX6) (ty0 := tyX6) (ty := .array .int) rfl in_X6 tyX6_ok nmX6 (by decide) (in_t3 (List.mem_of_getElem? (i := 211) rfl) rfl) rfl rfl rfl rfl x_fit_arr (x_dk dl_17_0_ok 37 rfl))))
  (x_Lok (x_rt (I := xJ) (k := 0) ⟨(x_dk dl_17_0_ok 38 rfl), rfl⟩))))))))
def tb_17 : Nat → xE := tb_17_0
theorem tb_17_ok (K : xKx) (hK : x_KP K) : ∀ pc, x_EOq cls K xJ mq_17 pc (tb_17 pc) := tb_17_0_ok K hK
def dl_18_0 : List (Nat × Instr × Nat) := [(0, .aload_n 0, 1), (1, .invokespecial 3, 3), (4, .aload_n 0, 1), (5, .bipush 64, 2), (7, .newarray .int, 2), (9, .putfield 9, 3), (12, .aload_n 0, 1), (13, .bipush 64, 2), (15, .newarray .int, 2), (17, .putfield 15, 3), (20, .aload_n 0, 1), (21, .bipush 64, 2), (23, .newarray .int, 2), (25, .putfield 18, 3), (28, .aload_n 0, 1), (29, .bipush 64, 2), (31, .newarray .int, 2), (33, .putfield 21, 3), (36, .aload_n 0, 1), (37, .bipush 64, 2), (39, .newarray .int, 2), (41, .putfield 24, 3), (44, .aload_n 0, 1), (45, .bipush 64, 2), (47, .newarray .boolean, 2), (49, .putfield 27, 3), (52, .aload_n 0, 1), (53, .bipush 64, 2), (55, .newarray .boolean, 2), (57, .putfield 31, 3), (60, .aload_n 0, 1), (61, .bipush 64, 2), (63, .newarray .int, 2), (65, .putfield 34, 3), (68, .return_, 1)]
set_option maxRecDepth 20000 in
theorem dl_18_0_ok : dl_18_0.all (fun q => decide (decode prog_9_method_1_code q.1 = .ok (q.2.1, q.2.2))) = true := xa_g_ok (by decide +kernel)
def tb_18_0 : Nat → xE := (x_T 31 (x_T 13 (x_T 5 (x_T 1 (x_T 0 (x_L 0 (0, xi_load 0 2 1, 0, 0)) (x_L 1 (0, xi_oi 4, 0, 0))) (x_T 4 (x_L 4 (0, xi_load 0 2 5, 0, 0)) (x_L 5 (0, xi_push (0, 64, 64) 7, 0, 0)))) (x_T 9 (x_T 7 (x_L 7 (0, xi_newa 1 0 (0, 0, 0) (xm_c mq_18) (xm_s mq_18) 9, 0, 0)) (x_L 9 (0, xi_putf 7 0 2 12, 0, 0))) (x_T 12 (x_L 12 (0, xi_load 0 2 13, 0, 0)) (x_L 13 (0, xi_push (0, 64, 64) 15, 0, 0))))) (x_T 21 (x_T 17 (x_T 15 (x_L 15 (0, xi_newa 1 0 (0, 0, 0) (xm_c mq_18) (xm_s mq_18) 17, 0, 0)) (x_L 17 (0, xi_putf 7 1 2 20, 0, 0))) (x_T 20 (x_L 20 (0, xi_load 0 2 21, 0, 0)) (x_L 21 (0, xi_push (0, 64, 64) 23, 0, 0)))) (x_T 25 (x_T 23 (x_L 23 (0, xi_newa 1 0 (0, 0, 0) (xm_c mq_18) (xm_s mq_18) 25, 0, 0)) (x_L 25 (0, xi_putf 7 2 2 28, 0, 0))) (x_T 28 (x_L 28 (0, xi_load 0 2 29, 0, 0)) (x_T 29 (x_L 29 (0, xi_push (0, 64, 64) 31, 0, 0)) (x_L 31 (0, xi_newa 1 0 (0, 0, 0) (xm_c mq_18) (xm_s mq_18) 33, 0, 0))))))) (x_T 49 (x_T 39 (x_T 36 (x_T 33 (x_L 33 (0, xi_putf 7 3 2 36, 0, 0)) (x_L 36 (0, xi_load 0 2 37, 0, 0))) (x_T 37 (x_L 37 (0, xi_push (0, 64, 64) 39, 0, 0)) (x_L 39 (0, xi_newa 1 0 (0, 0, 0) (xm_c mq_18) (xm_s mq_18) 41, 0, 0)))) (x_T 44 (x_T 41 (x_L 41 (0, xi_putf 7 4 2 44, 0, 0)) (x_L 44 (0, xi_load 0 2 45, 0, 0))) (x_T 45 (x_L 45 (0, xi_push (0, 64, 64) 47, 0, 0)) (x_T 47 (x_L 47 (0, xi_newa 3 0 (0, 0, 0) (xm_c mq_18) (xm_s mq_18) 49, 0, 0)) (x_L 49 (0, xi_putf 7 5 2 52, 0, 0)))))) (x_T 57 (x_T 53 (x_T 52 (x_L 52 (0, xi_load 0 2 53, 0, 0)) (x_L 53 (0, xi_push (0, 64, 64) 55, 0, 0))) (x_T 55 (x_L 55 (0, xi_newa 3 0 (0, 0, 0) (xm_c mq_18) (xm_s mq_18) 57, 0, 0)) (x_L 57 (0, xi_putf 7 6 2 60, 0, 0)))) (x_T 61 (x_T 60 (x_L 60 (0, xi_load 0 2 61, 0, 0)) (x_L 61 (0, xi_push (0, 64, 64) 63, 0, 0))) (x_T 63 (x_L 63 (0, xi_newa 1 0 (0, 0, 0) (xm_c mq_18) (xm_s mq_18) 65, 0, 0)) (x_T 65 (x_L 65 (0, xi_putf 7 7 2 68, 0, 0)) (x_L 68 (1, x_nof, 0, 0))))))))
set_option maxRecDepth 20000 in
set_option maxHeartbeats 4000000 in
theorem tb_18_0_ok (K : xKx) (hK : x_KP K) : ∀ pc, x_EOq cls K xJ mq_18 pc (tb_18_0 pc) :=
  (x_Tok2
  (x_Tok2
  (x_Tok2
  (x_Tok2
  (x_Tok2
  (x_Lok (x_st (I := xJ) (xr_aload_n (i := 0) (x_dk dl_18_0_ok 0 rfl))))
  (x_Lok (x_st (I := xJ) (xr_oi (ix := 3) (in_t1 (List.mem_of_getElem? (i := 135) rfl) rfl) (in_t1 (List.mem_of_getElem? (i := 27) rfl) rfl) (in_t1 (List.mem_of_getElem? (i := 28) rfl) rfl) (x_dk dl_18_0_ok 1 rfl)))))
  (x_Tok2
  (x_Lok (x_st (I := xJ) (xr_aload_n (i := 0) (x_dk dl_18_0_ok 2 rfl))))
  (x_Lok (x_st (I := xJ) (xr_bipush (n := 64) (z := 64) (v := 64) (x_dk dl_18_0_ok 3 rfl) (by decide) (by decide))))))
  (x_Tok2
  (x_Tok2
  (x_Lok (x_st (I := xJ) (xr_newa (kd := 1) (b := false) (ty := .int) rfl rfl (in_t1 (List.mem_of_getElem? (i := 64) rfl) rfl) (x_dk dl_18_0_ok 4 rfl))))
  (x_Lok (x_st (I := xJ) (xr_putF (ci := 7) (k := 0) (ix := 9) (N := 8) (fk := 2) (C := RX7) (T := TX7) (ty0 := tyX7) (ty := .array .int) rfl in_X7 tyX7_ok nmX7 (by decide) (in_t1 (List.mem_of_getElem? (i := 136) rfl) rfl) rfl rfl rfl rfl x_fit_arr (x_dk dl_18_0_ok 5 rfl)))))
  (x_Tok2
  (x_Lok (x_st (I := xJ) (xr_aload_n (i := 0) (x_dk dl_18_0_ok 6 rfl))))
  (x_Lok (x_st (I := xJ) (xr_bipush (n := 64) (z := 64) (v := 64) (x_dk dl_18_0_ok 7 rfl) (by decide) (by decide)))))))
  (x_Tok2
  (x_Tok2
  (x_Tok2
  (x_Lok (x_st (I := xJ) (xr_newa (kd := 1) (b := false) (ty := .int) rfl rfl (in_t1 (List.mem_of_getElem? (i := 64) rfl) rfl) (x_dk dl_18_0_ok 8 rfl))))
  (x_Lok (x_st (I := xJ) (xr_putF (ci := 7) (k := 1) (ix := 15) (N := 8) (fk := 2) (C := RX7) (T := TX7) (ty0 := tyX7) (ty := .array .int) rfl in_X7 tyX7_ok nmX7 (by decide) (in_t1 (List.mem_of_getElem? (i := 138) rfl) rfl) rfl rfl rfl rfl x_fit_arr (x_dk dl_18_0_ok 9 rfl)))))
  (x_Tok2
  (x_Lok (x_st (I := xJ) (xr_aload_n (i := 0) (x_dk dl_18_0_ok 10 rfl))))
  (x_Lok (x_st (I := xJ) (xr_bipush (n := 64) (z := 64) (v := 64) (x_dk dl_18_0_ok 11 rfl) (by decide) (by decide))))))
  (x_Tok2
  (x_Tok2
  (x_Lok (x_st (I := xJ) (xr_newa (kd := 1) (b := false) (ty := .int) rfl rfl (in_t1 (List.mem_of_getElem? (i := 64) rfl) rfl) (x_dk dl_18_0_ok 12 rfl))))
  (x_Lok (x_st (I := xJ) (xr_putF (ci := 7) (k := 2) (ix := 18) (N := 8) (fk := 2) (C := RX7) (T := TX7) (ty0 := tyX7) (ty := .array .int) rfl in_X7 tyX7_ok nmX7 (by decide) (in_t1 (List.mem_of_getElem? (i := 141) rfl) rfl) rfl rfl rfl rfl x_fit_arr (x_dk dl_18_0_ok 13 rfl)))))
  (x_Tok2
  (x_Lok (x_st (I := xJ) (xr_aload_n (i := 0) (x_dk dl_18_0_ok 14 rfl))))
  (x_Tok2
  (x_Lok (x_st (I := xJ) (xr_bipush (n := 64) (z := 64) (v := 64) (x_dk dl_18_0_ok 15 rfl) (by decide) (by decide))))
  (x_Lok (x_st (I := xJ) (xr_newa (kd := 1) (b := false) (ty := .int) rfl rfl (in_t1 (List.mem_of_getElem? (i := 64) rfl) rfl) (x_dk dl_18_0_ok 16 rfl)))))))))
  (x_Tok2
  (x_Tok2
  (x_Tok2
  (x_Tok2
  (x_Lok (x_st (I := xJ) (xr_putF (ci := 7) (k := 3) (ix := 21) (N := 8) (fk := 2) (C := RX7) (T := TX7) (ty0 := tyX7) (ty := .array .int) rfl in_X7 tyX7_ok nmX7 (by decide) (in_t1 (List.mem_of_getElem? (i := 144) rfl) rfl) rfl rfl rfl rfl x_fit_arr (x_dk dl_18_0_ok 17 rfl))))
  (x_Lok (x_st (I := xJ) (xr_aload_n (i := 0) (x_dk dl_18_0_ok 18 rfl)))))
  (x_Tok2
  (x_Lok (x_st (I := xJ) (xr_bipush (n := 64) (z := 64) (v := 64) (x_dk dl_18_0_ok 19 rfl) (by decide) (by decide))))
  (x_Lok (x_st (I := xJ) (xr_newa (kd := 1) (b := false) (ty := .int) rfl rfl (in_t1 (List.mem_of_getElem? (i := 64) rfl) rfl) (x_dk dl_18_0_ok 20 rfl))))))
  (x_Tok2
  (x_Tok2
  (x_Lok (x_st (I := xJ) (xr_putF (ci := 7) (k := 4) (ix := 24) (N := 8) (fk := 2) (C := RX7) (T := TX7) (ty0 := tyX7) (ty := .array .int) rfl in_X7 tyX7_ok nmX7 (by decide) (in_t1 (List.mem_of_getElem? (i := 145) rfl) rfl) rfl rfl rfl rfl x_fit_arr (x_dk dl_18_0_ok 21 rfl))))
  (x_Lok (x_st (I := xJ) (xr_aload_n (i := 0) (x_dk dl_18_0_ok 22 rfl)))))
  (x_Tok2
  (x_Lok (x_st (I := xJ) (xr_bipush (n := 64) (z := 64) (v := 64) (x_dk dl_18_0_ok 23 rfl) (by decide) (by decide))))
  (x_Tok2
  (x_Lok (x_st (I := xJ) (xr_newa (kd := 3) (b := true) (ty := .boolean) rfl rfl (in_t1 (List.mem_of_getElem? (i := 166) rfl) rfl) (x_dk dl_18_0_ok 24 rfl))))
  (x_Lok (x_st (I := xJ) (xr_putF (ci := 7) (k := 5) (ix := 27) (N := 8) (fk := 2) (C := RX7) (T := TX7) (ty0 := tyX7) (ty := .array .boolean) rfl in_X7 tyX7_ok nmX7 (by decide) (in_t1 (List.mem_of_getElem? (i := 146) rfl) rfl) rfl rfl rfl rfl x_fit_arr (x_dk dl_18_0_ok 25 rfl))))))))
  (x_Tok2
  (x_Tok2
  (x_Tok2
  (x_Lok (x_st (I := xJ) (xr_aload_n (i := 0) (x_dk dl_18_0_ok 26 rfl))))
  (x_Lok (x_st (I := xJ) (xr_bipush (n := 64) (z := 64) (v := 64) (x_dk dl_18_0_ok 27 rfl) (by decide) (by decide)))))
  (x_Tok2
  (x_Lok (x_st (I := xJ) (xr_newa (kd := 3) (b := true) (ty := .boolean) rfl rfl (in_t1 (List.mem_of_getElem? (i := 166) rfl) rfl) (x_dk dl_18_0_ok 28 rfl))))
  (x_Lok (x_st (I := xJ) (xr_putF (ci := 7) (k := 6) (ix := 31) (N := 8) (fk := 2) (C := RX7) (T := TX7) (ty0 := tyX7) (ty := .array .boolean) rfl in_X7 tyX7_ok nmX7 (by decide) (in_t1 (List.mem_of_getElem? (i := 147) rfl) rfl) rfl rfl rfl rfl x_fit_arr (x_dk dl_18_0_ok 29 rfl))))))
  (x_Tok2
  (x_Tok2
  (x_Lok (x_st (I := xJ) (xr_aload_n (i := 0) (x_dk dl_18_0_ok 30 rfl))))
  (x_Lok (x_st (I := xJ) (xr_bipush (n := 64) (z := 64) (v := 64) (x_dk dl_18_0_ok 31 rfl) (by decide) (by decide)))))
  (x_Tok2
  (x_Lok (x_st (I := xJ) (xr_newa (kd := 1) (b := false) (ty := .int) rfl rfl (in_t1 (List.mem_of_getElem? (i := 64) rfl) rfl) (x_dk dl_18_0_ok 32 rfl))))
  (x_Tok2
  (x_Lok (x_st (I := xJ) (xr_putF (ci := 7) (k := 7) (ix := 34) (N := 8) (fk := 2) (C := RX7) (T := TX7) (ty0 := tyX7) (ty := .array .int) rfl in_X7 tyX7_ok nmX7 (by decide) (in_t1 (List.mem_of_getElem? (i := 148) rfl) rfl) rfl rfl rfl rfl x_fit_arr (x_dk dl_18_0_ok 33 rfl))))
  (x_Lok (x_rt (I := xJ) (k := 0) ⟨(x_dk dl_18_0_ok 34 rfl), rfl⟩))))))))
def tb_18 : Nat → xE := tb_18_0
theorem tb_18_ok (K : xKx) (hK : x_KP K) : ∀ pc, x_EOq cls K xJ mq_18 pc (tb_18 pc) := tb_18_0_ok K hK
def dl_19_0 : List (Nat × Instr × Nat) := [(0, .aload_n 0, 1), (1, .getfield 24, 3), (4, .iconst (-1), 1), (5, .invokestatic 37, 3), (8, .aload_n 0, 1), (9, .invokevirtual 43, 3), (12, .return_, 1)]
set_option maxRecDepth 20000 in
theorem dl_19_0_ok : dl_19_0.all (fun q => decide (decode prog_9_method_2_code q.1 = .ok (q.2.1, q.2.2))) = true := xa_g_ok (by decide +kernel)
def tb_19_0 : Nat → xE := (x_T 4 (x_T 0 (x_L 0 (0, xi_load 0 2 1, 0, 0)) (x_T 1 (x_L 1 (0, xi_getf 7 4 4, 0, 0)) (x_L 4 (0, xi_push (0, (-1), (-1)) 5, 0, 0)))) (x_T 8 (x_T 5 (x_L 5 (2, x_nof, 40, 2)) (x_L 8 (0, xi_load 0 2 9, 0, 0))) (x_T 9 (x_L 9 (2, x_nof, 21, 1)) (x_L 12 (1, x_nof, 0, 0)))))
set_option maxRecDepth 20000 in
set_option maxHeartbeats 4000000 in
theorem tb_19_0_ok (K : xKx) (hK : x_KP K) : ∀ pc, x_EOq cls K xJ mq_19 pc (tb_19_0 pc) :=
  (x_Tok2
  (x_Tok2
  (x_Lok (x_st (I := xJ) (xr_aload_n (i := 0) (x_dk dl_19_0_ok 0 rfl))))
  (x_Tok2
  (x_Lok (x_st (I := xJ) (xr_getf (ci := 7) (k := 4) (ix := 24) (N := 8) (C := RX7) (T := TX7) rfl in_X7 (by decide) (in_t1 (List.mem_of_getElem? (i := 145) rfl) rfl) (x_dk dl_19_0_ok 1 rfl))))
  (x_Lok (x_st (I := xJ) (xr_iconst (n := (-1)) (z := (-1)) (v := (-1)) (x_dk dl_19_0_ok 2 rfl) (by decide) (by decide))))))
  (x_Tok2
  (x_Tok2
  (x_Lok (x_ca (I := xJ) (q' := mq_40) rfl (xr_callS (q' := mq_40) (ix := 37) (n := 2) (in_t4 (List.mem_of_getElem? (i := 9) rfl) rfl) good_w (in_t1 (List.mem_of_getElem? (i := 13) rfl) rfl) (in_t4 (List.mem_of_getElem? (i := 44) rfl) rfl) (in_t4 (List.mem_of_getElem? (i := 8) rfl) rfl) (by decide +kernel) (by decide +kernel) (x_dk dl_19_0_ok 3 rfl))))
  (x_Lok (x_st (I := xJ) (xr_aload_n (i := 0) (x_dk dl_19_0_ok 4 rfl)))))
  (x_Tok2
  (x_Lok (x_ca (I := xJ) (q' := mq_21) rfl (xr_callV (q' := mq_21) (ix := 43) (n := 0) (in_t4 (List.mem_of_getElem? (i := 48) rfl) rfl) good_w (in_t1 (List.mem_of_getElem? (i := 5) rfl) rfl) (in_t4 (List.mem_of_getElem? (i := 45) rfl) rfl) (in_t4 (List.mem_of_getElem? (i := 47) rfl) rfl) (in_s1 (List.mem_of_getElem? (i := 1) rfl)) (by decide +kernel) (by decide +kernel) (by decide +kernel) (x_dk dl_19_0_ok 5 rfl))))
  (x_Lok (x_rt (I := xJ) (k := 0) ⟨(x_dk dl_19_0_ok 6 rfl), rfl⟩)))))
def tb_19 : Nat → xE := tb_19_0
theorem tb_19_ok (K : xKx) (hK : x_KP K) : ∀ pc, x_EOq cls K xJ mq_19 pc (tb_19 pc) := tb_19_0_ok K hK
def dl_20_0 : List (Nat × Instr × Nat) := [(0, .aload_n 0, 1), (1, .getfield 9, 3), (4, .iconst 0, 1), (5, .invokestatic 37, 3), (8, .iconst 0, 1), (9, .istore_n 1, 1), (10, .iload_n 1, 1), (11, .bipush 64, 2), (13, .if_icmp .ge 16, 3), (16, .aload_n 0, 1), (17, .getfield 27, 3), (20, .iload_n 1, 1), (21, .iconst 0, 1), (22, .bastore, 1), (23, .iinc 1 1, 3), (26, .goto (-16), 3), (29, .aload_n 0, 1), (30, .invokevirtual 46, 3), (33, .aload_n 0, 1), (34, .getfield 18, 3), (37, .iconst 0, 1), (38, .invokestatic 37, 3), (41, .return_, 1)]
set_option maxRecDepth 20000 in
theorem dl_20_0_ok : dl_20_0.all (fun q => decide (decode prog_9_method_3_code q.1 = .ok (q.2.1, q.2.2))) = true := xa_g_ok (by decide +kernel)
def tb_20_0 : Nat → xE := (x_T 17 (x_T 8 (x_T 1 (x_T 0 (x_L 0 (0, xi_load 0 2 1, 0, 0)) (x_L 1 (0, xi_getf 7 0 4, 0, 0))) (x_T 4 (x_L 4 (0, xi_push (0, 0, 0) 5, 0, 0)) (x_T 5 (x_L 5 (2, x_nof, 40, 2)) (x_L 8 (0, xi_push (0, 0, 0) 9, 0, 0))))) (x_T 11 (x_T 9 (x_L 9 (0, xi_stor 1 0 10, 0, 0)) (x_T 10 (x_L 10 (0, xi_load 1 0 11, 0, 0)) (x_L 11 (0, xi_push (0, 64, 64) 13, 0, 0)))) (x_T 13 (x_L 13 (0, xi_if2 3 29 16, 0, 0)) (x_T 16 (x_L 16 (0, xi_load 0 2 17, 0, 0)) (x_L 17 (0, xi_getf 7 5 20, 0, 0)))))) (x_T 29 (x_T 22 (x_T 20 (x_L 20 (0, xi_load 1 0 21, 0, 0)) (x_T 21 (x_L 21 (0, xi_push (0, 0, 0) 22, 0, 0)) (x_L 22 (0, xi_ast true 23, 0, 0)))) (x_T 23 (x_L 23 (0, xi_inc 1 1 26, 0, 0)) (x_T 26 (x_L 26 (0, xi_goto 10, 0, 0)) (x_L 29 (0, xi_load 0 2 30, 0, 0))))) (x_T 34 (x_T 30 (x_L 30 (2, x_nof, 22, 1)) (x_T 33 (x_L 33 (0, xi_load 0 2 34, 0, 0)) (x_L 34 (0, xi_getf 7 2 37, 0, 0)))) (x_T 37 (x_L 37 (0, xi_push (0, 0, 0) 38, 0, 0)) (x_T 38 (x_L 38 (2, x_nof, 40, 2)) (x_L 41 (1, x_nof, 0, 0)))))))
set_option maxRecDepth 20000 in
set_option maxHeartbeats 4000000 in
theorem tb_20_0_ok (K : xKx) (hK : x_KP K) : ∀ pc, x_EOq cls K xJ mq_20 pc (tb_20_0 pc) :=
  (x_Tok2
  (x_Tok2
  (x_Tok2
  (x_Tok2
  (x_Lok (x_st (I := xJ) (xr_aload_n (i := 0) (x_dk dl_20_0_ok 0 rfl))))
  (x_Lok (x_st (I := xJ) (xr_getf (ci := 7) (k := 0) (ix := 9) (N := 8) (C := RX7) (T := TX7) rfl in_X7 (by decide) (in_t1 (List.mem_of_getElem? (i := 136) rfl) rfl) (x_dk dl_20_0_ok 1 rfl)))))
  (x_Tok2
  (x_Lok (x_st (I := xJ) (xr_iconst (n := 0) (z := 0) (v := 0) (x_dk dl_20_0_ok 2 rfl) (by decide) (by decide))))
  (x_Tok2
  (x_Lok (x_ca (I := xJ) (q' := mq_40) rfl (xr_callS (q' := mq_40) (ix := 37) (n := 2) (in_t4 (List.mem_of_getElem? (i := 9) rfl) rfl) good_w (in_t1 (List.mem_of_getElem? (i := 13) rfl) rfl) (in_t4 (List.mem_of_getElem? (i := 44) rfl) rfl) (in_t4 (List.mem_of_getElem? (i := 8) rfl) rfl) (by decide +kernel) (by decide +kernel) (x_dk dl_20_0_ok 3 rfl))))
  (x_Lok (x_st (I := xJ) (xr_iconst (n := 0) (z := 0) (v := 0) (x_dk dl_20_0_ok 4 rfl) (by decide) (by decide)))))))
  (x_Tok2
  (x_Tok2
  (x_Lok (x_st (I := xJ) (xr_istore_n (i := 1) (x_dk dl_20_0_ok 5 rfl) (by decide +kernel))))
  (x_Tok2
  (x_Lok (x_st (I := xJ) (xr_iload_n (i := 1) (x_dk dl_20_0_ok 6 rfl))))
  (x_Lok (x_st (I := xJ) (xr_bipush (n := 64) (z := 64) (v := 64) (x_dk dl_20_0_ok 7 rfl) (by decide) (by decide))))))
  (x_Tok2
  (x_Lok (x_st (I := xJ) (xr_icmpge (off := 16) (tg := 29) (x_dk dl_20_0_ok 8 rfl) (by decide))))
  (x_Tok2
  (x_Lok (x_st (I := xJ) (xr_aload_n (i := 0) (x_dk dl_20_0_ok 9 rfl))))
  (x_Lok (x_st (I := xJ) (xr_getf (ci := 7) (k := 5) (ix := 27) (N := 8) (C := RX7) (T := TX7) rfl in_X7 (by decide) (in_t1 (List.mem_of_getElem? (i := 146) rfl) rfl) (x_dk dl_20_0_ok 10 rfl))))))))
  (x_Tok2
  (x_Tok2
  (x_Tok2
  (x_Lok (x_st (I := xJ) (xr_iload_n (i := 1) (x_dk dl_20_0_ok 11 rfl))))
  (x_Tok2
  (x_Lok (x_st (I := xJ) (xr_iconst (n := 0) (z := 0) (v := 0) (x_dk dl_20_0_ok 12 rfl) (by decide) (by decide))))
  (x_Lok (x_st (I := xJ) (xr_bastore (x_dk dl_20_0_ok 13 rfl))))))
  (x_Tok2
  (x_Lok (x_st (I := xJ) (xr_iinc (i := 1) (n := 1) (x_dk dl_20_0_ok 14 rfl) (by decide +kernel) (by decide))))
  (x_Tok2
  (x_Lok (x_st (I := xJ) (xr_goto (off := (-16)) (tg := 10) (x_dk dl_20_0_ok 15 rfl) (by decide))))
  (x_Lok (x_st (I := xJ) (xr_aload_n (i := 0) (x_dk dl_20_0_ok 16 rfl)))))))
  (x_Tok2
  (x_Tok2
  (x_Lok (x_ca (I := xJ) (q' := mq_22) rfl (xr_callV (q' := mq_22) (ix := 46) (n := 0) (in_t4 (List.mem_of_getElem? (i := 66) rfl) rfl) good_w (in_t1 (List.mem_of_getElem? (i := 5) rfl) rfl) (in_t4 (List.mem_of_getElem? (i := 63) rfl) rfl) (in_t4 (List.mem_of_getElem? (i := 65) rfl) rfl) (in_s1 (List.mem_of_getElem? (i := 3) rfl)) (by decide +kernel) (by decide +kernel) (by decide +kernel) (x_dk dl_20_0_ok 17 rfl))))
  (x_Tok2
  (x_Lok (x_st (I := xJ) (xr_aload_n (i := 0) (x_dk dl_20_0_ok 18 rfl))))
  (x_Lok (x_st (I := xJ) (xr_getf (ci := 7) (k := 2) (ix := 18) (N := 8) (C := RX7) (T := TX7) rfl in_X7 (by decide) (in_t1 (List.mem_of_getElem? (i := 141) rfl) rfl) (x_dk dl_20_0_ok 19 rfl))))))
  (x_Tok2
  (x_Lok (x_st (I := xJ) (xr_iconst (n := 0) (z := 0) (v := 0) (x_dk dl_20_0_ok 20 rfl) (by decide) (by decide))))
  (x_Tok2
  (x_Lok (x_ca (I := xJ) (q' := mq_40) rfl (xr_callS (q' := mq_40) (ix := 37) (n := 2) (in_t4 (List.mem_of_getElem? (i := 9) rfl) rfl) good_w (in_t1 (List.mem_of_getElem? (i := 13) rfl) rfl) (in_t4 (List.mem_of_getElem? (i := 44) rfl) rfl) (in_t4 (List.mem_of_getElem? (i := 8) rfl) rfl) (by decide +kernel) (by decide +kernel) (x_dk dl_20_0_ok 21 rfl))))
  (x_Lok (x_rt (I := xJ) (k := 0) ⟨(x_dk dl_20_0_ok 22 rfl), rfl⟩)))))))
def tb_20 : Nat → xE := tb_20_0
theorem tb_20_ok (K : xKx) (hK : x_KP K) : ∀ pc, x_EOq cls K xJ mq_20 pc (tb_20 pc) := tb_20_0_ok K hK
def dl_21_0 : List (Nat × Instr × Nat) := [(0, .iconst 0, 1), (1, .istore_n 1, 1), (2, .iconst 0, 1), (3, .istore_n 2, 1), (4, .iload_n 2, 1), (5, .bipush 64, 2), (7, .if_icmp .ge 28, 3), (10, .aload_n 0, 1), (11, .getfield 24, 3), (14, .iload_n 2, 1), (15, .iaload, 1), (16, .ifCond .ge 13, 3), (19, .aload_n 0, 1), (20, .getfield 34, 3), (23, .iload_n 1, 1), (24, .iload_n 2, 1), (25, .iastore, 1), (26, .iinc 1 1, 3), (29, .iinc 2 1, 3), (32, .goto (-28), 3), (35, .iconst 0, 1), (36, .istore_n 2, 1), (37, .iload_n 2, 1), (38, .iload_n 1, 1), (39, .if_icmp .ge 60, 3), (42, .iload_n 1, 1), (43, .bipush 64, 2), (45, .if_icmp .ge 54, 3), (99, .return_, 1)]
set_option maxRecDepth 20000 in
theorem dl_21_0_ok : dl_21_0.all (fun q => decide (decode prog_9_method_8_code q.1 = .ok (q.2.1, q.2.2))) = true := xa_g_ok (by decide +kernel)
def tb_21_0 : Nat → xE := (x_T 20 (x_T 7 (x_T 2 (x_T 0 (x_L 0 (0, xi_push (0, 0, 0) 1, 0, 0)) (x_T 1 (x_L 1 (0, xi_stor 1 0 2, 0, 0)) (x_L 2 (0, xi_push (0, 0, 0) 3, 0, 0)))) (x_T 4 (x_T 3 (x_L 3 (0, xi_stor 2 0 4, 0, 0)) (x_L 4 (0, xi_load 2 0 5, 0, 0))) (x_T 5 (x_L 5 (0, xi_push (0, 64, 64) 7, 0, 0)) (x_L 7 (0, xi_if2 3 35 10, 0, 0))))) (x_T 14 (x_T 10 (x_L 10 (0, xi_load 0 2 11, 0, 0)) (x_T 11 (x_L 11 (0, xi_getf 7 4 14, 0, 0)) (x_L 14 (0, xi_load 2 0 15, 0, 0)))) (x_T 16 (x_T 15 (x_L 15 (0, xi_ald false 16, 0, 0)) (x_L 16 (0, xi_if1 3 29 19, 0, 0))) (x_T 19 (x_L 19 (0, xi_load 0 2 20, 0, 0)) (x_L 20 (0, xi_getf 7 7 23, 0, 0)))))) (x_T 35 (x_T 25 (x_T 23 (x_L 23 (0, xi_load 1 0 24, 0, 0)) (x_T 24 (x_L 24 (0, xi_load 2 0 25, 0, 0)) (x_L 25 (0, xi_ast false 26, 0, 0)))) (x_T 29 (x_T 26 (x_L 26 (0, xi_inc 1 1 29, 0, 0)) (x_L 29 (0, xi_inc 2 1 32, 0, 0))) (x_T 32 (x_L 32 (0, xi_goto 4, 0, 0)) (x_L 35 (0, xi_push (0, 0, 0) 36, 0, 0))))) (x_T 39 (x_T 37 (x_T 36 (x_L 36 (0, xi_stor 2 0 37, 0, 0)) (x_L 37 (0, xi_load 2 0 38, 0, 0))) (x_T 38 (x_L 38 (0, xi_load 1 0 39, 0, 0)) (x_L 39 (0, xi_if2 3 99 42, 0, 0)))) (x_T 43 (x_T 42 (x_L 42 (0, xi_load 1 0 43, 0, 0)) (x_L 43 (0, xi_push (0, 64, 64) 45, 0, 0))) (x_T 45 (x_L 45 (0, xi_if2 3 99 48, 0, 0)) (x_L 99 (1, x_nof, 0, 0)))))))
set_option maxRecDepth 20000 in
set_option maxHeartbeats 4000000 in
theorem tb_21_0_ok (K : xKx) (hK : x_KP K) : ∀ pc, x_EOq cls K xJ mq_21 pc (tb_21_0 pc) :=
  (x_Tok2
  (x_Tok2
  (x_Tok2
  (x_Tok2
  (x_Lok (x_st (I := xJ) (xr_iconst (n := 0) (z := 0) (v := 0) (x_dk dl_21_0_ok 0 rfl) (by decide) (by decide))))
  (x_Tok2
  (x_Lok (x_st (I := xJ) (xr_istore_n (i := 1) (x_dk dl_21_0_ok 1 rfl) (by decide +kernel))))
  (x_Lok (x_st (I := xJ) (xr_iconst (n := 0) (z := 0) (v := 0) (x_dk dl_21_0_ok 2 rfl) (by decide) (by decide))))))
  (x_Tok2
  (x_Tok2
  (x_Lok (x_st (I := xJ) (xr_istore_n (i := 2) (x_dk dl_21_0_ok 3 rfl) (by decide +kernel))))
  (x_Lok (x_st (I := xJ) (xr_iload_n (i := 2) (x_dk dl_21_0_ok 4 rfl)))))
  (x_Tok2
  (x_Lok (x_st (I := xJ) (xr_bipush (n := 64) (z := 64) (v := 64) (x_dk dl_21_0_ok 5 rfl) (by decide) (by decide))))
  (x_Lok (x_st (I := xJ) (xr_icmpge (off := 28) (tg := 35) (x_dk dl_21_0_ok 6 rfl) (by decide)))))))
  (x_Tok2
  (x_Tok2
  (x_Lok (x_st (I := xJ) (xr_aload_n (i := 0) (x_dk dl_21_0_ok 7 rfl))))
  (x_Tok2
  (x_Lok (x_st (I := xJ) (xr_getf (ci := 7) (k := 4) (ix := 24) (N := 8) (C := RX7) (T := TX7) rfl in_X7 (by decide) (in_t1 (List.mem_of_getElem? (i := 145) rfl) rfl) (x_dk dl_21_0_ok 8 rfl))))
  (x_Lok (x_st (I := xJ) (xr_iload_n (i := 2) (x_dk dl_21_0_ok 9 rfl))))))
  (x_Tok2
  (x_Tok2
  (x_Lok (x_st (I := xJ) (xr_iaload (x_dk dl_21_0_ok 10 rfl))))
  (x_Lok (x_st (I := xJ) (xr_ifge (off := 13) (tg := 29) (x_dk dl_21_0_ok 11 rfl) (by decide)))))
  (x_Tok2
  (x_Lok (x_st (I := xJ) (xr_aload_n (i := 0) (x_dk dl_21_0_ok 12 rfl))))
  (x_Lok (x_st (I := xJ) (xr_getf (ci := 7) (k := 7) (ix := 34) (N := 8) (C := RX7) (T := TX7) rfl in_X7 (by decide) (in_t1 (List.mem_of_getElem? (i := 148) rfl) rfl) (x_dk dl_21_0_ok 13 rfl))))))))
  (x_Tok2
  (x_Tok2
  (x_Tok2
  (x_Lok (x_st (I := xJ) (xr_iload_n (i := 1) (x_dk dl_21_0_ok 14 rfl))))
  (x_Tok2
  (x_Lok (x_st (I := xJ) (xr_iload_n (i := 2) (x_dk dl_21_0_ok 15 rfl))))
  (x_Lok (x_st (I := xJ) (xr_iastore (x_dk dl_21_0_ok 16 rfl))))))
  (x_Tok2
  (x_Tok2
  (x_Lok (x_st (I := xJ) (xr_iinc (i := 1) (n := 1) (x_dk dl_21_0_ok 17 rfl) (by decide +kernel) (by decide))))
  (x_Lok (x_st (I := xJ) (xr_iinc (i := 2) (n := 1) (x_dk dl_21_0_ok 18 rfl) (by decide +kernel) (by decide)))))
  (x_Tok2
  (x_Lok (x_st (I := xJ) (xr_goto (off := (-28)) (tg := 4) (x_dk dl_21_0_ok 19 rfl) (by decide))))
  (x_Lok (x_st (I := xJ) (xr_iconst (n := 0) (z := 0) (v := 0) (x_dk dl_21_0_ok 20 rfl) (by decide) (by decide)))))))
  (x_Tok2
  (x_Tok2
  (x_Tok2
  (x_Lok (x_st (I := xJ) (xr_istore_n (i := 2) (x_dk dl_21_0_ok 21 rfl) (by decide +kernel))))
  (x_Lok (x_st (I := xJ) (xr_iload_n (i := 2) (x_dk dl_21_0_ok 22 rfl)))))
  (x_Tok2
  (x_Lok (x_st (I := xJ) (xr_iload_n (i := 1) (x_dk dl_21_0_ok 23 rfl))))
  (x_Lok (x_st (I := xJ) (xr_icmpge (off := 60) (tg := 99) (x_dk dl_21_0_ok 24 rfl) (by decide))))))
  (x_Tok2
  (x_Tok2
  (x_Lok (x_st (I := xJ) (xr_iload_n (i := 1) (x_dk dl_21_0_ok 25 rfl))))
  (x_Lok (x_st (I := xJ) (xr_bipush (n := 64) (z := 64) (v := 64) (x_dk dl_21_0_ok 26 rfl) (by decide) (by decide)))))
  (x_Tok2
  (x_Lok (x_st (I := xJ) (xr_icmpge (off := 54) (tg := 99) (x_dk dl_21_0_ok 27 rfl) (by decide))))
  (x_Lok (x_rt (I := xJ) (k := 0) ⟨(x_dk dl_21_0_ok 28 rfl), rfl⟩)))))))
def tb_21 : Nat → xE := tb_21_0
theorem tb_21_ok (K : xKx) (hK : x_KP K) : ∀ pc, x_EOq cls K xJ mq_21 pc (tb_21 pc) := tb_21_0_ok K hK
def dl_22_0 : List (Nat × Instr × Nat) := [(0, .iconst 0, 1), (1, .istore_n 1, 1), (2, .iload_n 1, 1), (3, .bipush 64, 2), (5, .if_icmp .ge 52, 3), (8, .aload_n 0, 1), (9, .getfield 34, 3), (12, .iload_n 1, 1), (13, .iaload, 1), (14, .istore_n 2, 1), (15, .aload_n 0, 1), (16, .iload_n 2, 1), (17, .invokevirtual 52, 3), (20, .istore_n 3, 1), (21, .aload_n 0, 1), (22, .getfield 15, 3), (25, .iload_n 2, 1), (26, .iaload, 1), (27, .ifCond .ne 17, 3), (30, .iload_n 3, 1), (31, .ifCond .eq 13, 3), (44, .aload_n 0, 1), (45, .getfield 15, 3), (48, .iload_n 2, 1), (49, .iload_n 3, 1), (50, .iastore, 1), (51, .iinc 1 1, 3), (54, .goto (-52), 3), (57, .return_, 1)]
set_option maxRecDepth 20000 in
theorem dl_22_0_ok : dl_22_0.all (fun q => decide (decode prog_9_method_9_code q.1 = .ok (q.2.1, q.2.2))) = true := xa_g_ok (by decide +kernel)
def tb_22_0 : Nat → xE := (x_T 20 (x_T 9 (x_T 2 (x_T 0 (x_L 0 (0, xi_push (0, 0, 0) 1, 0, 0)) (x_T 1 (x_L 1 (0, xi_stor 1 0 2, 0, 0)) (x_L 2 (3, xi_load 1 0 3, 4, 0)))) (x_T 5 (x_T 3 (x_L 3 (0, xi_push (0, 64, 64) 5, 0, 0)) (x_L 5 (0, xi_if2 3 57 8, 0, 0))) (x_T 8 (x_L 8 (0, xi_load 0 2 9, 0, 0)) (x_L 9 (0, xi_getf 7 7 12, 0, 0))))) (x_T 14 (x_T 12 (x_L 12 (0, xi_load 1 0 13, 0, 0)) (x_T 13 (x_L 13 (0, xi_aldH false 14, 0, 0)) (x_L 14 (0, xi_stor 2 0 15, 0, 0)))) (x_T 16 (x_T 15 (x_L 15 (0, xi_load 0 2 16, 0, 0)) (x_L 16 (0, xi_load 2 0 17, 0, 0))) (x_T 17 (x_L 17 (2, x_nof, 23, 2)) (x_L 20 (0, xi_stor 3 0 21, 0, 0)))))) (x_T 31 (x_T 25 (x_T 21 (x_L 21 (0, xi_load 0 2 22, 0, 0)) (x_T 22 (x_L 22 (0, xi_getf 7 1 25, 0, 0)) (x_L 25 (0, xi_load 2 0 26, 0, 0)))) (x_T 27 (x_T 26 (x_L 26 (0, xi_ald false 27, 0, 0)) (x_L 27 (0, xi_if1 1 44 30, 0, 0))) (x_T 30 (x_L 30 (0, xi_load 3 0 31, 0, 0)) (x_L 31 (0, xi_if1 0 44 34, 0, 0))))) (x_T 49 (x_T 45 (x_T 44 (x_L 44 (0, xi_load 0 2 45, 0, 0)) (x_L 45 (0, xi_getf 7 1 48, 0, 0))) (x_T 48 (x_L 48 (0, xi_load 2 0 49, 0, 0)) (x_L 49 (0, xi_load 3 0 50, 0, 0)))) (x_T 51 (x_T 50 (x_L 50 (0, xi_ast false 51, 0, 0)) (x_L 51 (0, xi_incT 1 54, 0, 0))) (x_T 54 (x_L 54 (0, xi_goto 2, 0, 0)) (x_L 57 (1, x_nof, 0, 0)))))))
set_option maxRecDepth 20000 in
set_option maxHeartbeats 4000000 in
theorem tb_22_0_ok (K : xKx) (hK : x_KP K) : ∀ pc, x_EOq cls K xJ mq_22 pc (tb_22_0 pc) :=
  (x_Tok2
  (x_Tok2
  (x_Tok2
  (x_Tok2
  (x_Lok (x_st (I := xJ) (xr_iconst (n := 0) (z := 0) (v := 0) (x_dk dl_22_0_ok 0 rfl) (by decide) (by decide))))
  (x_Tok2
  (x_Lok (x_st (I := xJ) (xr_istore_n (i := 1) (x_dk dl_22_0_ok 1 rfl) (by decide +kernel))))
  (x_Lok (x_lo (I := xJ) (L := 4) (xr_iload_n (i := 1) (x_dk dl_22_0_ok 2 rfl))))))
  (x_Tok2
  (x_Tok2
  (x_Lok (x_st (I := xJ) (xr_bipush (n := 64) (z := 64) (v := 64) (x_dk dl_22_0_ok 3 rfl) (by decide) (by decide))))
  (x_Lok (x_st (I := xJ) (xr_icmpge (off := 52) (tg := 57) (x_dk dl_22_0_ok 4 rfl) (by decide)))))
  (x_Tok2
  (x_Lok (x_st (I := xJ) (xr_aload_n (i := 0) (x_dk dl_22_0_ok 5 rfl))))
  (x_Lok (x_st (I := xJ) (xr_getf (ci := 7) (k := 7) (ix := 34) (N := 8) (C := RX7) (T := TX7) rfl in_X7 (by decide) (in_t1 (List.mem_of_getElem? (i := 148) rfl) rfl) (x_dk dl_22_0_ok 6 rfl)))))))
  (x_Tok2
  (x_Tok2
  (x_Lok (x_st (I := xJ) (xr_iload_n (i := 1) (x_dk dl_22_0_ok 7 rfl))))
  (x_Tok2
  (x_Lok (x_st (I := xJ) (xr_ialdH (x_dk dl_22_0_ok 8 rfl))))
  (x_Lok (x_st (I := xJ) (xr_istore_n (i := 2) (x_dk dl_22_0_ok 9 rfl) (by decide +kernel))))))
  (x_Tok2
  (x_Tok2
  (x_Lok (x_st (I := xJ) (xr_aload_n (i := 0) (x_dk dl_22_0_ok 10 rfl))))
  (x_Lok (x_st (I := xJ) (xr_iload_n (i := 2) (x_dk dl_22_0_ok 11 rfl)))))
  (x_Tok2
  (x_Lok (x_ca (I := xJ) (q' := mq_23) rfl (xr_callV (q' := mq_23) (ix := 52) (n := 1) (in_t4 (List.mem_of_getElem? (i := 70) rfl) rfl) good_w (in_t1 (List.mem_of_getElem? (i := 5) rfl) rfl) (in_t4 (List.mem_of_getElem? (i := 67) rfl) rfl) (in_t4 (List.mem_of_getElem? (i := 69) rfl) rfl) (in_s1 (List.mem_of_getElem? (i := 4) rfl)) (by decide +kernel) (by decide +kernel) (by decide +kernel) (x_dk dl_22_0_ok 12 rfl))))
  (x_Lok (x_st (I := xJ) (xr_istore_n (i := 3) (x_dk dl_22_0_ok 13 rfl) (by decide +kernel))))))))
  (x_Tok2
  (x_Tok2
  (x_Tok2
  (x_Lok (x_st (I := xJ) (xr_aload_n (i := 0) (x_dk dl_22_0_ok 14 rfl))))
  (x_Tok2
  (x_Lok (x_st (I := xJ) (xr_getf (ci := 7) (k := 1) (ix := 15) (N := 8) (C := RX7) (T := TX7) rfl in_X7 (by decide) (in_t1 (List.mem_of_getElem? (i := 138) rfl) rfl) (x_dk dl_22_0_ok 15 rfl))))
  (x_Lok (x_st (I := xJ) (xr_iload_n (i := 2) (x_dk dl_22_0_ok 16 rfl))))))
  (x_Tok2
  (x_Tok2
  (x_Lok (x_st (I := xJ) (xr_iaload (x_dk dl_22_0_ok 17 rfl))))
  (x_Lok (x_st (I := xJ) (xr_ifne (off := 17) (tg := 44) (x_dk dl_22_0_ok 18 rfl) (by decide)))))
  (x_Tok2
  (x_Lok (x_st (I := xJ) (xr_iload_n (i := 3) (x_dk dl_22_0_ok 19 rfl))))
  (x_Lok (x_st (I := xJ) (xr_ifeq (off := 13) (tg := 44) (x_dk dl_22_0_ok 20 rfl) (by decide)))))))
  (x_Tok2
  (x_Tok2
  (x_Tok2
  (x_Lok (x_st (I := xJ) (xr_aload_n (i := 0) (x_dk dl_22_0_ok 21 rfl))))
  (x_Lok (x_st (I := xJ) (xr_getf (ci := 7) (k := 1) (ix := 15) (N := 8) (C := RX7) (T := TX7) rfl in_X7 (by decide) (in_t1 (List.mem_of_getElem? (i := 138) rfl) rfl) (x_dk dl_22_0_ok 22 rfl)))))
  (x_Tok2
  (x_Lok (x_st (I := xJ) (xr_iload_n (i := 2) (x_dk dl_22_0_ok 23 rfl))))
  (x_Lok (x_st (I := xJ) (xr_iload_n (i := 3) (x_dk dl_22_0_ok 24 rfl))))))
  (x_Tok2
  (x_Tok2
  (x_Lok (x_st (I := xJ) (xr_iastore (x_dk dl_22_0_ok 25 rfl))))
  (x_Lok (x_st (I := xJ) (xr_iincT (i := 1) (x_hev hK) (x_dk dl_22_0_ok 26 rfl) (by decide +kernel)))))
  (x_Tok2
  (x_Lok (x_st (I := xJ) (xr_goto (off := (-52)) (tg := 2) (x_dk dl_22_0_ok 27 rfl) (by decide))))
  (x_Lok (x_rt (I := xJ) (k := 0) ⟨(x_dk dl_22_0_ok 28 rfl), rfl⟩)))))))
def tb_22 : Nat → xE := tb_22_0
theorem tb_22_ok (K : xKx) (hK : x_KP K) : ∀ pc, x_EOq cls K xJ mq_22 pc (tb_22 pc) := tb_22_0_ok K hK
def dl_23_0 : List (Nat × Instr × Nat) := [(0, .aload_n 0, 1), (1, .getfield 27, 3), (4, .iload_n 1, 1), (5, .baload, 1), (6, .ifCond .eq 10, 3), (16, .aload_n 0, 1), (17, .getfield 24, 3), (20, .iload_n 1, 1), (21, .iaload, 1), (22, .ifCond .ge 10, 3), (25, .aload_n 0, 1), (26, .getfield 9, 3), (29, .iload_n 1, 1), (30, .iaload, 1), (31, .ireturn, 1)]
set_option maxRecDepth 20000 in
theorem dl_23_0_ok : dl_23_0.all (fun q => decide (decode prog_9_method_10_code q.1 = .ok (q.2.1, q.2.2))) = true := xa_g_ok (by decide +kernel)
def tb_23_0 : Nat → xE := (x_T 17 (x_T 4 (x_T 0 (x_L 0 (0, xi_load 0 2 1, 0, 0)) (x_T 1 (x_L 1 (0, xi_getf 7 5 4, 0, 0)) (x_L 4 (0, xi_load 1 0 5, 0, 0)))) (x_T 6 (x_T 5 (x_L 5 (0, xi_ald true 6, 0, 0)) (x_L 6 (0, xi_if1 0 16 9, 0, 0))) (x_T 16 (x_L 16 (0, xi_load 0 2 17, 0, 0)) (x_L 17 (0, xi_getf 7 4 20, 0, 0))))) (x_T 25 (x_T 21 (x_T 20 (x_L 20 (0, xi_load 1 0 21, 0, 0)) (x_L 21 (0, xi_ald false 22, 0, 0))) (x_T 22 (x_L 22 (0, xi_if1 3 32 25, 0, 0)) (x_L 25 (0, xi_load 0 2 26, 0, 0)))) (x_T 29 (x_T 26 (x_L 26 (0, xi_getf 7 0 29, 0, 0)) (x_L 29 (0, xi_load 1 0 30, 0, 0))) (x_T 30 (x_L 30 (0, xi_ald false 31, 0, 0)) (x_L 31 (1, x_nof, 1, 0))))))
set_option maxRecDepth 20000 in
set_option maxHeartbeats 4000000 in
theorem tb_23_0_ok (K : xKx) (hK : x_KP K) : ∀ pc, x_EOq cls K xJ mq_23 pc (tb_23_0 pc) :=
  (x_Tok2
  (x_Tok2
  (x_Tok2
  (x_Lok (x_st (I := xJ) (xr_aload_n (i := 0) (x_dk dl_23_0_ok 0 rfl))))
  (x_Tok2
  (x_Lok (x_st (I := xJ) (xr_getf (ci := 7) (k := 5) (ix := 27) (N := 8) (C := RX7) (T := TX7) rfl in_X7 (by decide) (in_t1 (List.mem_of_getElem? (i := 146) rfl) rfl) (x_dk dl_23_0_ok 1 rfl))))
  (x_Lok (x_st (I := xJ) (xr_iload_n (i := 1) (x_dk dl_23_0_ok 2 rfl))))))
  (x_Tok2
  (x_Tok2
  (x_Lok (x_st (I := xJ) (xr_baload (x_dk dl_23_0_ok 3 rfl))))
  (x_Lok (x_st (I := xJ) (xr_ifeq (off := 10) (tg := 16) (x_dk dl_23_0_ok 4 rfl) (by decide)))))
  (x_Tok2
  (x_Lok (x_st (I := xJ) (xr_aload_n (i := 0) (x_dk dl_23_0_ok 5 rfl))))
  (x_Lok (x_st (I := xJ) (xr_getf (ci := 7) (k := 4) (ix := 24) (N := 8) (C := RX7) (T := TX7) rfl in_X7 (by decide) (in_t1 (List.mem_of_getElem? (i := 145) rfl) rfl) (x_dk dl_23_0_ok 6 rfl)))))))
  (x_Tok2
  (x_Tok2
  (x_Tok2
  (x_Lok (x_st (I := xJ) (xr_iload_n (i := 1) (x_dk dl_23_0_ok 7 rfl))))
  (x_Lok (x_st (I := xJ) (xr_iaload (x_dk dl_23_0_ok 8 rfl)))))
  (x_Tok2
  (x_Lok (x_st (I := xJ) (xr_ifge (off := 10) (tg := 32) (x_dk dl_23_0_ok 9 rfl) (by decide))))
  (x_Lok (x_st (I := xJ) (xr_aload_n (i := 0) (x_dk dl_23_0_ok 10 rfl))))))
  (x_Tok2
  (x_Tok2
  (x_Lok (x_st (I := xJ) (xr_getf (ci := 7) (k := 0) (ix := 9) (N := 8) (C := RX7) (T := TX7) rfl in_X7 (by decide) (in_t1 (List.mem_of_getElem? (i := 136) rfl) rfl) (x_dk dl_23_0_ok 11 rfl))))
  (x_Lok (x_st (I := xJ) (xr_iload_n (i := 1) (x_dk dl_23_0_ok 12 rfl)))))
  (x_Tok2
  (x_Lok (x_st (I := xJ) (xr_iaload (x_dk dl_23_0_ok 13 rfl))))
  (x_Lok (x_rt (I := xJ) (k := 1) ⟨(x_dk dl_23_0_ok 14 rfl), rfl⟩))))))
def tb_23 : Nat → xE := tb_23_0
theorem tb_23_ok (K : xKx) (hK : x_KP K) : ∀ pc, x_EOq cls K xJ mq_23 pc (tb_23 pc) := tb_23_0_ok K hK
def dl_24_0 : List (Nat × Instr × Nat) := [(0, .aload_n 0, 1), (1, .invokespecial 3, 3), (4, .aload_n 0, 1), (5, .iconst (-1), 1), (6, .putfield 9, 3), (9, .aload_n 0, 1), (10, .iconst (-1), 1), (11, .putfield 15, 3), (14, .aload_n 0, 1), (15, .new 18, 3), (18, .dup, 1), (19, .invokespecial 20, 3), (22, .putfield 21, 3), (25, .aload_n 0, 1), (26, .sipush 4000, 3), (29, .newarray .byte, 2), (31, .putfield 25, 3), (34, .aload_n 0, 1), (35, .bipush 32, 2), (37, .newarray .int, 2), (39, .putfield 29, 3), (42, .aload_n 0, 1), (43, .sipush 500, 3), (46, .newarray .int, 2), (48, .putfield 33, 3), (51, .return_, 1)]
set_option maxRecDepth 20000 in
theorem dl_24_0_ok : dl_24_0.all (fun q => decide (decode prog_10_method_1_code q.1 = .ok (q.2.1, q.2.2))) = true := xa_g_ok (by decide +kernel)
def tb_24_0 : Nat → xE := (x_T 22 (x_T 9 (x_T 4 (x_T 0 (x_L 0 (0, xi_load 0 2 1, 0, 0)) (x_T 1 (x_L 1 (0, xi_oi 4, 0, 0)) (x_L 4 (0, xi_load 0 2 5, 0, 0)))) (x_T 5 (x_L 5 (0, xi_push (0, (-1), (-1)) 6, 0, 0)) (x_T 6 (x_L 6 (0, xi_putf 8 1 0 9, 0, 0)) (x_L 9 (0, xi_load 0 2 10, 0, 0))))) (x_T 14 (x_T 10 (x_L 10 (0, xi_push (0, (-1), (-1)) 11, 0, 0)) (x_T 11 (x_L 11 (0, xi_putf 8 2 0 14, 0, 0)) (x_L 14 (0, xi_load 0 2 15, 0, 0)))) (x_T 18 (x_T 15 (x_L 15 (0, xi_new (x_nc 1 ks_X1) (xm_c mq_24) (xm_s mq_24) 18, 0, 0)) (x_L 18 (0, xi_stk xf_dup 19, 0, 0))) (x_T 19 (x_L 19 (2, x_nof, 7, 1)) (x_L 22 (0, xi_putf 8 3 2 25, 0, 0)))))) (x_T 35 (x_T 29 (x_T 25 (x_L 25 (0, xi_load 0 2 26, 0, 0)) (x_T 26 (x_L 26 (0, xi_push (0, 4000, 4000) 29, 0, 0)) (x_L 29 (0, xi_newa 2 0 (0, 0, 0) (xm_c mq_24) (xm_s mq_24) 31, 0, 0)))) (x_T 31 (x_L 31 (0, xi_putf 8 4 2 34, 0, 0)) (x_T 34 (x_L 34 (0, xi_load 0 2 35, 0, 0)) (x_L 35 (0, xi_push (0, 32, 32) 37, 0, 0))))) (x_T 42 (x_T 37 (x_L 37 (0, xi_newa 1 0 (0, 0, 0) (xm_c mq_24) (xm_s mq_24) 39, 0, 0)) (x_T 39 (x_L 39 (0, xi_putf 8 15 2 42, 0, 0)) (x_L 42 (0, xi_load 0 2 43, 0, 0)))) (x_T 46 (x_T 43 (x_L 43 (0, xi_push (0, 500, 500) 46, 0, 0)) (x_L 46 (0, xi_newa 1 0 (0, 0, 0) (xm_c mq_24) (xm_s mq_24) 48, 0, 0))) (x_T 48 (x_L 48 (0, xi_putf 8 16 2 51, 0, 0)) (x_L 51 (1, x_nof, 0, 0)))))))
set_option maxRecDepth 20000 in
set_option maxHeartbeats 4000000 in
theorem tb_24_0_ok (K : xKx) (hK : x_KP K) : ∀ pc, x_EOq cls K xJ mq_24 pc (tb_24_0 pc) :=
  (x_Tok2
  (x_Tok2
  (x_Tok2
  (x_Tok2
  (x_Lok (x_st (I := xJ) (xr_aload_n (i := 0) (x_dk dl_24_0_ok 0 rfl))))
  (x_Tok2
  (x_Lok (x_st (I := xJ) (xr_oi (ix := 3) (in_t1 (List.mem_of_getElem? (i := 34) rfl) rfl) (in_t1 (List.mem_of_getElem? (i := 27) rfl) rfl) (in_t1 (List.mem_of_getElem? (i := 28) rfl) rfl) (x_dk dl_24_0_ok 1 rfl))))
  (x_Lok (x_st (I := xJ) (xr_aload_n (i := 0) (x_dk dl_24_0_ok 2 rfl))))))
  (x_Tok2
  (x_Lok (x_st (I := xJ) (xr_iconst (n := (-1)) (z := (-1)) (v := (-1)) (x_dk dl_24_0_ok 3 rfl) (by decide) (by decide))))
  (x_Tok2
  (x_Lok (x_st (I := xJ) (xr_putf (ci := 8) (k := 1) (ix := 9) (N := 17) (fk := 0) (C := RX8) (T := TX8) (ty0 := tyX8) (ty := .int) rfl in_X8 tyX8_ok nmX8 (by decide) (in_t1 (List.mem_of_getElem? (i := 67) rfl) rfl) rfl rfl x_fit_int (x_dk dl_24_0_ok 4 rfl))))
  (x_Lok (x_st (I := xJ) (xr_aload_n (i := 0) (x_dk dl_24_0_ok 5 rfl)))))))
  (x_Tok2
  (x_Tok2
  (x_Lok (x_st (I := xJ) (xr_iconst (n := (-1)) (z := (-1)) (v := (-1)) (x_dk dl_24_0_ok 6 rfl) (by decide) (by decide))))
  (x_Tok2
  (x_Lok (x_st (I := xJ) (xr_putf (ci := 8) (k := 2) (ix := 15) (N := 17) (fk := 0) (C := RX8) (T := TX8) (ty0 := tyX8) (ty := .int) rfl in_X8 tyX8_ok nmX8 (by decide) (in_t1 (List.mem_of_getElem? (i := 69) rfl) rfl) rfl rfl x_fit_int (x_dk dl_24_0_ok 7 rfl))))
  (x_Lok (x_st (I := xJ) (xr_aload_n (i := 0) (x_dk dl_24_0_ok 8 rfl))))))
  (x_Tok2
  (x_Tok2
  (x_Lok (x_st (I := xJ) (xr_new (ci := 1) (ix := 18) (N := 5) (C := RX1) (T := TX1) (ty0 := tyX1) (ks := ks_X1) rfl in_X1 tyX1_ok (in_t1 (List.mem_of_getElem? (i := 35) rfl) rfl) (in_t1 (List.mem_of_getElem? (i := 36) rfl) rfl) (in_t1 (List.mem_of_getElem? (i := 3) rfl) rfl) rfl df_X1 (x_dk dl_24_0_ok 9 rfl))))
  (x_Lok (x_st (I := xJ) (xr_dup (x_dk dl_24_0_ok 10 rfl)))))
  (x_Tok2
  (x_Lok (x_ca (I := xJ) (q' := mq_7) rfl (xr_callIN (q' := mq_7) (ix := 20) (n := 0) (host := "RobotCellHouse") (in_t1 (List.mem_of_getElem? (i := 39) rfl) rfl) good_w (in_t1 (List.mem_of_getElem? (i := 3) rfl) rfl) (List.mem_of_getElem? (i := 1) rfl) (in_t1 (List.mem_of_getElem? (i := 38) rfl) rfl) rfl rfl (by decide +kernel) (by decide +kernel) (by decide +kernel) (x_dk dl_24_0_ok 11 rfl))))
  (x_Lok (x_st (I := xJ) (xr_putf (ci := 8) (k := 3) (ix := 21) (N := 17) (fk := 2) (C := RX8) (T := TX8) (ty0 := tyX8) (ty := .object "RobotCellHouse$Code") rfl in_X8 tyX8_ok nmX8 (by decide) (in_t1 (List.mem_of_getElem? (i := 71) rfl) rfl) rfl rfl x_fit_obj (x_dk dl_24_0_ok 12 rfl))))))))
  (x_Tok2
  (x_Tok2
  (x_Tok2
  (x_Lok (x_st (I := xJ) (xr_aload_n (i := 0) (x_dk dl_24_0_ok 13 rfl))))
  (x_Tok2
  (x_Lok (x_st (I := xJ) (xr_sipush (n := 4000) (z := 4000) (v := 4000) (x_dk dl_24_0_ok 14 rfl) (by decide) (by decide))))
  (x_Lok (x_st (I := xJ) (xr_newa (kd := 2) (b := true) (ty := .byte) rfl rfl (in_t1 (List.mem_of_getElem? (i := 121) rfl) rfl) (x_dk dl_24_0_ok 15 rfl))))))
  (x_Tok2
  (x_Lok (x_st (I := xJ) (xr_putF (ci := 8) (k := 4) (ix := 25) (N := 17) (fk := 2) (C := RX8) (T := TX8) (ty0 := tyX8) (ty := .array .byte) rfl in_X8 tyX8_ok nmX8 (by decide) (in_t1 (List.mem_of_getElem? (i := 73) rfl) rfl) rfl rfl rfl rfl x_fit_arr (x_dk dl_24_0_ok 16 rfl))))
  (x_Tok2
  (x_Lok (x_st (I := xJ) (xr_aload_n (i := 0) (x_dk dl_24_0_ok 17 rfl))))
  (x_Lok (x_st (I := xJ) (xr_bipush (n := 32) (z := 32) (v := 32) (x_dk dl_24_0_ok 18 rfl) (by decide) (by decide)))))))
  (x_Tok2
  (x_Tok2
  (x_Lok (x_st (I := xJ) (xr_newa (kd := 1) (b := false) (ty := .int) rfl rfl (in_t1 (List.mem_of_getElem? (i := 64) rfl) rfl) (x_dk dl_24_0_ok 19 rfl))))
  (x_Tok2
  (x_Lok (x_st (I := xJ) (xr_putF (ci := 8) (k := 15) (ix := 29) (N := 17) (fk := 2) (C := RX8) (T := TX8) (ty0 := tyX8) (ty := .array .int) rfl in_X8 tyX8_ok nmX8 (by decide) (in_t1 (List.mem_of_getElem? (i := 84) rfl) rfl) rfl rfl rfl rfl x_fit_arr (x_dk dl_24_0_ok 20 rfl))))
  (x_Lok (x_st (I := xJ) (xr_aload_n (i := 0) (x_dk dl_24_0_ok 21 rfl))))))
  (x_Tok2
  (x_Tok2
  (x_Lok (x_st (I := xJ) (xr_sipush (n := 500) (z := 500) (v := 500) (x_dk dl_24_0_ok 22 rfl) (by decide) (by decide))))
  (x_Lok (x_st (I := xJ) (xr_newa (kd := 1) (b := false) (ty := .int) rfl rfl (in_t1 (List.mem_of_getElem? (i := 64) rfl) rfl) (x_dk dl_24_0_ok 23 rfl)))))
  (x_Tok2
  (x_Lok (x_st (I := xJ) (xr_putF (ci := 8) (k := 16) (ix := 33) (N := 17) (fk := 2) (C := RX8) (T := TX8) (ty0 := tyX8) (ty := .array .int) rfl in_X8 tyX8_ok nmX8 (by decide) (in_t1 (List.mem_of_getElem? (i := 85) rfl) rfl) rfl rfl rfl rfl x_fit_arr (x_dk dl_24_0_ok 24 rfl))))
  (x_Lok (x_rt (I := xJ) (k := 0) ⟨(x_dk dl_24_0_ok 25 rfl), rfl⟩)))))))
def tb_24 : Nat → xE := tb_24_0
theorem tb_24_ok (K : xKx) (hK : x_KP K) : ∀ pc, x_EOq cls K xJ mq_24 pc (tb_24 pc) := tb_24_0_ok K hK
def dl_25_0 : List (Nat × Instr × Nat) := [(0, .aload_n 0, 1), (1, .invokespecial 3, 3), (4, .aload_n 0, 1), (5, .bipush 16, 2), (7, .newarray .int, 2), (9, .putfield 9, 3), (12, .aload_n 0, 1), (13, .bipush 16, 2), (15, .newarray .int, 2), (17, .putfield 15, 3), (20, .aload_n 0, 1), (21, .bipush 16, 2), (23, .newarray .int, 2), (25, .putfield 18, 3), (28, .aload_n 0, 1), (29, .bipush 16, 2), (31, .newarray .int, 2), (33, .putfield 21, 3), (36, .aload_n 0, 1), (37, .bipush 16, 2), (39, .newarray .int, 2), (41, .putfield 24, 3), (44, .aload_n 0, 1), (45, .bipush 8, 2), (47, .newarray .int, 2), (49, .putfield 27, 3), (52, .aload_n 0, 1), (53, .bipush 8, 2), (55, .newarray .int, 2), (57, .putfield 30, 3), (60, .aload_n 0, 1), (61, .bipush 8, 2), (63, .newarray .int, 2), (65, .putfield 33, 3), (68, .aload_n 0, 1), (69, .bipush 8, 2), (71, .newarray .int, 2), (73, .putfield 36, 3), (76, .aload_n 0, 1), (77, .bipush 8, 2), (79, .newarray .int, 2), (81, .putfield 39, 3), (84, .aload_n 0, 1), (85, .bipush 8, 2), (87, .newarray .int, 2), (89, .putfield 42, 3), (92, .return_, 1)]
set_option maxRecDepth 20000 in
theorem dl_25_0_ok : dl_25_0.all (fun q => decide (decode prog_11_method_1_code q.1 = .ok (q.2.1, q.2.2))) = true := xa_g_ok (by decide +kernel)
def tb_25_0 : Nat → xE := (x_T 20 (x_T 7 (x_T 1 (x_T 0 (x_L 0 (0, xi_load 0 2 1, 0, 0)) (x_L 1 (0, xi_oi 4, 0, 0))) (x_T 4 (x_L 4 (0, xi_load 0 2 5, 0, 0)) (x_T 5 (x_L 5 (0, xi_push (0, 16, 16) 7, 0, 0)) (x_L 7 (0, xi_newa 1 0 (0, 0, 0) (xm_c mq_25) (xm_s mq_25) 9, 0, 0))))) (x_T 13 (x_T 9 (x_L 9 (0, xi_putf 9 2 2 12, 0, 0)) (x_T 12 (x_L 12 (0, xi_load 0 2 13, 0, 0)) (x_L 13 (0, xi_push (0, 16, 16) 15, 0, 0)))) (x_T 15 (x_L 15 (0, xi_newa 1 0 (0, 0, 0) (xm_c mq_25) (xm_s mq_25) 17, 0, 0)) (x_T 17 (x_L 17 (0, xi_putf 9 3 2 20, 0, 0)) (x_L 20 (0, xi_load 0 2 21, 0, 0)))))) (x_T 31 (x_T 25 (x_T 21 (x_L 21 (0, xi_push (0, 16, 16) 23, 0, 0)) (x_T 23 (x_L 23 (0, xi_newa 1 0 (0, 0, 0) (xm_c mq_25) (xm_s mq_25) 25, 0, 0)) (x_L 25 (0, xi_putf 9 4 2 28, 0, 0)))) (x_T 28 (x_L 28 (0, xi_load 0 2 29, 0, 0)) (x_T 29 (x_L 29 (0, xi_push (0, 16, 16) 31, 0, 0)) (x_L 31 (0, xi_newa 1 0 (0, 0, 0) (xm_c mq_25) (xm_s mq_25) 33, 0, 0))))) (x_T 37 (x_T 33 (x_L 33 (0, xi_putf 9 5 2 36, 0, 0)) (x_T 36 (x_L 36 (0, xi_load 0 2 37, 0, 0)) (x_L 37 (0, xi_push (0, 16, 16) 39, 0, 0)))) (x_T 39 (x_L 39 (0, xi_newa 1 0 (0, 0, 0) (xm_c mq_25) (xm_s mq_25) 41, 0, 0)) (x_T 41 (x_L 41 (0, xi_putf 9 6 2 44, 0, 0)) (x_L 44 (0, xi_load 0 2 45, 0, 0)))))))
set_option maxRecDepth 20000 in
set_option maxHeartbeats 4000000 in
theorem tb_25_0_ok (K : xKx) (hK : x_KP K) : ∀ pc, x_EOq cls K xJ mq_25 pc (tb_25_0 pc) :=
  (x_Tok2
  (x_Tok2
  (x_Tok2
  (x_Tok2
  (x_Lok (x_st (I := xJ) (xr_aload_n (i := 0) (x_dk dl_25_0_ok 0 rfl))))
  (x_Lok (x_st (I := xJ) (xr_oi (ix := 3) (in_t3 (List.mem_of_getElem? (i := 136) rfl) rfl) (in_t1 (List.mem_of_getElem? (i := 27) rfl) rfl) (in_t1 (List.mem_of_getElem? (i := 28) rfl) rfl) (x_dk dl_25_0_ok 1 rfl)))))
  (x_Tok2
  (x_Lok (x_st (I := xJ) (xr_aload_n (i := 0) (x_dk dl_25_0_ok 2 rfl))))
  (x_Tok2
  (x_Lok (x_st (I := xJ) (xr_bipush (n := 16) (z := 16) (v := 16) (x_dk dl_25_0_ok 3 rfl) (by decide) (by decide))))
  (x_Lok (x_st (I := xJ) (xr_newa (kd := 1) (b := false) (ty := .int) rfl rfl (in_t1 (List.mem_of_getElem? (i := 64) rfl) rfl) (x_dk dl_25_0_ok 4 rfl)))))))
  (x_Tok2
  (x_Tok2
  (x_Lok (x_st (I := xJ) (xr_putF (ci := 9) (k := 2) (ix := 9) (N := 17) (fk := 2) (C := RX9) (T := TX9) (ty0 := tyX9) (ty := .array .int) rfl in_X9 tyX9_ok nmX9 (by decide) (in_t3 (List.mem_of_getElem? (i := 141) rfl) rfl) rfl rfl rfl rfl x_fit_arr (x_dk dl_25_0_ok 5 rfl))))
  (x_Tok2
  (x_Lok (x_st (I := xJ) (xr_aload_n (i := 0) (x_dk dl_25_0_ok 6 rfl))))
  (x_Lok (x_st (I := xJ) (xr_bipush (n := 16) (z := 16) (v := 16) (x_dk dl_25_0_ok 7 rfl) (by decide) (by decide))))))
  (x_Tok2
  (x_Lok (x_st (I := xJ) (xr_newa (kd := 1) (b := false) (ty := .int) rfl rfl (in_t1 (List.mem_of_getElem? (i := 64) rfl) rfl) (x_dk dl_25_0_ok 8 rfl))))
  (x_Tok2
  (x_Lok (x_st (I := xJ) (xr_putF (ci := 9) (k := 3) (ix := 15) (N := 17) (fk := 2) (C := RX9) (T := TX9) (ty0 := tyX9) (ty := .array .int) rfl in_X9 tyX9_ok nmX9 (by decide) (in_t3 (List.mem_of_getElem? (i := 142) rfl) rfl) rfl rfl rfl rfl x_fit_arr (x_dk dl_25_0_ok 9 rfl))))
  (x_Lok (x_st (I := xJ) (xr_aload_n (i := 0) (x_dk dl_25_0_ok 10 rfl))))))))
  (x_Tok2
  (x_Tok2
  (x_Tok2
  (x_Lok (x_st (I := xJ) (xr_bipush (n := 16) (z := 16) (v := 16) (x_dk dl_25_0_ok 11 rfl) (by decide) (by decide))))
  (x_Tok2
  (x_Lok (x_st (I := xJ) (xr_newa (kd := 1) (b := false) (ty := .int) rfl rfl (in_t1 (List.mem_of_getElem? (i := 64) rfl) rfl) (x_dk dl_25_0_ok 12 rfl))))
  (x_Lok (x_st (I := xJ) (xr_putF (ci := 9) (k := 4) (ix := 18) (N := 17) (fk := 2) (C := RX9) (T := TX9) (ty0 := tyX9) (ty := .array .int) rfl in_X9 tyX9_ok nmX9 (by decide) (in_t3 (List.mem_of_getElem? (i := 143) rfl) rfl) rfl rfl rfl rfl x_fit_arr (x_dk dl_25_0_ok 13 rfl))))))
  (x_Tok2
  (x_Lok (x_st (I := xJ) (xr_aload_n (i := 0) (x_dk dl_25_0_ok 14 rfl))))
  (x_Tok2
  (x_Lok (x_st (I := xJ) (xr_bipush (n := 16) (z := 16) (v := 16) (x_dk dl_25_0_ok 15 rfl) (by decide) (by decide))))
  (x_Lok (x_st (I := xJ) (xr_newa (kd := 1) (b := false) (ty := .int) rfl rfl (in_t1 (List.mem_of_getElem? (i := 64) rfl) rfl) (x_dk dl_25_0_ok 16 rfl)))))))
  (x_Tok2
  (x_Tok2
  (x_Lok (x_st (I := xJ) (xr_putF (ci := 9) (k := 5) (ix := 21) (N := 17) (fk := 2) (C := RX9) (T := TX9) (ty0 := tyX9) (ty := .array .int) rfl in_X9 tyX9_ok nmX9 (by decide) (in_t3 (List.mem_of_getElem? (i := 144) rfl) rfl) rfl rfl rfl rfl x_fit_arr (x_dk dl_25_0_ok 17 rfl))))
  (x_Tok2
  (x_Lok (x_st (I := xJ) (xr_aload_n (i := 0) (x_dk dl_25_0_ok 18 rfl))))
  (x_Lok (x_st (I := xJ) (xr_bipush (n := 16) (z := 16) (v := 16) (x_dk dl_25_0_ok 19 rfl) (by decide) (by decide))))))
  (x_Tok2
  (x_Lok (x_st (I := xJ) (xr_newa (kd := 1) (b := false) (ty := .int) rfl rfl (in_t1 (List.mem_of_getElem? (i := 64) rfl) rfl) (x_dk dl_25_0_ok 20 rfl))))
  (x_Tok2
  (x_Lok (x_st (I := xJ) (xr_putF (ci := 9) (k := 6) (ix := 24) (N := 17) (fk := 2) (C := RX9) (T := TX9) (ty0 := tyX9) (ty := .array .int) rfl in_X9 tyX9_ok nmX9 (by decide) (in_t3 (List.mem_of_getElem? (i := 145) rfl) rfl) rfl rfl rfl rfl x_fit_arr (x_dk dl_25_0_ok 21 rfl))))
  (x_Lok (x_st (I := xJ) (xr_aload_n (i := 0) (x_dk dl_25_0_ok 22 rfl)))))))))
def tb_25_23 : Nat → xE := (x_T 68 (x_T 55 (x_T 49 (x_T 45 (x_L 45 (0, xi_push (0, 8, 8) 47, 0, 0)) (x_T 47 (x_L 47 (0, xi_newa 1 0 (0, 0, 0) (xm_c mq_25) (xm_s mq_25) 49, 0, 0)) (x_L 49 (0, xi_putf 9 7 2 52, 0, 0)))) (x_T 52 (x_L 52 (0, xi_load 0 2 53, 0, 0)) (x_T 53 (x_L 53 (0, xi_push (0, 8, 8) 55, 0, 0)) (x_L 55 (0, xi_newa 1 0 (0, 0, 0) (xm_c mq_25) (xm_s mq_25) 57, 0, 0))))) (x_T 61 (x_T 57 (x_L 57 (0, xi_putf 9 8 2 60, 0, 0)) (x_T 60 (x_L 60 (0, xi_load 0 2 61, 0, 0)) (x_L 61 (0, xi_push (0, 8, 8) 63, 0, 0)))) (x_T 63 (x_L 63 (0, xi_newa 1 0 (0, 0, 0) (xm_c mq_25) (xm_s mq_25) 65, 0, 0)) (x_T 65 (x_L 65 (0, xi_putf 9 9 2 68, 0, 0)) (x_L 68 (0, xi_load 0 2 69, 0, 0)))))) (x_T 79 (x_T 73 (x_T 69 (x_L 69 (0, xi_push (0, 8, 8) 71, 0, 0)) (x_T 71 (x_L 71 (0, xi_newa 1 0 (0, 0, 0) (xm_c mq_25) (xm_s mq_25) 73, 0, 0)) (x_L 73 (0, xi_putf 9 10 2 76, 0, 0)))) (x_T 76 (x_L 76 (0, xi_load 0 2 77, 0, 0)) (x_T 77 (x_L 77 (0, xi_push (0, 8, 8) 79, 0, 0)) (x_L 79 (0, xi_newa 1 0 (0, 0, 0) (xm_c mq_25) (xm_s mq_25) 81, 0, 0))))) (x_T 85 (x_T 81 (x_L 81 (0, xi_putf 9 11 2 84, 0, 0)) (x_T 84 (x_L 84 (0, xi_load 0 2 85, 0, 0)) (x_L 85 (0, xi_push (0, 8, 8) 87, 0, 0)))) (x_T 87 (x_L 87 (0, xi_newa 1 0 (0, 0, 0) (xm_c mq_25) (xm_s mq_25) 89, 0, 0)) (x_T 89 (x_L 89 (0, xi_putf 9 12 2 92, 0, 0)) (x_L 92 (1, x_nof, 0, 0)))))))
set_option maxRecDepth 20000 in
set_option maxHeartbeats 4000000 in
theorem tb_25_23_ok (K : xKx) (hK : x_KP K) : ∀ pc, x_EOq cls K xJ mq_25 pc (tb_25_23 pc) :=
  (x_Tok2
  (x_Tok2
  (x_Tok2
  (x_Tok2
  (x_Lok (x_st (I := xJ) (xr_bipush (n := 8) (z := 8) (v := 8) (x_dk dl_25_0_ok 23 rfl) (by decide) (by decide))))
  (x_Tok2
  (x_Lok (x_st (I := xJ) (xr_newa (kd := 1) (b := false) (ty := .int) rfl rfl (in_t1 (List.mem_of_getElem? (i := 64) rfl) rfl) (x_dk dl_25_0_ok 24 rfl))))
  (x_Lok (x_st (I := xJ) (xr_putF (ci := 9) (k := 7) (ix := 27) (N := 17) (fk := 2) (C := RX9) (T := TX9) (ty0 := tyX9) (ty := .array .int) rfl in_X9 tyX9_ok nmX9 (by decide) (in_t3 (List.mem_of_getElem? (i := 146) rfl) rfl) rfl rfl rfl rfl x_fit_arr (x_dk dl_25_0_ok 25 rfl))))))
  (x_Tok2
  (x_Lok (x_st (I := xJ) (xr_aload_n (i := 0) (x_dk dl_25_0_ok 26 rfl))))
  (x_Tok2
  (x_Lok (x_st (I := xJ) (xr_bipush (n := 8) (z := 8) (v := 8) (x_dk dl_25_0_ok 27 rfl) (by decide) (by decide))))
  (x_Lok (x_st (I := xJ) (xr_newa (kd := 1) (b := false) (ty := .int) rfl rfl (in_t1 (List.mem_of_getElem? (i := 64) rfl) rfl) (x_dk dl_25_0_ok 28 rfl)))))))
  (x_Tok2
  (x_Tok2
  (x_Lok (x_st (I := xJ) (xr_putF (ci := 9) (k := 8) (ix := 30) (N := 17) (fk := 2) (C := RX9) (T := TX9) (ty0 := tyX9) (ty := .array .int) rfl in_X9 tyX9_ok nmX9 (by decide) (in_t3 (List.mem_of_getElem? (i := 147) rfl) rfl) rfl rfl rfl rfl x_fit_arr (x_dk dl_25_0_ok 29 rfl))))
  (x_Tok2
  (x_Lok (x_st (I := xJ) (xr_aload_n (i := 0) (x_dk dl_25_0_ok 30 rfl))))
  (x_Lok (x_st (I := xJ) (xr_bipush (n := 8) (z := 8) (v := 8) (x_dk dl_25_0_ok 31 rfl) (by decide) (by decide))))))
  (x_Tok2
  (x_Lok (x_st (I := xJ) (xr_newa (kd := 1) (b := false) (ty := .int) rfl rfl (in_t1 (List.mem_of_getElem? (i := 64) rfl) rfl) (x_dk dl_25_0_ok 32 rfl))))
  (x_Tok2
  (x_Lok (x_st (I := xJ) (xr_putF (ci := 9) (k := 9) (ix := 33) (N := 17) (fk := 2) (C := RX9) (T := TX9) (ty0 := tyX9) (ty := .array .int) rfl in_X9 tyX9_ok nmX9 (by decide) (in_t3 (List.mem_of_getElem? (i := 149) rfl) rfl) rfl rfl rfl rfl x_fit_arr (x_dk dl_25_0_ok 33 rfl))))
  (x_Lok (x_st (I := xJ) (xr_aload_n (i := 0) (x_dk dl_25_0_ok 34 rfl))))))))
  (x_Tok2
  (x_Tok2
  (x_Tok2
  (x_Lok (x_st (I := xJ) (xr_bipush (n := 8) (z := 8) (v := 8) (x_dk dl_25_0_ok 35 rfl) (by decide) (by decide))))
  (x_Tok2
  (x_Lok (x_st (I := xJ) (xr_newa (kd := 1) (b := false) (ty := .int) rfl rfl (in_t1 (List.mem_of_getElem? (i := 64) rfl) rfl) (x_dk dl_25_0_ok 36 rfl))))
  (x_Lok (x_st (I := xJ) (xr_putF (ci := 9) (k := 10) (ix := 36) (N := 17) (fk := 2) (C := RX9) (T := TX9) (ty0 := tyX9) (ty := .array .int) rfl in_X9 tyX9_ok nmX9 (by decide) (in_t3 (List.mem_of_getElem? (i := 150) rfl) rfl) rfl rfl rfl rfl x_fit_arr (x_dk dl_25_0_ok 37 rfl))))))
  (x_Tok2
  (x_Lok (x_st (I := xJ) (xr_aload_n (i := 0) (x_dk dl_25_0_ok 38 rfl))))
  (x_Tok2
  (x_Lok (x_st (I := xJ) (xr_bipush (n := 8) (z := 8) (v := 8) (x_dk dl_25_0_ok 39 rfl) (by decide) (by decide))))
  (x_Lok (x_st (I := xJ) (xr_newa (kd := 1) (b := false) (ty := .int) rfl rfl (in_t1 (List.mem_of_getElem? (i := 64) rfl) rfl) (x_dk dl_25_0_ok 40 rfl)))))))
  (x_Tok2
  (x_Tok2
  (x_Lok (x_st (I := xJ) (xr_putF (ci := 9) (k := 11) (ix := 39) (N := 17) (fk := 2) (C := RX9) (T := TX9) (ty0 := tyX9) (ty := .array .int) rfl in_X9 tyX9_ok nmX9 (by decide) (in_t3 (List.mem_of_getElem? (i := 151) rfl) rfl) rfl rfl rfl rfl x_fit_arr (x_dk dl_25_0_ok 41 rfl))))
  (x_Tok2
  (x_Lok (x_st (I := xJ) (xr_aload_n (i := 0) (x_dk dl_25_0_ok 42 rfl))))
  (x_Lok (x_st (I := xJ) (xr_bipush (n := 8) (z := 8) (v := 8) (x_dk dl_25_0_ok 43 rfl) (by decide) (by decide))))))
  (x_Tok2
  (x_Lok (x_st (I := xJ) (xr_newa (kd := 1) (b := false) (ty := .int) rfl rfl (in_t1 (List.mem_of_getElem? (i := 64) rfl) rfl) (x_dk dl_25_0_ok 44 rfl))))
  (x_Tok2
  (x_Lok (x_st (I := xJ) (xr_putF (ci := 9) (k := 12) (ix := 42) (N := 17) (fk := 2) (C := RX9) (T := TX9) (ty0 := tyX9) (ty := .array .int) rfl in_X9 tyX9_ok nmX9 (by decide) (in_t3 (List.mem_of_getElem? (i := 152) rfl) rfl) rfl rfl rfl rfl x_fit_arr (x_dk dl_25_0_ok 45 rfl))))
  (x_Lok (x_rt (I := xJ) (k := 0) ⟨(x_dk dl_25_0_ok 46 rfl), rfl⟩)))))))
def tb_25 : Nat → xE := (x_T 44 tb_25_0 tb_25_23)
theorem tb_25_ok (K : xKx) (hK : x_KP K) : ∀ pc, x_EOq cls K xJ mq_25 pc (tb_25 pc) := (x_Tok2 (tb_25_0_ok K hK) (tb_25_23_ok K hK))
end
