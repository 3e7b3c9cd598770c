noncomputable section
def dl_1_0 : List (Nat × Instr × Nat) := [(0, .aload_n 0, 1), (1, .invokespecial 3, 3), (4, .aload_n 0, 1), (5, .bipush 6, 2), (7, .anewarray 9, 3), (10, .putfield 11, 3), (13, .aload_n 0, 1), (14, .bipush 8, 2), (16, .newarray .int, 2), (18, .putfield 17, 3), (21, .aload_n 0, 1), (22, .bipush 8, 2), (24, .newarray .int, 2), (26, .putfield 21, 3), (29, .aload_n 0, 1), (30, .bipush 7, 2), (32, .newarray .int, 2), (34, .putfield 24, 3), (37, .aload_n 0, 1), (38, .bipush 7, 2), (40, .newarray .int, 2), (42, .putfield 27, 3), (45, .aload_n 0, 1), (46, .bipush 7, 2), (48, .newarray .int, 2), (50, .putfield 30, 3), (53, .aload_n 0, 1), (54, .bipush 32, 2), (56, .newarray .int, 2), (58, .putfield 33, 3), (61, .aload_n 0, 1), (62, .new 36, 3), (65, .dup, 1), (66, .invokespecial 38, 3), (69, .putfield 39, 3), (72, .iconst 0, 1), (73, .istore_n 1, 1), (74, .iload_n 1, 1), (75, .bipush 6, 2), (77, .if_icmp .ge 22, 3), (80, .aload_n 0, 1), (81, .getfield 11, 3), (84, .iload_n 1, 1), (85, .new 9, 3), (88, .dup, 1), (89, .invokespecial 43, 3), (92, .aastore, 1), (93, .iinc 1 1, 3), (96, .goto (-22), 3), (99, .return_, 1)]
set_option maxRecDepth 20000 in
theorem dl_1_0_ok : dl_1_0.all (fun q => decide (decode prog_2_method_1_code q.1 = .ok (q.2.1, q.2.2))) = true := xa_g_ok (by decide +kernel)
def tb_1_0 : Nat → xE := (x_T 22 (x_T 10 (x_T 4 (x_T 0 (x_L 0 (0, xi_load 0 2 1, 0, 0)) (x_T 1 (x_L 1 (0, xi_oi 4, 0, 0)) (x_L 4 (0, xi_load 0 2 5, 0, 0)))) (x_T 5 (x_L 5 (0, xi_push (0, 6, 6) 7, 0, 0)) (x_T 7 (x_L 7 (0, xi_newa 5 5 (2, 0, 0) (xm_c mq_1) (xm_s mq_1) 10, 0, 0)) (x_L 10 (0, xi_putf 0 0 2 13, 0, 0))))) (x_T 16 (x_T 13 (x_L 13 (0, xi_load 0 2 14, 0, 0)) (x_T 14 (x_L 14 (0, xi_push (0, 8, 8) 16, 0, 0)) (x_L 16 (0, xi_newa 1 0 (0, 0, 0) (xm_c mq_1) (xm_s mq_1) 18, 0, 0)))) (x_T 18 (x_L 18 (0, xi_putf 0 1 2 21, 0, 0)) (x_T 21 (x_L 21 (0, xi_load 0 2 22, 0, 0)) (x_L 22 (0, xi_push (0, 8, 8) 24, 0, 0)))))) (x_T 34 (x_T 29 (x_T 24 (x_L 24 (0, xi_newa 1 0 (0, 0, 0) (xm_c mq_1) (xm_s mq_1) 26, 0, 0)) (x_T 26 (x_L 26 (0, xi_putf 0 2 2 29, 0, 0)) (x_L 29 (0, xi_load 0 2 30, 0, 0)))) (x_T 30 (x_L 30 (0, xi_push (0, 7, 7) 32, 0, 0)) (x_T 32 (x_L 32 (0, xi_newa 1 0 (0, 0, 0) (xm_c mq_1) (xm_s mq_1) 34, 0, 0)) (x_L 34 (0, xi_putf 0 3 2 37, 0, 0))))) (x_T 40 (x_T 37 (x_L 37 (0, xi_load 0 2 38, 0, 0)) (x_T 38 (x_L 38 (0, xi_push (0, 7, 7) 40, 0, 0)) (x_L 40 (0, xi_newa 1 0 (0, 0, 0) (xm_c mq_1) (xm_s mq_1) 42, 0, 0)))) (x_T 45 (x_T 42 (x_L 42 (0, xi_putf 0 4 2 45, 0, 0)) (x_L 45 (0, xi_load 0 2 46, 0, 0))) (x_T 46 (x_L 46 (0, xi_push (0, 7, 7) 48, 0, 0)) (x_L 48 (0, xi_newa 1 0 (0, 0, 0) (xm_c mq_1) (xm_s mq_1) 50, 0, 0)))))))
set_option maxRecDepth 20000 in
set_option maxHeartbeats 4000000 in
theorem tb_1_0_ok (K : xKx) (hK : x_KP K) : ∀ pc, x_EOq cls K xJ mq_1 pc (tb_1_0 pc) :=
  (x_Tok2
  (x_Tok2
  (x_Tok2
  (x_Tok2
  (x_Lok (x_st (I := xJ) (xr_aload_n (i := 0) (x_dk dl_1_0_ok 0 rfl))))
  (x_Tok2
  (x_Lok (x_st (I := xJ) (xr_oi (ix := 3) (in_t2 (List.mem_of_getElem? (i := 78) rfl) rfl) (in_t1 (List.mem_of_getElem? (i := 27) rfl) rfl) (in_t1 (List.mem_of_getElem? (i := 28) rfl) rfl) (x_dk dl_1_0_ok 1 rfl))))
  (x_Lok (x_st (I := xJ) (xr_aload_n (i := 0) (x_dk dl_1_0_ok 2 rfl))))))
  (x_Tok2
  (x_Lok (x_st (I := xJ) (xr_bipush (n := 6) (z := 6) (v := 6) (x_dk dl_1_0_ok 3 rfl) (by decide) (by decide))))
  (x_Tok2
  (x_Lok (x_st (I := xJ) (xr_newq (ci := 5) (ix := 9) (r := (RX5, TX5, 12)) rfl (in_t2 (List.mem_of_getElem? (i := 79) rfl) rfl) (fun U h => h.1.1) (x_dk dl_1_0_ok 4 rfl))))
  (x_Lok (x_st (I := xJ) (xr_putF (ci := 0) (k := 0) (ix := 11) (N := 20) (fk := 2) (C := RX0) (T := TX0) (ty0 := tyX0) (ty := .array (.object "RobotCellHouse$Joint")) rfl in_X0 tyX0_ok nmX0 (by decide) (in_t2 (List.mem_of_getElem? (i := 144) rfl) rfl) rfl rfl rfl rfl x_fit_arr (x_dk dl_1_0_ok 5 rfl)))))))
  (x_Tok2
  (x_Tok2
  (x_Lok (x_st (I := xJ) (xr_aload_n (i := 0) (x_dk dl_1_0_ok 6 rfl))))
  (x_Tok2
  (x_Lok (x_st (I := xJ) (xr_bipush (n := 8) (z := 8) (v := 8) (x_dk dl_1_0_ok 7 rfl) (by decide) (by decide))))
  (x_Lok (x_st (I := xJ) (xr_newa (kd := 1) (b := false) (ty := .int) rfl rfl (in_t1 (List.mem_of_getElem? (i := 64) rfl) rfl) (x_dk dl_1_0_ok 8 rfl))))))
  (x_Tok2
  (x_Lok (x_st (I := xJ) (xr_putF (ci := 0) (k := 1) (ix := 17) (N := 20) (fk := 2) (C := RX0) (T := TX0) (ty0 := tyX0) (ty := .array .int) rfl in_X0 tyX0_ok nmX0 (by decide) (in_t2 (List.mem_of_getElem? (i := 148) rfl) rfl) rfl rfl rfl rfl x_fit_arr (x_dk dl_1_0_ok 9 rfl))))
  (x_Tok2
  (x_Lok (x_st (I := xJ) (xr_aload_n (i := 0) (x_dk dl_1_0_ok 10 rfl))))
  (x_Lok (x_st (I := xJ) (xr_bipush (n := 8) (z := 8) (v := 8) (x_dk dl_1_0_ok 11 rfl) (by decide) (by decide))))))))
  (x_Tok2
  (x_Tok2
  (x_Tok2
  (x_Lok (x_st (I := xJ) (xr_newa (kd := 1) (b := false) (ty := .int) rfl rfl (in_t1 (List.mem_of_getElem? (i := 64) rfl) rfl) (x_dk dl_1_0_ok 12 rfl))))
  (x_Tok2
  (x_Lok (x_st (I := xJ) (xr_putF (ci := 0) (k := 2) (ix := 21) (N := 20) (fk := 2) (C := RX0) (T := TX0) (ty0 := tyX0) (ty := .array .int) rfl in_X0 tyX0_ok nmX0 (by decide) (in_t2 (List.mem_of_getElem? (i := 152) rfl) rfl) rfl rfl rfl rfl x_fit_arr (x_dk dl_1_0_ok 13 rfl))))
  (x_Lok (x_st (I := xJ) (xr_aload_n (i := 0) (x_dk dl_1_0_ok 14 rfl))))))
  (x_Tok2
  (x_Lok (x_st (I := xJ) (xr_bipush (n := 7) (z := 7) (v := 7) (x_dk dl_1_0_ok 15 rfl) (by decide) (by decide))))
  (x_Tok2
  (x_Lok (x_st (I := xJ) (xr_newa (kd := 1) (b := false) (ty := .int) rfl rfl (in_t1 (List.mem_of_getElem? (i := 64) rfl) rfl) (x_dk dl_1_0_ok 16 rfl))))
  (x_Lok (x_st (I := xJ) (xr_putF (ci := 0) (k := 3) (ix := 24) (N := 20) (fk := 2) (C := RX0) (T := TX0) (ty0 := tyX0) (ty := .array .int) rfl in_X0 tyX0_ok nmX0 (by decide) (in_t2 (List.mem_of_getElem? (i := 156) rfl) rfl) rfl rfl rfl rfl x_fit_arr (x_dk dl_1_0_ok 17 rfl)))))))
  (x_Tok2
  (x_Tok2
  (x_Lok (x_st (I := xJ) (xr_aload_n (i := 0) (x_dk dl_1_0_ok 18 rfl))))
  (x_Tok2
  (x_Lok (x_st (I := xJ) (xr_bipush (n := 7) (z := 7) (v := 7) (x_dk dl_1_0_ok 19 rfl) (by decide) (by decide))))
  (x_Lok (x_st (I := xJ) (xr_newa (kd := 1) (b := false) (ty := .int) rfl rfl (in_t1 (List.mem_of_getElem? (i := 64) rfl) rfl) (x_dk dl_1_0_ok 20 rfl))))))
  (x_Tok2
  (x_Tok2
  (x_Lok (x_st (I := xJ) (xr_putF (ci := 0) (k := 4) (ix := 27) (N := 20) (fk := 2) (C := RX0) (T := TX0) (ty0 := tyX0) (ty := .array .int) rfl in_X0 tyX0_ok nmX0 (by decide) (in_t2 (List.mem_of_getElem? (i := 158) rfl) rfl) rfl rfl rfl rfl x_fit_arr (x_dk dl_1_0_ok 21 rfl))))
  (x_Lok (x_st (I := xJ) (xr_aload_n (i := 0) (x_dk dl_1_0_ok 22 rfl)))))
  (x_Tok2
  (x_Lok (x_st (I := xJ) (xr_bipush (n := 7) (z := 7) (v := 7) (x_dk dl_1_0_ok 23 rfl) (by decide) (by decide))))
  (x_Lok (x_st (I := xJ) (xr_newa (kd := 1) (b := false) (ty := .int) rfl rfl (in_t1 (List.mem_of_getElem? (i := 64) rfl) rfl) (x_dk dl_1_0_ok 24 rfl)))))))))
def tb_1_25 : Nat → xE := (x_T 73 (x_T 61 (x_T 54 (x_T 50 (x_L 50 (0, xi_putf 0 5 2 53, 0, 0)) (x_T 53 (x_L 53 (0, xi_load 0 2 54, 0, 0)) (x_L 54 (0, xi_push (0, 32, 32) 56, 0, 0)))) (x_T 56 (x_L 56 (0, xi_newa 1 0 (0, 0, 0) (xm_c mq_1) (xm_s mq_1) 58, 0, 0)) (x_T 58 (x_L 58 (0, xi_putf 0 6 2 61, 0, 0)) (x_L 61 (0, xi_load 0 2 62, 0, 0))))) (x_T 66 (x_T 62 (x_L 62 (0, xi_new (x_nc 1 ks_X1) (xm_c mq_1) (xm_s mq_1) 65, 0, 0)) (x_T 65 (x_L 65 (0, xi_stk xf_dup 66, 0, 0)) (x_L 66 (2, x_nof, 7, 1)))) (x_T 69 (x_L 69 (0, xi_putf 0 7 2 72, 0, 0)) (x_T 72 (x_L 72 (0, xi_push (0, 0, 0) 73, 0, 0)) (x_L 73 (0, xi_stor 1 0 74, 0, 0)))))) (x_T 84 (x_T 77 (x_T 74 (x_L 74 (0, xi_load 1 0 75, 0, 0)) (x_T 75 (x_L 75 (0, xi_push (0, 6, 6) 77, 0, 0)) (x_L 77 (0, xi_if2 3 99 80, 0, 0)))) (x_T 80 (x_L 80 (0, xi_load 0 2 81, 0, 0)) (x_T 81 (x_L 81 (0, xi_getf 0 0 84, 0, 0)) (x_L 84 (0, xi_load 1 0 85, 0, 0))))) (x_T 89 (x_T 85 (x_L 85 (0, xi_new (x_nc 5 ks_X5) (xm_c mq_1) (xm_s mq_1) 88, 0, 0)) (x_T 88 (x_L 88 (0, xi_stk xf_dup 89, 0, 0)) (x_L 89 (2, x_nof, 16, 1)))) (x_T 93 (x_T 92 (x_L 92 (0, xi_aast 93, 0, 0)) (x_L 93 (0, xi_inc 1 1 96, 0, 0))) (x_T 96 (x_L 96 (0, xi_goto 74, 0, 0)) (x_L 99 (1, x_nof, 0, 0)))))))
set_option maxRecDepth 20000 in
set_option maxHeartbeats 4000000 in
theorem tb_1_25_ok (K : xKx) (hK : x_KP K) : ∀ pc, x_EOq cls K xJ mq_1 pc (tb_1_25 pc) :=
  (x_Tok2
  (x_Tok2
  (x_Tok2
  (x_Tok2
  (x_Lok (x_st (I := xJ) (xr_putF (ci := 0) (k := 5) (ix := 30) (N := 20) (fk := 2) (C := RX0) (T := TX0) (ty0 := tyX0) (ty := .array .int) rfl in_X0 tyX0_ok nmX0 (by decide) (in_t2 (List.mem_of_getElem? (i := 160) rfl) rfl) rfl rfl rfl rfl x_fit_arr (x_dk dl_1_0_ok 25 rfl))))
  (x_Tok2
  (x_Lok (x_st (I := xJ) (xr_aload_n (i := 0) (x_dk dl_1_0_ok 26 rfl))))
  (x_Lok (x_st (I := xJ) (xr_bipush (n := 32) (z := 32) (v := 32) (x_dk dl_1_0_ok 27 rfl) (by decide) (by decide))))))
  (x_Tok2
  (x_Lok (x_st (I := xJ) (xr_newa (kd := 1) (b := false) (ty := .int) rfl rfl (in_t1 (List.mem_of_getElem? (i := 64) rfl) rfl) (x_dk dl_1_0_ok 28 rfl))))
  (x_Tok2
  (x_Lok (x_st (I := xJ) (xr_putF (ci := 0) (k := 6) (ix := 33) (N := 20) (fk := 2) (C := RX0) (T := TX0) (ty0 := tyX0) (ty := .array .int) rfl in_X0 tyX0_ok nmX0 (by decide) (in_t2 (List.mem_of_getElem? (i := 162) rfl) rfl) rfl rfl rfl rfl x_fit_arr (x_dk dl_1_0_ok 29 rfl))))
  (x_Lok (x_st (I := xJ) (xr_aload_n (i := 0) (x_dk dl_1_0_ok 30 rfl)))))))
  (x_Tok2
  (x_Tok2
  (x_Lok (x_st (I := xJ) (xr_new (ci := 1) (ix := 36) (N := 5) (C := RX1) (T := TX1) (ty0 := tyX1) (ks := ks_X1) rfl in_X1 tyX1_ok (in_t2 (List.mem_of_getElem? (i := 81) rfl) rfl) (in_t1 (List.mem_of_getElem? (i := 36) rfl) rfl) (in_t1 (List.mem_of_getElem? (i := 3) rfl) rfl) rfl df_X1 (x_dk dl_1_0_ok 31 rfl))))
  (x_Tok2
  (x_Lok (x_st (I := xJ) (xr_dup (x_dk dl_1_0_ok 32 rfl))))
  (x_Lok (x_ca (I := xJ) (q' := mq_7) rfl (xr_callIN (q' := mq_7) (ix := 38) (n := 0) (host := "RobotCellHouse") (in_t1 (List.mem_of_getElem? (i := 39) rfl) rfl) good_w (in_t1 (List.mem_of_getElem? (i := 3) rfl) rfl) (List.mem_of_getElem? (i := 5) rfl) (in_t1 (List.mem_of_getElem? (i := 38) rfl) rfl) rfl rfl (by decide +kernel) (by decide +kernel) (by decide +kernel) (x_dk dl_1_0_ok 33 rfl))))))
  (x_Tok2
  (x_Lok (x_st (I := xJ) (xr_putf (ci := 0) (k := 7) (ix := 39) (N := 20) (fk := 2) (C := RX0) (T := TX0) (ty0 := tyX0) (ty := .object "RobotCellHouse$Code") rfl in_X0 tyX0_ok nmX0 (by decide) (in_t2 (List.mem_of_getElem? (i := 165) rfl) rfl) rfl rfl x_fit_obj (x_dk dl_1_0_ok 34 rfl))))
  (x_Tok2
  (x_Lok (x_st (I := xJ) (xr_iconst (n := 0) (z := 0) (v := 0) (x_dk dl_1_0_ok 35 rfl) (by decide) (by decide))))
  (x_Lok (x_st (I := xJ) (xr_istore_n (i := 1) (x_dk dl_1_0_ok 36 rfl) (by decide +kernel))))))))
  (x_Tok2
  (x_Tok2
  (x_Tok2
  (x_Lok (x_st (I := xJ) (xr_iload_n (i := 1) (x_dk dl_1_0_ok 37 rfl))))
  (x_Tok2
  (x_Lok (x_st (I := xJ) (xr_bipush (n := 6) (z := 6) (v := 6) (x_dk dl_1_0_ok 38 rfl) (by decide) (by decide))))
  (x_Lok (x_st (I := xJ) (xr_icmpge (off := 22) (tg := 99) (x_dk dl_1_0_ok 39 rfl) (by decide))))))
  (x_Tok2
  (x_Lok (x_st (I := xJ) (xr_aload_n (i := 0) (x_dk dl_1_0_ok 40 rfl))))
  (x_Tok2
  (x_Lok (x_st (I := xJ) (xr_getf (ci := 0) (k := 0) (ix := 11) (N := 20) (C := RX0) (T := TX0) rfl in_X0 (by decide) (in_t2 (List.mem_of_getElem? (i := 144) rfl) rfl) (x_dk dl_1_0_ok 41 rfl))))
  (x_Lok (x_st (I := xJ) (xr_iload_n (i := 1) (x_dk dl_1_0_ok 42 rfl)))))))
  (x_Tok2
  (x_Tok2
  (x_Lok (x_st (I := xJ) (xr_new (ci := 5) (ix := 9) (N := 12) (C := RX5) (T := TX5) (ty0 := tyX5) (ks := ks_X5) rfl in_X5 tyX5_ok (in_t2 (List.mem_of_getElem? (i := 79) rfl) rfl) (in_t2 (List.mem_of_getElem? (i := 83) rfl) rfl) (in_t1 (List.mem_of_getElem? (i := 9) rfl) rfl) rfl df_X5 (x_dk dl_1_0_ok 43 rfl))))
  (x_Tok2
  (x_Lok (x_st (I := xJ) (xr_dup (x_dk dl_1_0_ok 44 rfl))))
  (x_Lok (x_ca (I := xJ) (q' := mq_16) rfl (xr_callIN (q' := mq_16) (ix := 43) (n := 0) (host := "RobotCellHouse") (in_t2 (List.mem_of_getElem? (i := 86) rfl) rfl) good_w (in_t1 (List.mem_of_getElem? (i := 9) rfl) rfl) (List.mem_of_getElem? (i := 6) rfl) (in_t2 (List.mem_of_getElem? (i := 85) rfl) rfl) rfl rfl (by decide +kernel) (by decide +kernel) (by decide +kernel) (x_dk dl_1_0_ok 45 rfl))))))
  (x_Tok2
  (x_Tok2
  (x_Lok (x_st (I := xJ) (xr_aastore (x_dk dl_1_0_ok 46 rfl))))
  (x_Lok (x_st (I := xJ) (xr_iinc (i := 1) (n := 1) (x_dk dl_1_0_ok 47 rfl) (by decide +kernel) (by decide)))))
  (x_Tok2
  (x_Lok (x_st (I := xJ) (xr_goto (off := (-22)) (tg := 74) (x_dk dl_1_0_ok 48 rfl) (by decide))))
  (x_Lok (x_rt (I := xJ) (k := 0) ⟨(x_dk dl_1_0_ok 49 rfl), rfl⟩)))))))
def tb_1 : Nat → xE := (x_T 48 tb_1_0 tb_1_25)
theorem tb_1_ok (K : xKx) (hK : x_KP K) : ∀ pc, x_EOq cls K xJ mq_1 pc (tb_1 pc) := (x_Tok2 (tb_1_0_ok K hK) (tb_1_25_ok K hK))
def dl_2_0 : List (Nat × Instr × Nat) := [(0, .aload_n 0, 1), (1, .iconst 0, 1), (2, .putfield 44, 3), (5, .aload_n 0, 1), (6, .getfield 17, 3), (9, .iconst 0, 1), (10, .iload_n 1, 1), (11, .iastore, 1), (12, .aload_n 0, 1), (13, .getfield 21, 3), (16, .iconst 0, 1), (17, .iload_n 2, 1), (18, .iastore, 1), (19, .aload_n 0, 1), (20, .iload_n 3, 1), (21, .putfield 48, 3), (24, .aload_n 0, 1), (25, .iload 4, 2), (27, .putfield 51, 3), (30, .aload_n 0, 1), (31, .getfield 30, 3), (34, .iconst 0, 1), (35, .invokestatic 54, 3), (38, .aload_n 0, 1), (39, .getfield 39, 3), (42, .invokevirtual 60, 3), (45, .aload_n 0, 1), (46, .invokevirtual 63, 3), (49, .return_, 1)]
set_option maxRecDepth 20000 in
theorem dl_2_0_ok : dl_2_0.all (fun q => decide (decode prog_2_method_2_code q.1 = .ok (q.2.1, q.2.2))) = true := xa_g_ok (by decide +kernel)
def tb_2_0 : Nat → xE := (x_T 19 (x_T 10 (x_T 2 (x_T 0 (x_L 0 (0, xi_load 0 2 1, 0, 0)) (x_T 1 (x_L 1 (0, xi_push (0, 0, 0) 2, 0, 0)) (x_L 2 (0, xi_putf 0 8 0 5, 0, 0)))) (x_T 6 (x_T 5 (x_L 5 (0, xi_load 0 2 6, 0, 0)) (x_L 6 (0, xi_getf 0 1 9, 0, 0))) (x_T 9 (x_L 9 (0, xi_push (0, 0, 0) 10, 0, 0)) (x_L 10 (0, xi_load 1 0 11, 0, 0))))) (x_T 13 (x_T 11 (x_L 11 (0, xi_ast false 12, 0, 0)) (x_T 12 (x_L 12 (0, xi_load 0 2 13, 0, 0)) (x_L 13 (0, xi_getf 0 2 16, 0, 0)))) (x_T 17 (x_T 16 (x_L 16 (0, xi_push (0, 0, 0) 17, 0, 0)) (x_L 17 (0, xi_load 2 0 18, 0, 0))) (x_T 18 (x_L 18 (0, xi_ast false 19, 0, 0)) (x_L 19 (0, xi_load 0 2 20, 0, 0)))))) (x_T 31 (x_T 24 (x_T 20 (x_L 20 (0, xi_load 3 0 21, 0, 0)) (x_T 21 (x_L 21 (0, xi_putf 0 9 0 24, 0, 0)) (x_L 24 (0, xi_load 0 2 25, 0, 0)))) (x_T 27 (x_T 25 (x_L 25 (0, xi_load 4 0 27, 0, 0)) (x_L 27 (0, xi_putf 0 10 0 30, 0, 0))) (x_T 30 (x_L 30 (0, xi_load 0 2 31, 0, 0)) (x_L 31 (0, xi_getf 0 5 34, 0, 0))))) (x_T 39 (x_T 35 (x_T 34 (x_L 34 (0, xi_push (0, 0, 0) 35, 0, 0)) (x_L 35 (2, x_nof, 40, 2))) (x_T 38 (x_L 38 (0, xi_load 0 2 39, 0, 0)) (x_L 39 (0, xi_getf 0 7 42, 0, 0)))) (x_T 45 (x_T 42 (x_L 42 (2, x_nof, 8, 1)) (x_L 45 (0, xi_load 0 2 46, 0, 0))) (x_T 46 (x_L 46 (2, x_nof, 3, 1)) (x_L 49 (1, x_nof, 0, 0)))))))
set_option maxRecDepth 20000 in
set_option maxHeartbeats 4000000 in
theorem tb_2_0_ok (K : xKx) (hK : x_KP K) : ∀ pc, x_EOq cls K xJ mq_2 pc (tb_2_0 pc) :=
  (x_Tok2
  (x_Tok2
  (x_Tok2
  (x_Tok2
  (x_Lok (x_st (I := xJ) (xr_aload_n (i := 0) (x_dk dl_2_0_ok 0 rfl))))
  (x_Tok2
  (x_Lok (x_st (I := xJ) (xr_iconst (n := 0) (z := 0) (v := 0) (x_dk dl_2_0_ok 1 rfl) (by decide) (by decide))))
  (x_Lok (x_st (I := xJ) (xr_putf (ci := 0) (k := 8) (ix := 44) (N := 20) (fk := 0) (C := RX0) (T := TX0) (ty0 := tyX0) (ty := .int) rfl in_X0 tyX0_ok nmX0 (by decide) (in_t2 (List.mem_of_getElem? (i := 168) rfl) rfl) rfl rfl x_fit_int (x_dk dl_2_0_ok 2 rfl))))))
  (x_Tok2
  (x_Tok2
  (x_Lok (x_st (I := xJ) (xr_aload_n (i := 0) (x_dk dl_2_0_ok 3 rfl))))
  (x_Lok (x_st (I := xJ) (xr_getf (ci := 0) (k := 1) (ix := 17) (N := 20) (C := RX0) (T := TX0) rfl in_X0 (by decide) (in_t2 (List.mem_of_getElem? (i := 148) rfl) rfl) (x_dk dl_2_0_ok 4 rfl)))))
  (x_Tok2
  (x_Lok (x_st (I := xJ) (xr_iconst (n := 0) (z := 0) (v := 0) (x_dk dl_2_0_ok 5 rfl) (by decide) (by decide))))
  (x_Lok (x_st (I := xJ) (xr_iload_n (i := 1) (x_dk dl_2_0_ok 6 rfl)))))))
  (x_Tok2
  (x_Tok2
  (x_Lok (x_st (I := xJ) (xr_iastore (x_dk dl_2_0_ok 7 rfl))))
  (x_Tok2
  (x_Lok (x_st (I := xJ) (xr_aload_n (i := 0) (x_dk dl_2_0_ok 8 rfl))))
  (x_Lok (x_st (I := xJ) (xr_getf (ci := 0) (k := 2) (ix := 21) (N := 20) (C := RX0) (T := TX0) rfl in_X0 (by decide) (in_t2 (List.mem_of_getElem? (i := 152) rfl) rfl) (x_dk dl_2_0_ok 9 rfl))))))
  (x_Tok2
  (x_Tok2
  (x_Lok (x_st (I := xJ) (xr_iconst (n := 0) (z := 0) (v := 0) (x_dk dl_2_0_ok 10 rfl) (by decide) (by decide))))
  (x_Lok (x_st (I := xJ) (xr_iload_n (i := 2) (x_dk dl_2_0_ok 11 rfl)))))
  (x_Tok2
  (x_Lok (x_st (I := xJ) (xr_iastore (x_dk dl_2_0_ok 12 rfl))))
  (x_Lok (x_st (I := xJ) (xr_aload_n (i := 0) (x_dk dl_2_0_ok 13 rfl))))))))
  (x_Tok2
  (x_Tok2
  (x_Tok2
  (x_Lok (x_st (I := xJ) (xr_iload_n (i := 3) (x_dk dl_2_0_ok 14 rfl))))
  (x_Tok2
  (x_Lok (x_st (I := xJ) (xr_putf (ci := 0) (k := 9) (ix := 48) (N := 20) (fk := 0) (C := RX0) (T := TX0) (ty0 := tyX0) (ty := .int) rfl in_X0 tyX0_ok nmX0 (by decide) (in_t2 (List.mem_of_getElem? (i := 173) rfl) rfl) rfl rfl x_fit_int (x_dk dl_2_0_ok 15 rfl))))
  (x_Lok (x_st (I := xJ) (xr_aload_n (i := 0) (x_dk dl_2_0_ok 16 rfl))))))
  (x_Tok2
  (x_Tok2
  (x_Lok (x_st (I := xJ) (xr_iload (i := 4) (x_dk dl_2_0_ok 17 rfl))))
  (x_Lok (x_st (I := xJ) (xr_putf (ci := 0) (k := 10) (ix := 51) (N := 20) (fk := 0) (C := RX0) (T := TX0) (ty0 := tyX0) (ty := .int) rfl in_X0 tyX0_ok nmX0 (by decide) (in_t2 (List.mem_of_getElem? (i := 174) rfl) rfl) rfl rfl x_fit_int (x_dk dl_2_0_ok 18 rfl)))))
  (x_Tok2
  (x_Lok (x_st (I := xJ) (xr_aload_n (i := 0) (x_dk dl_2_0_ok 19 rfl))))
  (x_Lok (x_st (I := xJ) (xr_getf (ci := 0) (k := 5) (ix := 30) (N := 20) (C := RX0) (T := TX0) rfl in_X0 (by decide) (in_t2 (List.mem_of_getElem? (i := 160) rfl) rfl) (x_dk dl_2_0_ok 20 rfl)))))))
  (x_Tok2
  (x_Tok2
  (x_Tok2
  (x_Lok (x_st (I := xJ) (xr_iconst (n := 0) (z := 0) (v := 0) (x_dk dl_2_0_ok 21 rfl) (by decide) (by decide))))
  (x_Lok (x_ca (I := xJ) (q' := mq_40) rfl (xr_callS (q' := mq_40) (ix := 54) (n := 2) (in_t4 (List.mem_of_getElem? (i := 9) rfl) rfl) good_w (in_t1 (List.mem_of_getElem? (i := 13) rfl) rfl) (in_t4 (List.mem_of_getElem? (i := 7) rfl) rfl) (in_t4 (List.mem_of_getElem? (i := 8) rfl) rfl) (by decide +kernel) (by decide +kernel) (x_dk dl_2_0_ok 22 rfl)))))
  (x_Tok2
  (x_Lok (x_st (I := xJ) (xr_aload_n (i := 0) (x_dk dl_2_0_ok 23 rfl))))
  (x_Lok (x_st (I := xJ) (xr_getf (ci := 0) (k := 7) (ix := 39) (N := 20) (C := RX0) (T := TX0) rfl in_X0 (by decide) (in_t2 (List.mem_of_getElem? (i := 165) rfl) rfl) (x_dk dl_2_0_ok 24 rfl))))))
  (x_Tok2
  (x_Tok2
  (x_Lok (x_ca (I := xJ) (q' := mq_8) rfl (xr_callV (q' := mq_8) (ix := 60) (n := 0) (in_t4 (List.mem_of_getElem? (i := 13) rfl) rfl) good_w (in_t1 (List.mem_of_getElem? (i := 3) rfl) rfl) (in_t4 (List.mem_of_getElem? (i := 10) rfl) rfl) (in_t4 (List.mem_of_getElem? (i := 11) rfl) rfl) (in_t4 (List.mem_of_getElem? (i := 12) rfl) rfl) (by decide +kernel) (by decide +kernel) (by decide +kernel) (x_dk dl_2_0_ok 25 rfl))))
  (x_Lok (x_st (I := xJ) (xr_aload_n (i := 0) (x_dk dl_2_0_ok 26 rfl)))))
  (x_Tok2
  (x_Lok (x_ca (I := xJ) (q' := mq_3) rfl (xr_callV (q' := mq_3) (ix := 63) (n := 0) (in_t4 (List.mem_of_getElem? (i := 17) rfl) rfl) good_w (in_t1 (List.mem_of_getElem? (i := 8) rfl) rfl) (in_t4 (List.mem_of_getElem? (i := 14) rfl) rfl) (in_t4 (List.mem_of_getElem? (i := 15) rfl) rfl) (in_t4 (List.mem_of_getElem? (i := 16) rfl) rfl) (by decide +kernel) (by decide +kernel) (by decide +kernel) (x_dk dl_2_0_ok 27 rfl))))
  (x_Lok (x_rt (I := xJ) (k := 0) ⟨(x_dk dl_2_0_ok 28 rfl), rfl⟩)))))))
def tb_2 : Nat → xE := tb_2_0
theorem tb_2_ok (K : xKx) (hK : x_KP K) : ∀ pc, x_EOq cls K xJ mq_2 pc (tb_2 pc) := tb_2_0_ok K hK
def dl_3_0 : List (Nat × Instr × Nat) := [(0, .iconst 0, 1), (1, .istore_n 1, 1), (2, .iload_n 1, 1), (3, .bipush 6, 2), (5, .if_icmp .ge 29, 3), (8, .aload_n 0, 1), (9, .getfield 11, 3), (12, .iload_n 1, 1), (13, .aaload, 1), (14, .iconst 0, 1), (15, .putfield 90, 3), (18, .aload_n 0, 1), (19, .getfield 11, 3), (22, .iload_n 1, 1), (23, .aaload, 1), (24, .iconst 0, 1), (25, .putfield 93, 3), (28, .iinc 1 1, 3), (31, .goto (-29), 3), (34, .aload_n 0, 1), (35, .getfield 33, 3), (38, .iconst 0, 1), (39, .invokestatic 54, 3), (42, .aload_n 0, 1), (43, .invokevirtual 96, 3), (46, .aload_n 0, 1), (47, .iconst (-1), 1), (48, .putfield 99, 3), (51, .aload_n 0, 1), (52, .iconst 0, 1), (53, .putfield 102, 3), (56, .aload_n 0, 1), (57, .iconst (-1), 1), (58, .putfield 105, 3), (61, .aload_n 0, 1), (62, .iconst (-1), 1), (63, .putfield 108, 3), (66, .aload_n 0, 1), (67, .iconst 0, 1), (68, .putfield 111, 3), (71, .aload_n 0, 1), (72, .invokevirtual 87, 3), (75, .aload_n 0, 1), (76, .invokevirtual 114, 3), (79, .return_, 1)]
set_option maxRecDepth 20000 in
theorem dl_3_0_ok : dl_3_0.all (fun q => decide (decode prog_2_method_4_code q.1 = .ok (q.2.1, q.2.2))) = true := xa_g_ok (by decide +kernel)
def tb_3_0 : Nat → xE := (x_T 15 (x_T 5 (x_T 1 (x_T 0 (x_L 0 (0, xi_push (0, 0, 0) 1, 0, 0)) (x_L 1 (0, xi_stor 1 0 2, 0, 0))) (x_T 2 (x_L 2 (0, xi_load 1 0 3, 0, 0)) (x_T 3 (x_L 3 (0, xi_push (0, 6, 6) 5, 0, 0)) (x_L 5 (0, xi_if2 3 34 8, 0, 0))))) (x_T 12 (x_T 8 (x_L 8 (0, xi_load 0 2 9, 0, 0)) (x_T 9 (x_L 9 (0, xi_getf 0 0 12, 0, 0)) (x_L 12 (0, xi_load 1 0 13, 0, 0)))) (x_T 13 (x_L 13 (0, xi_aald 14, 0, 0)) (x_T 14 (x_L 14 (0, xi_push (0, 0, 0) 15, 0, 0)) (x_L 15 (0, xi_putf 5 7 0 18, 0, 0)))))) (x_T 24 (x_T 19 (x_T 18 (x_L 18 (0, xi_load 0 2 19, 0, 0)) (x_L 19 (0, xi_getf 0 0 22, 0, 0))) (x_T 22 (x_L 22 (0, xi_load 1 0 23, 0, 0)) (x_T 23 (x_L 23 (0, xi_aald 24, 0, 0)) (x_L 24 (0, xi_push (0, 0, 0) 25, 0, 0))))) (x_T 31 (x_T 25 (x_L 25 (0, xi_putf 5 9 0 28, 0, 0)) (x_T 28 (x_L 28 (0, xi_inc 1 1 31, 0, 0)) (x_L 31 (0, xi_goto 2, 0, 0)))) (x_T 34 (x_L 34 (0, xi_load 0 2 35, 0, 0)) (x_T 35 (x_L 35 (0, xi_getf 0 6 38, 0, 0)) (x_L 38 (0, xi_push (0, 0, 0) 39, 0, 0)))))))
set_option maxRecDepth 20000 in
set_option maxHeartbeats 4000000 in
theorem tb_3_0_ok (K : xKx) (hK : x_KP K) : ∀ pc, x_EOq cls K xJ mq_3 pc (tb_3_0 pc) :=
  (x_Tok2
  (x_Tok2
  (x_Tok2
  (x_Tok2
  (x_Lok (x_st (I := xJ) (xr_iconst (n := 0) (z := 0) (v := 0) (x_dk dl_3_0_ok 0 rfl) (by decide) (by decide))))
  (x_Lok (x_st (I := xJ) (xr_istore_n (i := 1) (x_dk dl_3_0_ok 1 rfl) (by decide +kernel)))))
  (x_Tok2
  (x_Lok (x_st (I := xJ) (xr_iload_n (i := 1) (x_dk dl_3_0_ok 2 rfl))))
  (x_Tok2
  (x_Lok (x_st (I := xJ) (xr_bipush (n := 6) (z := 6) (v := 6) (x_dk dl_3_0_ok 3 rfl) (by decide) (by decide))))
  (x_Lok (x_st (I := xJ) (xr_icmpge (off := 29) (tg := 34) (x_dk dl_3_0_ok 4 rfl) (by decide)))))))
  (x_Tok2
  (x_Tok2
  (x_Lok (x_st (I := xJ) (xr_aload_n (i := 0) (x_dk dl_3_0_ok 5 rfl))))
  (x_Tok2
  (x_Lok (x_st (I := xJ) (xr_getf (ci := 0) (k := 0) (ix := 11) (N := 20) (C := RX0) (T := TX0) rfl in_X0 (by decide) (in_t2 (List.mem_of_getElem? (i := 144) rfl) rfl) (x_dk dl_3_0_ok 6 rfl))))
  (x_Lok (x_st (I := xJ) (xr_iload_n (i := 1) (x_dk dl_3_0_ok 7 rfl))))))
  (x_Tok2
  (x_Lok (x_st (I := xJ) (xr_aaload (x_dk dl_3_0_ok 8 rfl))))
  (x_Tok2
  (x_Lok (x_st (I := xJ) (xr_iconst (n := 0) (z := 0) (v := 0) (x_dk dl_3_0_ok 9 rfl) (by decide) (by decide))))
  (x_Lok (x_st (I := xJ) (xr_putf (ci := 5) (k := 7) (ix := 90) (N := 12) (fk := 0) (C := RX5) (T := TX5) (ty0 := tyX5) (ty := .int) rfl in_X5 tyX5_ok nmX5 (by decide) (in_t2 (List.mem_of_getElem? (i := 105) rfl) rfl) rfl rfl x_fit_int (x_dk dl_3_0_ok 10 rfl))))))))
  (x_Tok2
  (x_Tok2
  (x_Tok2
  (x_Lok (x_st (I := xJ) (xr_aload_n (i := 0) (x_dk dl_3_0_ok 11 rfl))))
  (x_Lok (x_st (I := xJ) (xr_getf (ci := 0) (k := 0) (ix := 11) (N := 20) (C := RX0) (T := TX0) rfl in_X0 (by decide) (in_t2 (List.mem_of_getElem? (i := 144) rfl) rfl) (x_dk dl_3_0_ok 12 rfl)))))
  (x_Tok2
  (x_Lok (x_st (I := xJ) (xr_iload_n (i := 1) (x_dk dl_3_0_ok 13 rfl))))
  (x_Tok2
  (x_Lok (x_st (I := xJ) (xr_aaload (x_dk dl_3_0_ok 14 rfl))))
  (x_Lok (x_st (I := xJ) (xr_iconst (n := 0) (z := 0) (v := 0) (x_dk dl_3_0_ok 15 rfl) (by decide) (by decide)))))))
  (x_Tok2
  (x_Tok2
  (x_Lok (x_st (I := xJ) (xr_putf (ci := 5) (k := 9) (ix := 93) (N := 12) (fk := 0) (C := RX5) (T := TX5) (ty0 := tyX5) (ty := .int) rfl in_X5 tyX5_ok nmX5 (by decide) (in_t2 (List.mem_of_getElem? (i := 112) rfl) rfl) rfl rfl x_fit_int (x_dk dl_3_0_ok 16 rfl))))
  (x_Tok2
  (x_Lok (x_st (I := xJ) (xr_iinc (i := 1) (n := 1) (x_dk dl_3_0_ok 17 rfl) (by decide +kernel) (by decide))))
  (x_Lok (x_st (I := xJ) (xr_goto (off := (-29)) (tg := 2) (x_dk dl_3_0_ok 18 rfl) (by decide))))))
  (x_Tok2
  (x_Lok (x_st (I := xJ) (xr_aload_n (i := 0) (x_dk dl_3_0_ok 19 rfl))))
  (x_Tok2
  (x_Lok (x_st (I := xJ) (xr_getf (ci := 0) (k := 6) (ix := 33) (N := 20) (C := RX0) (T := TX0) rfl in_X0 (by decide) (in_t2 (List.mem_of_getElem? (i := 162) rfl) rfl) (x_dk dl_3_0_ok 20 rfl))))
  (x_Lok (x_st (I := xJ) (xr_iconst (n := 0) (z := 0) (v := 0) (x_dk dl_3_0_ok 21 rfl) (by decide) (by decide)))))))))
def tb_3_22 : Nat → xE := (x_T 57 (x_T 47 (x_T 42 (x_T 39 (x_L 39 (2, x_nof, 40, 2)) (x_L 42 (0, xi_load 0 2 43, 0, 0))) (x_T 43 (x_L 43 (2, x_nof, 6, 1)) (x_T 46 (x_L 46 (0, xi_load 0 2 47, 0, 0)) (x_L 47 (0, xi_push (0, (-1), (-1)) 48, 0, 0))))) (x_T 52 (x_T 48 (x_L 48 (0, xi_putf 0 14 0 51, 0, 0)) (x_T 51 (x_L 51 (0, xi_load 0 2 52, 0, 0)) (x_L 52 (0, xi_push (0, 0, 0) 53, 0, 0)))) (x_T 53 (x_L 53 (0, xi_putf 0 15 0 56, 0, 0)) (x_T 56 (x_L 56 (0, xi_load 0 2 57, 0, 0)) (x_L 57 (0, xi_push (0, (-1), (-1)) 58, 0, 0)))))) (x_T 67 (x_T 62 (x_T 58 (x_L 58 (0, xi_putf 0 16 0 61, 0, 0)) (x_T 61 (x_L 61 (0, xi_load 0 2 62, 0, 0)) (x_L 62 (0, xi_push (0, (-1), (-1)) 63, 0, 0)))) (x_T 63 (x_L 63 (0, xi_putf 0 17 0 66, 0, 0)) (x_T 66 (x_L 66 (0, xi_load 0 2 67, 0, 0)) (x_L 67 (0, xi_push (0, 0, 0) 68, 0, 0))))) (x_T 72 (x_T 68 (x_L 68 (0, xi_putf 0 19 0 71, 0, 0)) (x_T 71 (x_L 71 (0, xi_load 0 2 72, 0, 0)) (x_L 72 (2, x_nof, 4, 1)))) (x_T 75 (x_L 75 (0, xi_load 0 2 76, 0, 0)) (x_T 76 (x_L 76 (2, x_nof, 5, 1)) (x_L 79 (1, x_nof, 0, 0)))))))
set_option maxRecDepth 20000 in
set_option maxHeartbeats 4000000 in
theorem tb_3_22_ok (K : xKx) (hK : x_KP K) : ∀ pc, x_EOq cls K xJ mq_3 pc (tb_3_22 pc) :=
  (x_Tok2
  (x_Tok2
  (x_Tok2
  (x_Tok2
  (x_Lok (x_ca (I := xJ) (q' := mq_40) rfl (xr_callS (q' := mq_40) (ix := 54) (n := 2) (in_t4 (List.mem_of_getElem? (i := 9) rfl) rfl) good_w (in_t1 (List.mem_of_getElem? (i := 13) rfl) rfl) (in_t4 (List.mem_of_getElem? (i := 7) rfl) rfl) (in_t4 (List.mem_of_getElem? (i := 8) rfl) rfl) (by decide +kernel) (by decide +kernel) (x_dk dl_3_0_ok 22 rfl))))
  (x_Lok (x_st (I := xJ) (xr_aload_n (i := 0) (x_dk dl_3_0_ok 23 rfl)))))
  (x_Tok2
  (x_Lok (x_ca (I := xJ) (q' := mq_6) rfl (xr_callV (q' := mq_6) (ix := 96) (n := 0) (in_t4 (List.mem_of_getElem? (i := 21) rfl) rfl) good_w (in_t1 (List.mem_of_getElem? (i := 8) rfl) rfl) (in_t4 (List.mem_of_getElem? (i := 18) rfl) rfl) (in_t4 (List.mem_of_getElem? (i := 19) rfl) rfl) (in_t4 (List.mem_of_getElem? (i := 20) rfl) rfl) (by decide +kernel) (by decide +kernel) (by decide +kernel) (x_dk dl_3_0_ok 24 rfl))))
  (x_Tok2
  (x_Lok (x_st (I := xJ) (xr_aload_n (i := 0) (x_dk dl_3_0_ok 25 rfl))))
  (x_Lok (x_st (I := xJ) (xr_iconst (n := (-1)) (z := (-1)) (v := (-1)) (x_dk dl_3_0_ok 26 rfl) (by decide) (by decide)))))))
  (x_Tok2
  (x_Tok2
  (x_Lok (x_st (I := xJ) (xr_putf (ci := 0) (k := 14) (ix := 99) (N := 20) (fk := 0) (C := RX0) (T := TX0) (ty0 := tyX0) (ty := .int) rfl in_X0 tyX0_ok nmX0 (by decide) (in_t2 (List.mem_of_getElem? (i := 183) rfl) rfl) rfl rfl x_fit_int (x_dk dl_3_0_ok 27 rfl))))
  (x_Tok2
  (x_Lok (x_st (I := xJ) (xr_aload_n (i := 0) (x_dk dl_3_0_ok 28 rfl))))
  (x_Lok (x_st (I := xJ) (xr_iconst (n := 0) (z := 0) (v := 0) (x_dk dl_3_0_ok 29 rfl) (by decide) (by decide))))))
  (x_Tok2
  (x_Lok (x_st (I := xJ) (xr_putf (ci := 0) (k := 15) (ix := 102) (N := 20) (fk := 0) (C := RX0) (T := TX0) (ty0 := tyX0) (ty := .int) rfl in_X0 tyX0_ok nmX0 (by decide) (in_t2 (List.mem_of_getElem? (i := 187) rfl) rfl) rfl rfl x_fit_int (x_dk dl_3_0_ok 30 rfl))))
  (x_Tok2
  (x_Lok (x_st (I := xJ) (xr_aload_n (i := 0) (x_dk dl_3_0_ok 31 rfl))))
  (x_Lok (x_st (I := xJ) (xr_iconst (n := (-1)) (z := (-1)) (v := (-1)) (x_dk dl_3_0_ok 32 rfl) (by decide) (by decide))))))))
  (x_Tok2
  (x_Tok2
  (x_Tok2
  (x_Lok (x_st (I := xJ) (xr_putf (ci := 0) (k := 16) (ix := 105) (N := 20) (fk := 0) (C := RX0) (T := TX0) (ty0 := tyX0) (ty := .int) rfl in_X0 tyX0_ok nmX0 (by decide) (in_t2 (List.mem_of_getElem? (i := 189) rfl) rfl) rfl rfl x_fit_int (x_dk dl_3_0_ok 33 rfl))))
  (x_Tok2
  (x_Lok (x_st (I := xJ) (xr_aload_n (i := 0) (x_dk dl_3_0_ok 34 rfl))))
  (x_Lok (x_st (I := xJ) (xr_iconst (n := (-1)) (z := (-1)) (v := (-1)) (x_dk dl_3_0_ok 35 rfl) (by decide) (by decide))))))
  (x_Tok2
  (x_Lok (x_st (I := xJ) (xr_putf (ci := 0) (k := 17) (ix := 108) (N := 20) (fk := 0) (C := RX0) (T := TX0) (ty0 := tyX0) (ty := .int) rfl in_X0 tyX0_ok nmX0 (by decide) (in_t2 (List.mem_of_getElem? (i := 193) rfl) rfl) rfl rfl x_fit_int (x_dk dl_3_0_ok 36 rfl))))
  (x_Tok2
  (x_Lok (x_st (I := xJ) (xr_aload_n (i := 0) (x_dk dl_3_0_ok 37 rfl))))
  (x_Lok (x_st (I := xJ) (xr_iconst (n := 0) (z := 0) (v := 0) (x_dk dl_3_0_ok 38 rfl) (by decide) (by decide)))))))
  (x_Tok2
  (x_Tok2
  (x_Lok (x_st (I := xJ) (xr_putf (ci := 0) (k := 19) (ix := 111) (N := 20) (fk := 0) (C := RX0) (T := TX0) (ty0 := tyX0) (ty := .int) rfl in_X0 tyX0_ok nmX0 (by decide) (in_t2 (List.mem_of_getElem? (i := 200) rfl) rfl) rfl rfl x_fit_int (x_dk dl_3_0_ok 39 rfl))))
  (x_Tok2
  (x_Lok (x_st (I := xJ) (xr_aload_n (i := 0) (x_dk dl_3_0_ok 40 rfl))))
  (x_Lok (x_ca (I := xJ) (q' := mq_4) rfl (xr_callV (q' := mq_4) (ix := 87) (n := 0) (in_t4 (List.mem_of_getElem? (i := 25) rfl) rfl) good_w (in_t1 (List.mem_of_getElem? (i := 8) rfl) rfl) (in_t4 (List.mem_of_getElem? (i := 22) rfl) rfl) (in_t4 (List.mem_of_getElem? (i := 23) rfl) rfl) (in_t4 (List.mem_of_getElem? (i := 24) rfl) rfl) (by decide +kernel) (by decide +kernel) (by decide +kernel) (x_dk dl_3_0_ok 41 rfl))))))
  (x_Tok2
  (x_Lok (x_st (I := xJ) (xr_aload_n (i := 0) (x_dk dl_3_0_ok 42 rfl))))
  (x_Tok2
  (x_Lok (x_ca (I := xJ) (q' := mq_5) rfl (xr_callV (q' := mq_5) (ix := 114) (n := 0) (in_t4 (List.mem_of_getElem? (i := 39) rfl) rfl) good_w (in_t1 (List.mem_of_getElem? (i := 8) rfl) rfl) (in_t4 (List.mem_of_getElem? (i := 36) rfl) rfl) (in_t4 (List.mem_of_getElem? (i := 37) rfl) rfl) (in_t4 (List.mem_of_getElem? (i := 38) rfl) rfl) (by decide +kernel) (by decide +kernel) (by decide +kernel) (x_dk dl_3_0_ok 43 rfl))))
  (x_Lok (x_rt (I := xJ) (k := 0) ⟨(x_dk dl_3_0_ok 44 rfl), rfl⟩)))))))
def tb_3 : Nat → xE := (x_T 38 tb_3_0 tb_3_22)
theorem tb_3_ok (K : xKx) (hK : x_KP K) : ∀ pc, x_EOq cls K xJ mq_3 pc (tb_3 pc) := (x_Tok2 (tb_3_0_ok K hK) (tb_3_22_ok K hK))
def dl_4_0 : List (Nat × Instr × Nat) := [(0, .aload_n 0, 1), (1, .getfield 17, 3), (4, .iconst 0, 1), (5, .iaload, 1), (6, .i2l, 1), (7, .bipush 20, 2), (9, .lshl, 1), (10, .lstore_n 1, 1), (11, .aload_n 0, 1), (12, .getfield 21, 3), (15, .iconst 0, 1), (16, .iaload, 1), (17, .i2l, 1), (18, .bipush 20, 2), (20, .lshl, 1), (21, .lstore_n 3, 1), (22, .aload_n 0, 1), (23, .getfield 48, 3), (26, .istore 5, 2), (28, .iconst 0, 1), (29, .istore 6, 2), (31, .iload 6, 2), (33, .aload_n 0, 1), (34, .getfield 44, 3), (37, .if_icmp .ge 129, 3), (166, .aload_n 0, 1), (167, .getfield 17, 3), (170, .aload_n 0, 1), (171, .getfield 44, 3), (174, .iconst 1, 1), (175, .iadd, 1), (176, .aload_n 0, 1), (177, .getfield 17, 3), (180, .aload_n 0, 1), (181, .getfield 44, 3), (184, .iaload, 1), (185, .iastore, 1), (186, .aload_n 0, 1), (187, .getfield 21, 3), (190, .aload_n 0, 1), (191, .getfield 44, 3), (194, .iconst 1, 1), (195, .iadd, 1), (196, .aload_n 0, 1), (197, .getfield 21, 3), (200, .aload_n 0, 1), (201, .getfield 44, 3), (204, .iaload, 1), (205, .iastore, 1), (206, .return_, 1)]
set_option maxRecDepth 20000 in
theorem dl_4_0_ok : dl_4_0.all (fun q => decide (decode prog_2_method_11_code q.1 = .ok (q.2.1, q.2.2))) = true := xa_g_ok (by decide +kernel)
def tb_4_0 : Nat → xE := (x_T 16 (x_T 7 (x_T 4 (x_T 0 (x_L 0 (0, xi_load 0 2 1, 0, 0)) (x_T 1 (x_L 1 (0, xi_getf 0 1 4, 0, 0)) (x_L 4 (0, xi_push (0, 0, 0) 5, 0, 0)))) (x_T 5 (x_L 5 (0, xi_ald false 6, 0, 0)) (x_T 6 (x_L 6 (0, xi_i2l 7, 0, 0)) (x_L 7 (0, xi_push (0, 20, 20) 9, 0, 0))))) (x_T 11 (x_T 9 (x_L 9 (0, xi_shL xF_anyL 10, 0, 0)) (x_T 10 (x_L 10 (0, xi_stor 1 1 11, 0, 0)) (x_L 11 (0, xi_load 0 2 12, 0, 0)))) (x_T 12 (x_L 12 (0, xi_getf 0 2 15, 0, 0)) (x_T 15 (x_L 15 (0, xi_push (0, 0, 0) 16, 0, 0)) (x_L 16 (0, xi_ald false 17, 0, 0)))))) (x_T 23 (x_T 20 (x_T 17 (x_L 17 (0, xi_i2l 18, 0, 0)) (x_T 18 (x_L 18 (0, xi_push (0, 20, 20) 20, 0, 0)) (x_L 20 (0, xi_shL xF_anyL 21, 0, 0)))) (x_T 21 (x_L 21 (0, xi_stor 3 1 22, 0, 0)) (x_T 22 (x_L 22 (0, xi_load 0 2 23, 0, 0)) (x_L 23 (0, xi_getf 0 9 26, 0, 0))))) (x_T 29 (x_T 26 (x_L 26 (0, xi_stor 5 0 28, 0, 0)) (x_T 28 (x_L 28 (0, xi_push (0, 0, 0) 29, 0, 0)) (x_L 29 (0, xi_stor 6 0 31, 0, 0)))) (x_T 33 (x_T 31 (x_L 31 (0, xi_load 6 0 33, 0, 0)) (x_L 33 (0, xi_load 0 2 34, 0, 0))) (x_T 34 (x_L 34 (0, xi_getf 0 8 37, 0, 0)) (x_L 37 (0, xi_if2 3 166 40, 0, 0)))))))
set_option maxRecDepth 20000 in
set_option maxHeartbeats 4000000 in
theorem tb_4_0_ok (K : xKx) (hK : x_KP K) : ∀ pc, x_EOq cls K xJ mq_4 pc (tb_4_0 pc) :=
  (x_Tok2
  (x_Tok2
  (x_Tok2
  (x_Tok2
  (x_Lok (x_st (I := xJ) (xr_aload_n (i := 0) (x_dk dl_4_0_ok 0 rfl))))
  (x_Tok2
  (x_Lok (x_st (I := xJ) (xr_getf (ci := 0) (k := 1) (ix := 17) (N := 20) (C := RX0) (T := TX0) rfl in_X0 (by decide) (in_t2 (List.mem_of_getElem? (i := 148) rfl) rfl) (x_dk dl_4_0_ok 1 rfl))))
  (x_Lok (x_st (I := xJ) (xr_iconst (n := 0) (z := 0) (v := 0) (x_dk dl_4_0_ok 2 rfl) (by decide) (by decide))))))
  (x_Tok2
  (x_Lok (x_st (I := xJ) (xr_iaload (x_dk dl_4_0_ok 3 rfl))))
  (x_Tok2
  (x_Lok (x_st (I := xJ) (xr_i2l (x_dk dl_4_0_ok 4 rfl))))
  (x_Lok (x_st (I := xJ) (xr_bipush (n := 20) (z := 20) (v := 20) (x_dk dl_4_0_ok 5 rfl) (by decide) (by decide)))))))
  (x_Tok2
  (x_Tok2
  (x_Lok (x_st (I := xJ) (xr_lshl (x_dk dl_4_0_ok 6 rfl))))
  (x_Tok2
  (x_Lok (x_st (I := xJ) (xr_lstore_n (i := 1) (x_dk dl_4_0_ok 7 rfl) (by decide +kernel))))
  (x_Lok (x_st (I := xJ) (xr_aload_n (i := 0) (x_dk dl_4_0_ok 8 rfl))))))
  (x_Tok2
  (x_Lok (x_st (I := xJ) (xr_getf (ci := 0) (k := 2) (ix := 21) (N := 20) (C := RX0) (T := TX0) rfl in_X0 (by decide) (in_t2 (List.mem_of_getElem? (i := 152) rfl) rfl) (x_dk dl_4_0_ok 9 rfl))))
  (x_Tok2
  (x_Lok (x_st (I := xJ) (xr_iconst (n := 0) (z := 0) (v := 0) (x_dk dl_4_0_ok 10 rfl) (by decide) (by decide))))
  (x_Lok (x_st (I := xJ) (xr_iaload (x_dk dl_4_0_ok 11 rfl))))))))
  (x_Tok2
  (x_Tok2
  (x_Tok2
  (x_Lok (x_st (I := xJ) (xr_i2l (x_dk dl_4_0_ok 12 rfl))))
  (x_Tok2
  (x_Lok (x_st (I := xJ) (xr_bipush (n := 20) (z := 20) (v := 20) (x_dk dl_4_0_ok 13 rfl) (by decide) (by decide))))
  (x_Lok (x_st (I := xJ) (xr_lshl (x_dk dl_4_0_ok 14 rfl))))))
  (x_Tok2
  (x_Lok (x_st (I := xJ) (xr_lstore_n (i := 3) (x_dk dl_4_0_ok 15 rfl) (by decide +kernel))))
  (x_Tok2
  (x_Lok (x_st (I := xJ) (xr_aload_n (i := 0) (x_dk dl_4_0_ok 16 rfl))))
  (x_Lok (x_st (I := xJ) (xr_getf (ci := 0) (k := 9) (ix := 48) (N := 20) (C := RX0) (T := TX0) rfl in_X0 (by decide) (in_t2 (List.mem_of_getElem? (i := 173) rfl) rfl) (x_dk dl_4_0_ok 17 rfl)))))))
  (x_Tok2
  (x_Tok2
  (x_Lok (x_st (I := xJ) (xr_istore (i := 5) (x_dk dl_4_0_ok 18 rfl) (by decide +kernel))))
  (x_Tok2
  (x_Lok (x_st (I := xJ) (xr_iconst (n := 0) (z := 0) (v := 0) (x_dk dl_4_0_ok 19 rfl) (by decide) (by decide))))
  (x_Lok (x_st (I := xJ) (xr_istore (i := 6) (x_dk dl_4_0_ok 20 rfl) (by decide +kernel))))))
  (x_Tok2
  (x_Tok2
  (x_Lok (x_st (I := xJ) (xr_iload (i := 6) (x_dk dl_4_0_ok 21 rfl))))
  (x_Lok (x_st (I := xJ) (xr_aload_n (i := 0) (x_dk dl_4_0_ok 22 rfl)))))
  (x_Tok2
  (x_Lok (x_st (I := xJ) (xr_getf (ci := 0) (k := 8) (ix := 44) (N := 20) (C := RX0) (T := TX0) rfl in_X0 (by decide) (in_t2 (List.mem_of_getElem? (i := 168) rfl) rfl) (x_dk dl_4_0_ok 23 rfl))))
  (x_Lok (x_st (I := xJ) (xr_icmpge (off := 129) (tg := 166) (x_dk dl_4_0_ok 24 rfl) (by decide)))))))))
def tb_4_25 : Nat → xE := (x_T 185 (x_T 175 (x_T 170 (x_T 166 (x_L 166 (0, xi_load 0 2 167, 0, 0)) (x_T 167 (x_L 167 (0, xi_getf 0 1 170, 0, 0)) (x_L 170 (0, xi_load 0 2 171, 0, 0)))) (x_T 171 (x_L 171 (0, xi_getf 0 8 174, 0, 0)) (x_T 174 (x_L 174 (0, xi_push (0, 1, 1) 175, 0, 0)) (x_L 175 (0, xi_bin xF_add 176, 0, 0))))) (x_T 180 (x_T 176 (x_L 176 (0, xi_load 0 2 177, 0, 0)) (x_T 177 (x_L 177 (0, xi_getf 0 1 180, 0, 0)) (x_L 180 (0, xi_load 0 2 181, 0, 0)))) (x_T 181 (x_L 181 (0, xi_getf 0 8 184, 0, 0)) (x_T 184 (x_L 184 (0, xi_ald false 185, 0, 0)) (x_L 185 (0, xi_ast false 186, 0, 0)))))) (x_T 195 (x_T 190 (x_T 186 (x_L 186 (0, xi_load 0 2 187, 0, 0)) (x_T 187 (x_L 187 (0, xi_getf 0 2 190, 0, 0)) (x_L 190 (0, xi_load 0 2 191, 0, 0)))) (x_T 191 (x_L 191 (0, xi_getf 0 8 194, 0, 0)) (x_T 194 (x_L 194 (0, xi_push (0, 1, 1) 195, 0, 0)) (x_L 195 (0, xi_bin xF_add 196, 0, 0))))) (x_T 200 (x_T 196 (x_L 196 (0, xi_load 0 2 197, 0, 0)) (x_T 197 (x_L 197 (0, xi_getf 0 2 200, 0, 0)) (x_L 200 (0, xi_load 0 2 201, 0, 0)))) (x_T 204 (x_T 201 (x_L 201 (0, xi_getf 0 8 204, 0, 0)) (x_L 204 (0, xi_ald false 205, 0, 0))) (x_T 205 (x_L 205 (0, xi_ast false 206, 0, 0)) (x_L 206 (1, x_nof, 0, 0)))))))
set_option maxRecDepth 20000 in
set_option maxHeartbeats 4000000 in
theorem tb_4_25_ok (K : xKx) (hK : x_KP K) : ∀ pc, x_EOq cls K xJ mq_4 pc (tb_4_25 pc) :=
  (x_Tok2
  (x_Tok2
  (x_Tok2
  (x_Tok2
  (x_Lok (x_st (I := xJ) (xr_aload_n (i := 0) (x_dk dl_4_0_ok 25 rfl))))
  (x_Tok2
  (x_Lok (x_st (I := xJ) (xr_getf (ci := 0) (k := 1) (ix := 17) (N := 20) (C := RX0) (T := TX0) rfl in_X0 (by decide) (in_t2 (List.mem_of_getElem? (i := 148) rfl) rfl) (x_dk dl_4_0_ok 26 rfl))))
  (x_Lok (x_st (I := xJ) (xr_aload_n (i := 0) (x_dk dl_4_0_ok 27 rfl))))))
  (x_Tok2
  (x_Lok (x_st (I := xJ) (xr_getf (ci := 0) (k := 8) (ix := 44) (N := 20) (C := RX0) (T := TX0) rfl in_X0 (by decide) (in_t2 (List.mem_of_getElem? (i := 168) rfl) rfl) (x_dk dl_4_0_ok 28 rfl))))
  (x_Tok2
  (x_Lok (x_st (I := xJ) (xr_iconst (n := 1) (z := 1) (v := 1) (x_dk dl_4_0_ok 29 rfl) (by decide) (by decide))))
  (x_Lok (x_st (I := xJ) (xr_iadd (x_dk dl_4_0_ok 30 rfl)))))))
  (x_Tok2
  (x_Tok2
  (x_Lok (x_st (I := xJ) (xr_aload_n (i := 0) (x_dk dl_4_0_ok 31 rfl))))
  (x_Tok2
  (x_Lok (x_st (I := xJ) (xr_getf (ci := 0) (k := 1) (ix := 17) (N := 20) (C := RX0) (T := TX0) rfl in_X0 (by decide) (in_t2 (List.mem_of_getElem? (i := 148) rfl) rfl) (x_dk dl_4_0_ok 32 rfl))))
  (x_Lok (x_st (I := xJ) (xr_aload_n (i := 0) (x_dk dl_4_0_ok 33 rfl))))))
  (x_Tok2
  (x_Lok (x_st (I := xJ) (xr_getf (ci := 0) (k := 8) (ix := 44) (N := 20) (C := RX0) (T := TX0) rfl in_X0 (by decide) (in_t2 (List.mem_of_getElem? (i := 168) rfl) rfl) (x_dk dl_4_0_ok 34 rfl))))
  (x_Tok2
  (x_Lok (x_st (I := xJ) (xr_iaload (x_dk dl_4_0_ok 35 rfl))))
  (x_Lok (x_st (I := xJ) (xr_iastore (x_dk dl_4_0_ok 36 rfl))))))))
  (x_Tok2
  (x_Tok2
  (x_Tok2
  (x_Lok (x_st (I := xJ) (xr_aload_n (i := 0) (x_dk dl_4_0_ok 37 rfl))))
  (x_Tok2
  (x_Lok (x_st (I := xJ) (xr_getf (ci := 0) (k := 2) (ix := 21) (N := 20) (C := RX0) (T := TX0) rfl in_X0 (by decide) (in_t2 (List.mem_of_getElem? (i := 152) rfl) rfl) (x_dk dl_4_0_ok 38 rfl))))
  (x_Lok (x_st (I := xJ) (xr_aload_n (i := 0) (x_dk dl_4_0_ok 39 rfl))))))
  (x_Tok2
  (x_Lok (x_st (I := xJ) (xr_getf (ci := 0) (k := 8) (ix := 44) (N := 20) (C := RX0) (T := TX0) rfl in_X0 (by decide) (in_t2 (List.mem_of_getElem? (i := 168) rfl) rfl) (x_dk dl_4_0_ok 40 rfl))))
  (x_Tok2
  (x_Lok (x_st (I := xJ) (xr_iconst (n := 1) (z := 1) (v := 1) (x_dk dl_4_0_ok 41 rfl) (by decide) (by decide))))
  (x_Lok (x_st (I := xJ) (xr_iadd (x_dk dl_4_0_ok 42 rfl)))))))
  (x_Tok2
  (x_Tok2
  (x_Lok (x_st (I := xJ) (xr_aload_n (i := 0) (x_dk dl_4_0_ok 43 rfl))))
  (x_Tok2
  (x_Lok (x_st (I := xJ) (xr_getf (ci := 0) (k := 2) (ix := 21) (N := 20) (C := RX0) (T := TX0) rfl in_X0 (by decide) (in_t2 (List.mem_of_getElem? (i := 152) rfl) rfl) (x_dk dl_4_0_ok 44 rfl))))
  (x_Lok (x_st (I := xJ) (xr_aload_n (i := 0) (x_dk dl_4_0_ok 45 rfl))))))
  (x_Tok2
  (x_Tok2
  (x_Lok (x_st (I := xJ) (xr_getf (ci := 0) (k := 8) (ix := 44) (N := 20) (C := RX0) (T := TX0) rfl in_X0 (by decide) (in_t2 (List.mem_of_getElem? (i := 168) rfl) rfl) (x_dk dl_4_0_ok 46 rfl))))
  (x_Lok (x_st (I := xJ) (xr_iaload (x_dk dl_4_0_ok 47 rfl)))))
  (x_Tok2
  (x_Lok (x_st (I := xJ) (xr_iastore (x_dk dl_4_0_ok 48 rfl))))
  (x_Lok (x_rt (I := xJ) (k := 0) ⟨(x_dk dl_4_0_ok 49 rfl), rfl⟩)))))))
def tb_4 : Nat → xE := (x_T 37 tb_4_0 tb_4_25)
theorem tb_4_ok (K : xKx) (hK : x_KP K) : ∀ pc, x_EOq cls K xJ mq_4 pc (tb_4 pc) := (x_Tok2 (tb_4_0_ok K hK) (tb_4_25_ok K hK))
def dl_5_0 : List (Nat × Instr × Nat) := [(0, .iconst 0, 1), (1, .istore_n 1, 1), (2, .iload_n 1, 1), (3, .aload_n 0, 1), (4, .getfield 44, 3), (7, .if_icmp .gt 33, 3), (10, .aload_n 0, 1), (11, .getfield 24, 3), (14, .iload_n 1, 1), (15, .aload_n 0, 1), (16, .getfield 17, 3), (19, .iload_n 1, 1), (20, .iaload, 1), (21, .iastore, 1), (22, .aload_n 0, 1), (23, .getfield 27, 3), (26, .iload_n 1, 1), (27, .aload_n 0, 1), (28, .getfield 21, 3), (31, .iload_n 1, 1), (32, .iaload, 1), (33, .iastore, 1), (34, .iinc 1 1, 3), (37, .goto (-35), 3), (40, .return_, 1)]
set_option maxRecDepth 20000 in
theorem dl_5_0_ok : dl_5_0.all (fun q => decide (decode prog_2_method_12_code q.1 = .ok (q.2.1, q.2.2))) = true := xa_g_ok (by decide +kernel)
def tb_5_0 : Nat → xE := (x_T 19 (x_T 7 (x_T 2 (x_T 0 (x_L 0 (0, xi_push (0, 0, 0) 1, 0, 0)) (x_T 1 (x_L 1 (0, xi_stor 1 0 2, 0, 0)) (x_L 2 (0, xi_load 1 0 3, 0, 0)))) (x_T 3 (x_L 3 (0, xi_load 0 2 4, 0, 0)) (x_T 4 (x_L 4 (0, xi_getf 0 8 7, 0, 0)) (x_L 7 (0, xi_if2 4 40 10, 0, 0))))) (x_T 14 (x_T 10 (x_L 10 (0, xi_load 0 2 11, 0, 0)) (x_T 11 (x_L 11 (0, xi_getf 0 3 14, 0, 0)) (x_L 14 (0, xi_load 1 0 15, 0, 0)))) (x_T 15 (x_L 15 (0, xi_load 0 2 16, 0, 0)) (x_T 16 (x_L 16 (0, xi_getf 0 1 19, 0, 0)) (x_L 19 (0, xi_load 1 0 20, 0, 0)))))) (x_T 27 (x_T 22 (x_T 20 (x_L 20 (0, xi_ald false 21, 0, 0)) (x_T 21 (x_L 21 (0, xi_ast false 22, 0, 0)) (x_L 22 (0, xi_load 0 2 23, 0, 0)))) (x_T 23 (x_L 23 (0, xi_getf 0 4 26, 0, 0)) (x_T 26 (x_L 26 (0, xi_load 1 0 27, 0, 0)) (x_L 27 (0, xi_load 0 2 28, 0, 0))))) (x_T 32 (x_T 28 (x_L 28 (0, xi_getf 0 2 31, 0, 0)) (x_T 31 (x_L 31 (0, xi_load 1 0 32, 0, 0)) (x_L 32 (0, xi_ald false 33, 0, 0)))) (x_T 34 (x_T 33 (x_L 33 (0, xi_ast false 34, 0, 0)) (x_L 34 (0, xi_inc 1 1 37, 0, 0))) (x_T 37 (x_L 37 (0, xi_goto 2, 0, 0)) (x_L 40 (1, x_nof, 0, 0)))))))
set_option maxRecDepth 20000 in
set_option maxHeartbeats 4000000 in
theorem tb_5_0_ok (K : xKx) (hK : x_KP K) : ∀ pc, x_EOq cls K xJ mq_5 pc (tb_5_0 pc) :=
  (x_Tok2
  (x_Tok2
  (x_Tok2
  (x_Tok2
  (x_Lok (x_st (I := xJ) (xr_iconst (n := 0) (z := 0) (v := 0) (x_dk dl_5_0_ok 0 rfl) (by decide) (by decide))))
  (x_Tok2
  (x_Lok (x_st (I := xJ) (xr_istore_n (i := 1) (x_dk dl_5_0_ok 1 rfl) (by decide +kernel))))
  (x_Lok (x_st (I := xJ) (xr_iload_n (i := 1) (x_dk dl_5_0_ok 2 rfl))))))
  (x_Tok2
  (x_Lok (x_st (I := xJ) (xr_aload_n (i := 0) (x_dk dl_5_0_ok 3 rfl))))
  (x_Tok2
  (x_Lok (x_st (I := xJ) (xr_getf (ci := 0) (k := 8) (ix := 44) (N := 20) (C := RX0) (T := TX0) rfl in_X0 (by decide) (in_t2 (List.mem_of_getElem? (i := 168) rfl) rfl) (x_dk dl_5_0_ok 4 rfl))))
  (x_Lok (x_st (I := xJ) (xr_icmpgt (off := 33) (tg := 40) (x_dk dl_5_0_ok 5 rfl) (by decide)))))))
  (x_Tok2
  (x_Tok2
  (x_Lok (x_st (I := xJ) (xr_aload_n (i := 0) (x_dk dl_5_0_ok 6 rfl))))
  (x_Tok2
  (x_Lok (x_st (I := xJ) (xr_getf (ci := 0) (k := 3) (ix := 24) (N := 20) (C := RX0) (T := TX0) rfl in_X0 (by decide) (in_t2 (List.mem_of_getElem? (i := 156) rfl) rfl) (x_dk dl_5_0_ok 7 rfl))))
  (x_Lok (x_st (I := xJ) (xr_iload_n (i := 1) (x_dk dl_5_0_ok 8 rfl))))))
  (x_Tok2
  (x_Lok (x_st (I := xJ) (xr_aload_n (i := 0) (x_dk dl_5_0_ok 9 rfl))))
  (x_Tok2
  (x_Lok (x_st (I := xJ) (xr_getf (ci := 0) (k := 1) (ix := 17) (N := 20) (C := RX0) (T := TX0) rfl in_X0 (by decide) (in_t2 (List.mem_of_getElem? (i := 148) rfl) rfl) (x_dk dl_5_0_ok 10 rfl))))
  (x_Lok (x_st (I := xJ) (xr_iload_n (i := 1) (x_dk dl_5_0_ok 11 rfl))))))))
  (x_Tok2
  (x_Tok2
  (x_Tok2
  (x_Lok (x_st (I := xJ) (xr_iaload (x_dk dl_5_0_ok 12 rfl))))
  (x_Tok2
  (x_Lok (x_st (I := xJ) (xr_iastore (x_dk dl_5_0_ok 13 rfl))))
  (x_Lok (x_st (I := xJ) (xr_aload_n (i := 0) (x_dk dl_5_0_ok 14 rfl))))))
  (x_Tok2
  (x_Lok (x_st (I := xJ) (xr_getf (ci := 0) (k := 4) (ix := 27) (N := 20) (C := RX0) (T := TX0) rfl in_X0 (by decide) (in_t2 (List.mem_of_getElem? (i := 158) rfl) rfl) (x_dk dl_5_0_ok 15 rfl))))
  (x_Tok2
  (x_Lok (x_st (I := xJ) (xr_iload_n (i := 1) (x_dk dl_5_0_ok 16 rfl))))
  (x_Lok (x_st (I := xJ) (xr_aload_n (i := 0) (x_dk dl_5_0_ok 17 rfl)))))))
  (x_Tok2
  (x_Tok2
  (x_Lok (x_st (I := xJ) (xr_getf (ci := 0) (k := 2) (ix := 21) (N := 20) (C := RX0) (T := TX0) rfl in_X0 (by decide) (in_t2 (List.mem_of_getElem? (i := 152) rfl) rfl) (x_dk dl_5_0_ok 18 rfl))))
  (x_Tok2
  (x_Lok (x_st (I := xJ) (xr_iload_n (i := 1) (x_dk dl_5_0_ok 19 rfl))))
  (x_Lok (x_st (I := xJ) (xr_iaload (x_dk dl_5_0_ok 20 rfl))))))
  (x_Tok2
  (x_Tok2
  (x_Lok (x_st (I := xJ) (xr_iastore (x_dk dl_5_0_ok 21 rfl))))
  (x_Lok (x_st (I := xJ) (xr_iinc (i := 1) (n := 1) (x_dk dl_5_0_ok 22 rfl) (by decide +kernel) (by decide)))))
  (x_Tok2
  (x_Lok (x_st (I := xJ) (xr_goto (off := (-35)) (tg := 2) (x_dk dl_5_0_ok 23 rfl) (by decide))))
  (x_Lok (x_rt (I := xJ) (k := 0) ⟨(x_dk dl_5_0_ok 24 rfl), rfl⟩)))))))
def tb_5 : Nat → xE := tb_5_0
theorem tb_5_ok (K : xKx) (hK : x_KP K) : ∀ pc, x_EOq cls K xJ mq_5 pc (tb_5 pc) := tb_5_0_ok K hK
def dl_6_0 : List (Nat × Instr × Nat) := [(0, .aload_n 0, 1), (1, .iconst 0, 1), (2, .putfield 132, 3), (5, .aload_n 0, 1), (6, .iconst (-1), 1), (7, .putfield 138, 3), (10, .aload_n 0, 1), (11, .iconst (-1), 1), (12, .putfield 155, 3), (15, .iconst 0, 1), (16, .istore_n 1, 1), (17, .iload_n 1, 1), (18, .bipush 6, 2), (20, .if_icmp .ge 19, 3), (23, .aload_n 0, 1), (24, .getfield 11, 3), (27, .iload_n 1, 1), (28, .aaload, 1), (29, .iconst 0, 1), (30, .putfield 126, 3), (33, .iinc 1 1, 3), (36, .goto (-19), 3), (39, .return_, 1)]
set_option maxRecDepth 20000 in
theorem dl_6_0_ok : dl_6_0.all (fun q => decide (decode prog_2_method_18_code q.1 = .ok (q.2.1, q.2.2))) = true := xa_g_ok (by decide +kernel)
def tb_6_0 : Nat → xE := (x_T 16 (x_T 6 (x_T 1 (x_T 0 (x_L 0 (0, xi_load 0 2 1, 0, 0)) (x_L 1 (0, xi_push (0, 0, 0) 2, 0, 0))) (x_T 2 (x_L 2 (0, xi_putf 0 11 0 5, 0, 0)) (x_T 5 (x_L 5 (0, xi_load 0 2 6, 0, 0)) (x_L 6 (0, xi_push (0, (-1), (-1)) 7, 0, 0))))) (x_T 11 (x_T 7 (x_L 7 (0, xi_putf 0 13 0 10, 0, 0)) (x_T 10 (x_L 10 (0, xi_load 0 2 11, 0, 0)) (x_L 11 (0, xi_push (0, (-1), (-1)) 12, 0, 0)))) (x_T 12 (x_L 12 (0, xi_putf 0 18 0 15, 0, 0)) (x_T 15 (x_L 15 (0, xi_push (0, 0, 0) 16, 0, 0)) (x_L 16 (0, xi_stor 1 0 17, 0, 0)))))) (x_T 27 (x_T 20 (x_T 17 (x_L 17 (0, xi_load 1 0 18, 0, 0)) (x_T 18 (x_L 18 (0, xi_push (0, 6, 6) 20, 0, 0)) (x_L 20 (0, xi_if2 3 39 23, 0, 0)))) (x_T 23 (x_L 23 (0, xi_load 0 2 24, 0, 0)) (x_T 24 (x_L 24 (0, xi_getf 0 0 27, 0, 0)) (x_L 27 (0, xi_load 1 0 28, 0, 0))))) (x_T 30 (x_T 28 (x_L 28 (0, xi_aald 29, 0, 0)) (x_T 29 (x_L 29 (0, xi_push (0, 0, 0) 30, 0, 0)) (x_L 30 (0, xi_putf 5 8 0 33, 0, 0)))) (x_T 33 (x_L 33 (0, xi_inc 1 1 36, 0, 0)) (x_T 36 (x_L 36 (0, xi_goto 17, 0, 0)) (x_L 39 (1, x_nof, 0, 0)))))))
set_option maxRecDepth 20000 in
set_option maxHeartbeats 4000000 in
theorem tb_6_0_ok (K : xKx) (hK : x_KP K) : ∀ pc, x_EOq cls K xJ mq_6 pc (tb_6_0 pc) :=
  (x_Tok2
  (x_Tok2
  (x_Tok2
  (x_Tok2
  (x_Lok (x_st (I := xJ) (xr_aload_n (i := 0) (x_dk dl_6_0_ok 0 rfl))))
  (x_Lok (x_st (I := xJ) (xr_iconst (n := 0) (z := 0) (v := 0) (x_dk dl_6_0_ok 1 rfl) (by decide) (by decide)))))
  (x_Tok2
  (x_Lok (x_st (I := xJ) (xr_putf (ci := 0) (k := 11) (ix := 132) (N := 20) (fk := 0) (C := RX0) (T := TX0) (ty0 := tyX0) (ty := .int) rfl in_X0 tyX0_ok nmX0 (by decide) (in_t2 (List.mem_of_getElem? (i := 177) rfl) rfl) rfl rfl x_fit_int (x_dk dl_6_0_ok 2 rfl))))
  (x_Tok2
  (x_Lok (x_st (I := xJ) (xr_aload_n (i := 0) (x_dk dl_6_0_ok 3 rfl))))
  (x_Lok (x_st (I := xJ) (xr_iconst (n := (-1)) (z := (-1)) (v := (-1)) (x_dk dl_6_0_ok 4 rfl) (by decide) (by decide)))))))
  (x_Tok2
  (x_Tok2
  (x_Lok (x_st (I := xJ) (xr_putf (ci := 0) (k := 13) (ix := 138) (N := 20) (fk := 0) (C := RX0) (T := TX0) (ty0 := tyX0) (ty := .int) rfl in_X0 tyX0_ok nmX0 (by decide) (in_t2 (List.mem_of_getElem? (i := 182) rfl) rfl) rfl rfl x_fit_int (x_dk dl_6_0_ok 5 rfl))))
  (x_Tok2
  (x_Lok (x_st (I := xJ) (xr_aload_n (i := 0) (x_dk dl_6_0_ok 6 rfl))))
  (x_Lok (x_st (I := xJ) (xr_iconst (n := (-1)) (z := (-1)) (v := (-1)) (x_dk dl_6_0_ok 7 rfl) (by decide) (by decide))))))
  (x_Tok2
  (x_Lok (x_st (I := xJ) (xr_putf (ci := 0) (k := 18) (ix := 155) (N := 20) (fk := 0) (C := RX0) (T := TX0) (ty0 := tyX0) (ty := .int) rfl in_X0 tyX0_ok nmX0 (by decide) (in_t2 (List.mem_of_getElem? (i := 197) rfl) rfl) rfl rfl x_fit_int (x_dk dl_6_0_ok 8 rfl))))
  (x_Tok2
  (x_Lok (x_st (I := xJ) (xr_iconst (n := 0) (z := 0) (v := 0) (x_dk dl_6_0_ok 9 rfl) (by decide) (by decide))))
  (x_Lok (x_st (I := xJ) (xr_istore_n (i := 1) (x_dk dl_6_0_ok 10 rfl) (by decide +kernel))))))))
  (x_Tok2
  (x_Tok2
  (x_Tok2
  (x_Lok (x_st (I := xJ) (xr_iload_n (i := 1) (x_dk dl_6_0_ok 11 rfl))))
  (x_Tok2
  (x_Lok (x_st (I := xJ) (xr_bipush (n := 6) (z := 6) (v := 6) (x_dk dl_6_0_ok 12 rfl) (by decide) (by decide))))
  (x_Lok (x_st (I := xJ) (xr_icmpge (off := 19) (tg := 39) (x_dk dl_6_0_ok 13 rfl) (by decide))))))
  (x_Tok2
  (x_Lok (x_st (I := xJ) (xr_aload_n (i := 0) (x_dk dl_6_0_ok 14 rfl))))
  (x_Tok2
  (x_Lok (x_st (I := xJ) (xr_getf (ci := 0) (k := 0) (ix := 11) (N := 20) (C := RX0) (T := TX0) rfl in_X0 (by decide) (in_t2 (List.mem_of_getElem? (i := 144) rfl) rfl) (x_dk dl_6_0_ok 15 rfl))))
  (x_Lok (x_st (I := xJ) (xr_iload_n (i := 1) (x_dk dl_6_0_ok 16 rfl)))))))
  (x_Tok2
  (x_Tok2
  (x_Lok (x_st (I := xJ) (xr_aaload (x_dk dl_6_0_ok 17 rfl))))
  (x_Tok2
  (x_Lok (x_st (I := xJ) (xr_iconst (n := 0) (z := 0) (v := 0) (x_dk dl_6_0_ok 18 rfl) (by decide) (by decide))))
  (x_Lok (x_st (I := xJ) (xr_putf (ci := 5) (k := 8) (ix := 126) (N := 12) (fk := 0) (C := RX5) (T := TX5) (ty0 := tyX5) (ty := .int) rfl in_X5 tyX5_ok nmX5 (by decide) (in_t2 (List.mem_of_getElem? (i := 110) rfl) rfl) rfl rfl x_fit_int (x_dk dl_6_0_ok 19 rfl))))))
  (x_Tok2
  (x_Lok (x_st (I := xJ) (xr_iinc (i := 1) (n := 1) (x_dk dl_6_0_ok 20 rfl) (by decide +kernel) (by decide))))
  (x_Tok2
  (x_Lok (x_st (I := xJ) (xr_goto (off := (-19)) (tg := 17) (x_dk dl_6_0_ok 21 rfl) (by decide))))
  (x_Lok (x_rt (I := xJ) (k := 0) ⟨(x_dk dl_6_0_ok 22 rfl), rfl⟩)))))))
def tb_6 : Nat → xE := tb_6_0
theorem tb_6_ok (K : xKx) (hK : x_KP K) : ∀ pc, x_EOq cls K xJ mq_6 pc (tb_6 pc) := tb_6_0_ok K hK
def dl_7_0 : List (Nat × Instr × Nat) := [(0, .aload_n 0, 1), (1, .invokespecial 3, 3), (4, .aload_n 0, 1), (5, .bipush 32, 2), (7, .newarray .int, 2), (9, .putfield 9, 3), (12, .aload_n 0, 1), (13, .sipush 4000, 3), (16, .newarray .int, 2), (18, .putfield 15, 3), (21, .return_, 1)]
set_option maxRecDepth 20000 in
theorem dl_7_0_ok : dl_7_0.all (fun q => decide (decode prog_3_method_1_code q.1 = .ok (q.2.1, q.2.2))) = true := xa_g_ok (by decide +kernel)
def tb_7_0 : Nat → xE := (x_T 7 (x_T 1 (x_T 0 (x_L 0 (0, xi_load 0 2 1, 0, 0)) (x_L 1 (0, xi_oi 4, 0, 0))) (x_T 4 (x_L 4 (0, xi_load 0 2 5, 0, 0)) (x_T 5 (x_L 5 (0, xi_push (0, 32, 32) 7, 0, 0)) (x_L 7 (0, xi_newa 1 0 (0, 0, 0) (xm_c mq_7) (xm_s mq_7) 9, 0, 0))))) (x_T 13 (x_T 9 (x_L 9 (0, xi_putf 1 3 2 12, 0, 0)) (x_T 12 (x_L 12 (0, xi_load 0 2 13, 0, 0)) (x_L 13 (0, xi_push (0, 4000, 4000) 16, 0, 0)))) (x_T 16 (x_L 16 (0, xi_newa 1 0 (0, 0, 0) (xm_c mq_7) (xm_s mq_7) 18, 0, 0)) (x_T 18 (x_L 18 (0, xi_putf 1 4 2 21, 0, 0)) (x_L 21 (1, x_nof, 0, 0))))))
set_option maxRecDepth 20000 in
set_option maxHeartbeats 4000000 in
theorem tb_7_0_ok (K : xKx) (hK : x_KP K) : ∀ pc, x_EOq cls K xJ mq_7 pc (tb_7_0 pc) :=
  (x_Tok2
  (x_Tok2
  (x_Tok2
  (x_Lok (x_st (I := xJ) (xr_aload_n (i := 0) (x_dk dl_7_0_ok 0 rfl))))
  (x_Lok (x_st (I := xJ) (xr_oi (ix := 3) (in_t1 (List.mem_of_getElem? (i := 40) rfl) rfl) (in_t1 (List.mem_of_getElem? (i := 27) rfl) rfl) (in_t1 (List.mem_of_getElem? (i := 28) rfl) rfl) (x_dk dl_7_0_ok 1 rfl)))))
  (x_Tok2
  (x_Lok (x_st (I := xJ) (xr_aload_n (i := 0) (x_dk dl_7_0_ok 2 rfl))))
  (x_Tok2
  (x_Lok (x_st (I := xJ) (xr_bipush (n := 32) (z := 32) (v := 32) (x_dk dl_7_0_ok 3 rfl) (by decide) (by decide))))
  (x_Lok (x_st (I := xJ) (xr_newa (kd := 1) (b := false) (ty := .int) rfl rfl (in_t1 (List.mem_of_getElem? (i := 64) rfl) rfl) (x_dk dl_7_0_ok 4 rfl)))))))
  (x_Tok2
  (x_Tok2
  (x_Lok (x_st (I := xJ) (xr_putF (ci := 1) (k := 3) (ix := 9) (N := 5) (fk := 2) (C := RX1) (T := TX1) (ty0 := tyX1) (ty := .array .int) rfl in_X1 tyX1_ok nmX1 (by decide) (in_t1 (List.mem_of_getElem? (i := 49) rfl) rfl) rfl rfl rfl rfl x_fit_arr (x_dk dl_7_0_ok 5 rfl))))
  (x_Tok2
  (x_Lok (x_st (I := xJ) (xr_aload_n (i := 0) (x_dk dl_7_0_ok 6 rfl))))
  (x_Lok (x_st (I := xJ) (xr_sipush (n := 4000) (z := 4000) (v := 4000) (x_dk dl_7_0_ok 7 rfl) (by decide) (by decide))))))
  (x_Tok2
  (x_Lok (x_st (I := xJ) (xr_newa (kd := 1) (b := false) (ty := .int) rfl rfl (in_t1 (List.mem_of_getElem? (i := 64) rfl) rfl) (x_dk dl_7_0_ok 8 rfl))))
  (x_Tok2
  (x_Lok (x_st (I := xJ) (xr_putF (ci := 1) (k := 4) (ix := 15) (N := 5) (fk := 2) (C := RX1) (T := TX1) (ty0 := tyX1) (ty := .array .int) rfl in_X1 tyX1_ok nmX1 (by decide) (in_t1 (List.mem_of_getElem? (i := 52) rfl) rfl) rfl rfl rfl rfl x_fit_arr (x_dk dl_7_0_ok 9 rfl))))
  (x_Lok (x_rt (I := xJ) (k := 0) ⟨(x_dk dl_7_0_ok 10 rfl), rfl⟩))))))
def tb_7 : Nat → xE := tb_7_0
theorem tb_7_ok (K : xKx) (hK : x_KP K) : ∀ pc, x_EOq cls K xJ mq_7 pc (tb_7 pc) := tb_7_0_ok K hK
def dl_8_0 : List (Nat × Instr × Nat) := [(0, .aload_n 0, 1), (1, .iconst 0, 1), (2, .putfield 18, 3), (5, .aload_n 0, 1), (6, .iconst 0, 1), (7, .putfield 22, 3), (10, .aload_n 0, 1), (11, .iconst 0, 1), (12, .putfield 25, 3), (15, .return_, 1)]
set_option maxRecDepth 20000 in
theorem dl_8_0_ok : dl_8_0.all (fun q => decide (decode prog_3_method_2_code q.1 = .ok (q.2.1, q.2.2))) = true := xa_g_ok (by decide +kernel)
def tb_8_0 : Nat → xE := (x_T 6 (x_T 1 (x_T 0 (x_L 0 (0, xi_load 0 2 1, 0, 0)) (x_L 1 (0, xi_push (0, 0, 0) 2, 0, 0))) (x_T 2 (x_L 2 (0, xi_putf 1 0 0 5, 0, 0)) (x_T 5 (x_L 5 (0, xi_load 0 2 6, 0, 0)) (x_L 6 (0, xi_push (0, 0, 0) 7, 0, 0))))) (x_T 10 (x_T 7 (x_L 7 (0, xi_putf 1 1 0 10, 0, 0)) (x_L 10 (0, xi_load 0 2 11, 0, 0))) (x_T 11 (x_L 11 (0, xi_push (0, 0, 0) 12, 0, 0)) (x_T 12 (x_L 12 (0, xi_putf 1 2 0 15, 0, 0)) (x_L 15 (1, x_nof, 0, 0))))))
set_option maxRecDepth 20000 in
set_option maxHeartbeats 4000000 in
theorem tb_8_0_ok (K : xKx) (hK : x_KP K) : ∀ pc, x_EOq cls K xJ mq_8 pc (tb_8_0 pc) :=
  (x_Tok2
  (x_Tok2
  (x_Tok2
  (x_Lok (x_st (I := xJ) (xr_aload_n (i := 0) (x_dk dl_8_0_ok 0 rfl))))
  (x_Lok (x_st (I := xJ) (xr_iconst (n := 0) (z := 0) (v := 0) (x_dk dl_8_0_ok 1 rfl) (by decide) (by decide)))))
  (x_Tok2
  (x_Lok (x_st (I := xJ) (xr_putf (ci := 1) (k := 0) (ix := 18) (N := 5) (fk := 0) (C := RX1) (T := TX1) (ty0 := tyX1) (ty := .int) rfl in_X1 tyX1_ok nmX1 (by decide) (in_t1 (List.mem_of_getElem? (i := 41) rfl) rfl) rfl rfl x_fit_int (x_dk dl_8_0_ok 2 rfl))))
  (x_Tok2
  (x_Lok (x_st (I := xJ) (xr_aload_n (i := 0) (x_dk dl_8_0_ok 3 rfl))))
  (x_Lok (x_st (I := xJ) (xr_iconst (n := 0) (z := 0) (v := 0) (x_dk dl_8_0_ok 4 rfl) (by decide) (by decide)))))))
  (x_Tok2
  (x_Tok2
  (x_Lok (x_st (I := xJ) (xr_putf (ci := 1) (k := 1) (ix := 22) (N := 5) (fk := 0) (C := RX1) (T := TX1) (ty0 := tyX1) (ty := .int) rfl in_X1 tyX1_ok nmX1 (by decide) (in_t1 (List.mem_of_getElem? (i := 43) rfl) rfl) rfl rfl x_fit_int (x_dk dl_8_0_ok 5 rfl))))
  (x_Lok (x_st (I := xJ) (xr_aload_n (i := 0) (x_dk dl_8_0_ok 6 rfl)))))
  (x_Tok2
  (x_Lok (x_st (I := xJ) (xr_iconst (n := 0) (z := 0) (v := 0) (x_dk dl_8_0_ok 7 rfl) (by decide) (by decide))))
  (x_Tok2
  (x_Lok (x_st (I := xJ) (xr_putf (ci := 1) (k := 2) (ix := 25) (N := 5) (fk := 0) (C := RX1) (T := TX1) (ty0 := tyX1) (ty := .int) rfl in_X1 tyX1_ok nmX1 (by decide) (in_t1 (List.mem_of_getElem? (i := 46) rfl) rfl) rfl rfl x_fit_int (x_dk dl_8_0_ok 8 rfl))))
  (x_Lok (x_rt (I := xJ) (k := 0) ⟨(x_dk dl_8_0_ok 9 rfl), rfl⟩))))))
def tb_8 : Nat → xE := tb_8_0
theorem tb_8_ok (K : xKx) (hK : x_KP K) : ∀ pc, x_EOq cls K xJ mq_8 pc (tb_8 pc) := tb_8_0_ok K hK
def dl_9_0 : List (Nat × Instr × Nat) := [(0, .aload_n 0, 1), (1, .invokespecial 3, 3), (4, .aload_n 0, 1), (5, .sipush 8000, 3), (8, .newarray .int, 2), (10, .putfield 11, 3), (13, .aload_n 0, 1), (14, .bipush 8, 2), (16, .newarray .int, 2), (18, .putfield 15, 3), (21, .aload_n 0, 1), (22, .bipush 8, 2), (24, .newarray .boolean, 2), (26, .putfield 18, 3), (29, .aload_n 0, 1), (30, .bipush 8, 2), (32, .newarray .boolean, 2), (34, .putfield 22, 3), (37, .aload_n 0, 1), (38, .bipush 8, 2), (40, .newarray .boolean, 2), (42, .putfield 25, 3), (45, .aload_n 0, 1), (46, .bipush 8, 2), (48, .newarray .boolean, 2), (50, .putfield 28, 3), (53, .aload_n 0, 1), (54, .bipush 8, 2), (56, .newarray .int, 2), (58, .putfield 31, 3), (61, .return_, 1)]
set_option maxRecDepth 20000 in
theorem dl_9_0_ok : dl_9_0.all (fun q => decide (decode prog_4_method_1_code q.1 = .ok (q.2.1, q.2.2))) = true := xa_g_ok (by decide +kernel)
def tb_9_0 : Nat → xE := (x_T 29 (x_T 13 (x_T 4 (x_T 0 (x_L 0 (0, xi_load 0 2 1, 0, 0)) (x_T 1 (x_L 1 (0, xi_oi 4, 0, 0)) (x_L 4 (0, xi_load 0 2 5, 0, 0)))) (x_T 8 (x_T 5 (x_L 5 (0, xi_push (0, 8000, 8000) 8, 0, 0)) (x_L 8 (0, xi_newa 1 0 (0, 0, 0) (xm_c mq_9) (xm_s mq_9) 10, 0, 0))) (x_T 10 (x_L 10 (0, xi_putf 2 8 2 13, 0, 0)) (x_L 13 (0, xi_load 0 2 14, 0, 0))))) (x_T 21 (x_T 16 (x_T 14 (x_L 14 (0, xi_push (0, 8, 8) 16, 0, 0)) (x_L 16 (0, xi_newa 1 0 (0, 0, 0) (xm_c mq_9) (xm_s mq_9) 18, 0, 0))) (x_T 18 (x_L 18 (0, xi_putf 2 9 2 21, 0, 0)) (x_L 21 (0, xi_load 0 2 22, 0, 0)))) (x_T 24 (x_T 22 (x_L 22 (0, xi_push (0, 8, 8) 24, 0, 0)) (x_L 24 (0, xi_newa 3 0 (0, 0, 0) (xm_c mq_9) (xm_s mq_9) 26, 0, 0))) (x_T 26 (x_L 26 (0, xi_putf 2 10 2 29, 0, 0)) (x_L 29 (0, xi_load 0 2 30, 0, 0)))))) (x_T 45 (x_T 37 (x_T 32 (x_T 30 (x_L 30 (0, xi_push (0, 8, 8) 32, 0, 0)) (x_L 32 (0, xi_newa 3 0 (0, 0, 0) (xm_c mq_9) (xm_s mq_9) 34, 0, 0))) (x_T 34 (x_L 34 (0, xi_putf 2 11 2 37, 0, 0)) (x_L 37 (0, xi_load 0 2 38, 0, 0)))) (x_T 40 (x_T 38 (x_L 38 (0, xi_push (0, 8, 8) 40, 0, 0)) (x_L 40 (0, xi_newa 3 0 (0, 0, 0) (xm_c mq_9) (xm_s mq_9) 42, 0, 0))) (x_T 42 (x_L 42 (0, xi_putf 2 12 2 45, 0, 0)) (x_L 45 (0, xi_load 0 2 46, 0, 0))))) (x_T 53 (x_T 48 (x_T 46 (x_L 46 (0, xi_push (0, 8, 8) 48, 0, 0)) (x_L 48 (0, xi_newa 3 0 (0, 0, 0) (xm_c mq_9) (xm_s mq_9) 50, 0, 0))) (x_T 50 (x_L 50 (0, xi_putf 2 13 2 53, 0, 0)) (x_L 53 (0, xi_load 0 2 54, 0, 0)))) (x_T 56 (x_T 54 (x_L 54 (0, xi_push (0, 8, 8) 56, 0, 0)) (x_L 56 (0, xi_newa 1 0 (0, 0, 0) (xm_c mq_9) (xm_s mq_9) 58, 0, 0))) (x_T 58 (x_L 58 (0, xi_putf 2 14 2 61, 0, 0)) (x_L 61 (1, x_nof, 0, 0)))))))
set_option maxRecDepth 20000 in
set_option maxHeartbeats 4000000 in
theorem tb_9_0_ok (K : xKx) (hK : x_KP K) : ∀ pc, x_EOq cls K xJ mq_9 pc (tb_9_0 pc) :=
  (x_Tok2
  (x_Tok2
  (x_Tok2
  (x_Tok2
  (x_Lok (x_st (I := xJ) (xr_aload_n (i := 0) (x_dk dl_9_0_ok 0 rfl))))
  (x_Tok2
  (x_Lok (x_st (I := xJ) (xr_oi (ix := 3) (in_t2 (List.mem_of_getElem? (i := 11) rfl) rfl) (in_t1 (List.mem_of_getElem? (i := 27) rfl) rfl) (in_t1 (List.mem_of_getElem? (i := 28) rfl) rfl) (x_dk dl_9_0_ok 1 rfl))))
  (x_Lok (x_st (I := xJ) (xr_aload_n (i := 0) (x_dk dl_9_0_ok 2 rfl))))))
  (x_Tok2
  (x_Tok2
  (x_Lok (x_st (I := xJ) (xr_sipush (n := 8000) (z := 8000) (v := 8000) (x_dk dl_9_0_ok 3 rfl) (by decide) (by decide))))
  (x_Lok (x_st (I := xJ) (xr_newa (kd := 1) (b := false) (ty := .int) rfl rfl (in_t1 (List.mem_of_getElem? (i := 64) rfl) rfl) (x_dk dl_9_0_ok 4 rfl)))))
  (x_Tok2
  (x_Lok (x_st (I := xJ) (xr_putF (ci := 2) (k := 8) (ix := 11) (N := 15) (fk := 2) (C := RX2) (T := TX2) (ty0 := tyX2) (ty := .array .int) rfl in_X2 tyX2_ok nmX2 (by decide) (in_t2 (List.mem_of_getElem? (i := 31) rfl) rfl) rfl rfl rfl rfl x_fit_arr (x_dk dl_9_0_ok 5 rfl))))
  (x_Lok (x_st (I := xJ) (xr_aload_n (i := 0) (x_dk dl_9_0_ok 6 rfl)))))))
  (x_Tok2
  (x_Tok2
  (x_Tok2
  (x_Lok (x_st (I := xJ) (xr_bipush (n := 8) (z := 8) (v := 8) (x_dk dl_9_0_ok 7 rfl) (by decide) (by decide))))
  (x_Lok (x_st (I := xJ) (xr_newa (kd := 1) (b := false) (ty := .int) rfl rfl (in_t1 (List.mem_of_getElem? (i := 64) rfl) rfl) (x_dk dl_9_0_ok 8 rfl)))))
  (x_Tok2
  (x_Lok (x_st (I := xJ) (xr_putF (ci := 2) (k := 9) (ix := 15) (N := 15) (fk := 2) (C := RX2) (T := TX2) (ty0 := tyX2) (ty := .array .int) rfl in_X2 tyX2_ok nmX2 (by decide) (in_t2 (List.mem_of_getElem? (i := 33) rfl) rfl) rfl rfl rfl rfl x_fit_arr (x_dk dl_9_0_ok 9 rfl))))
  (x_Lok (x_st (I := xJ) (xr_aload_n (i := 0) (x_dk dl_9_0_ok 10 rfl))))))
  (x_Tok2
  (x_Tok2
  (x_Lok (x_st (I := xJ) (xr_bipush (n := 8) (z := 8) (v := 8) (x_dk dl_9_0_ok 11 rfl) (by decide) (by decide))))
  (x_Lok (x_st (I := xJ) (xr_newa (kd := 3) (b := true) (ty := .boolean) rfl rfl (in_t1 (List.mem_of_getElem? (i := 166) rfl) rfl) (x_dk dl_9_0_ok 12 rfl)))))
  (x_Tok2
  (x_Lok (x_st (I := xJ) (xr_putF (ci := 2) (k := 10) (ix := 18) (N := 15) (fk := 2) (C := RX2) (T := TX2) (ty0 := tyX2) (ty := .array .boolean) rfl in_X2 tyX2_ok nmX2 (by decide) (in_t2 (List.mem_of_getElem? (i := 35) rfl) rfl) rfl rfl rfl rfl x_fit_arr (x_dk dl_9_0_ok 13 rfl))))
  (x_Lok (x_st (I := xJ) (xr_aload_n (i := 0) (x_dk dl_9_0_ok 14 rfl))))))))
  (x_Tok2
  (x_Tok2
  (x_Tok2
  (x_Tok2
  (x_Lok (x_st (I := xJ) (xr_bipush (n := 8) (z := 8) (v := 8) (x_dk dl_9_0_ok 15 rfl) (by decide) (by decide))))
  (x_Lok (x_st (I := xJ) (xr_newa (kd := 3) (b := true) (ty := .boolean) rfl rfl (in_t1 (List.mem_of_getElem? (i := 166) rfl) rfl) (x_dk dl_9_0_ok 16 rfl)))))
  (x_Tok2
  (x_Lok (x_st (I := xJ) (xr_putF (ci := 2) (k := 11) (ix := 22) (N := 15) (fk := 2) (C := RX2) (T := TX2) (ty0 := tyX2) (ty := .array .boolean) rfl in_X2 tyX2_ok nmX2 (by decide) (in_t2 (List.mem_of_getElem? (i := 37) rfl) rfl) rfl rfl rfl rfl x_fit_arr (x_dk dl_9_0_ok 17 rfl))))
  (x_Lok (x_st (I := xJ) (xr_aload_n (i := 0) (x_dk dl_9_0_ok 18 rfl))))))
  (x_Tok2
  (x_Tok2
  (x_Lok (x_st (I := xJ) (xr_bipush (n := 8) (z := 8) (v := 8) (x_dk dl_9_0_ok 19 rfl) (by decide) (by decide))))
  (x_Lok (x_st (I := xJ) (xr_newa (kd := 3) (b := true) (ty := .boolean) rfl rfl (in_t1 (List.mem_of_getElem? (i := 166) rfl) rfl) (x_dk dl_9_0_ok 20 rfl)))))
  (x_Tok2
  (x_Lok (x_st (I := xJ) (xr_putF (ci := 2) (k := 12) (ix := 25) (N := 15) (fk := 2) (C := RX2) (T := TX2) (ty0 := tyX2) (ty := .array .boolean) rfl in_X2 tyX2_ok nmX2 (by decide) (in_t2 (List.mem_of_getElem? (i := 38) rfl) rfl) rfl rfl rfl rfl x_fit_arr (x_dk dl_9_0_ok 21 rfl))))
  (x_Lok (x_st (I := xJ) (xr_aload_n (i := 0) (x_dk dl_9_0_ok 22 rfl)))))))
  (x_Tok2
  (x_Tok2
  (x_Tok2
  (x_Lok (x_st (I := xJ) (xr_bipush (n := 8) (z := 8) (v := 8) (x_dk dl_9_0_ok 23 rfl) (by decide) (by decide))))
  (x_Lok (x_st (I := xJ) (xr_newa (kd := 3) (b := true) (ty := .boolean) rfl rfl (in_t1 (List.mem_of_getElem? (i := 166) rfl) rfl) (x_dk dl_9_0_ok 24 rfl)))))
  (x_Tok2
  (x_Lok (x_st (I := xJ) (xr_putF (ci := 2) (k := 13) (ix := 28) (N := 15) (fk := 2) (C := RX2) (T := TX2) (ty0 := tyX2) (ty := .array .boolean) rfl in_X2 tyX2_ok nmX2 (by decide) (in_t2 (List.mem_of_getElem? (i := 39) rfl) rfl) rfl rfl rfl rfl x_fit_arr (x_dk dl_9_0_ok 25 rfl))))
  (x_Lok (x_st (I := xJ) (xr_aload_n (i := 0) (x_dk dl_9_0_ok 26 rfl))))))
  (x_Tok2
  (x_Tok2
  (x_Lok (x_st (I := xJ) (xr_bipush (n := 8) (z := 8) (v := 8) (x_dk dl_9_0_ok 27 rfl) (by decide) (by decide))))
  (x_Lok (x_st (I := xJ) (xr_newa (kd := 1) (b := false) (ty := .int) rfl rfl (in_t1 (List.mem_of_getElem? (i := 64) rfl) rfl) (x_dk dl_9_0_ok 28 rfl)))))
  (x_Tok2
  (x_Lok (x_st (I := xJ) (xr_putF (ci := 2) (k := 14) (ix := 31) (N := 15) (fk := 2) (C := RX2) (T := TX2) (ty0 := tyX2) (ty := .array .int) rfl in_X2 tyX2_ok nmX2 (by decide) (in_t2 (List.mem_of_getElem? (i := 40) rfl) rfl) rfl rfl rfl rfl x_fit_arr (x_dk dl_9_0_ok 29 rfl))))
  (x_Lok (x_rt (I := xJ) (k := 0) ⟨(x_dk dl_9_0_ok 30 rfl), rfl⟩)))))))
def tb_9 : Nat → xE := tb_9_0
theorem tb_9_ok (K : xKx) (hK : x_KP K) : ∀ pc, x_EOq cls K xJ mq_9 pc (tb_9 pc) := tb_9_0_ok K hK
def dl_10_0 : List (Nat × Instr × Nat) := [(0, .aload_n 0, 1), (1, .iconst 0, 1), (2, .putfield 34, 3), (5, .iconst 0, 1), (6, .istore_n 1, 1), (7, .iload_n 1, 1), (8, .bipush 8, 2), (10, .if_icmp .ge 16, 3), (13, .aload_n 0, 1), (14, .getfield 18, 3), (17, .iload_n 1, 1), (18, .iconst 0, 1), (19, .bastore, 1), (20, .iinc 1 1, 3), (23, .goto (-16), 3), (26, .return_, 1)]
set_option maxRecDepth 20000 in
theorem dl_10_0_ok : dl_10_0.all (fun q => decide (decode prog_4_method_2_code q.1 = .ok (q.2.1, q.2.2))) = true := xa_g_ok (by decide +kernel)
def tb_10_0 : Nat → xE := (x_T 10 (x_T 5 (x_T 1 (x_T 0 (x_L 0 (0, xi_load 0 2 1, 0, 0)) (x_L 1 (0, xi_push (0, 0, 0) 2, 0, 0))) (x_T 2 (x_L 2 (0, xi_putf 2 2 0 5, 0, 0)) (x_L 5 (0, xi_push (0, 0, 0) 6, 0, 0)))) (x_T 7 (x_T 6 (x_L 6 (0, xi_stor 1 0 7, 0, 0)) (x_L 7 (0, xi_load 1 0 8, 0, 0))) (x_T 8 (x_L 8 (0, xi_push (0, 8, 8) 10, 0, 0)) (x_L 10 (0, xi_if2 3 26 13, 0, 0))))) (x_T 18 (x_T 14 (x_T 13 (x_L 13 (0, xi_load 0 2 14, 0, 0)) (x_L 14 (0, xi_getf 2 10 17, 0, 0))) (x_T 17 (x_L 17 (0, xi_load 1 0 18, 0, 0)) (x_L 18 (0, xi_push (0, 0, 0) 19, 0, 0)))) (x_T 20 (x_T 19 (x_L 19 (0, xi_ast true 20, 0, 0)) (x_L 20 (0, xi_inc 1 1 23, 0, 0))) (x_T 23 (x_L 23 (0, xi_goto 7, 0, 0)) (x_L 26 (1, x_nof, 0, 0))))))
set_option maxRecDepth 20000 in
set_option maxHeartbeats 4000000 in
theorem tb_10_0_ok (K : xKx) (hK : x_KP K) : ∀ pc, x_EOq cls K xJ mq_10 pc (tb_10_0 pc) :=
  (x_Tok2
  (x_Tok2
  (x_Tok2
  (x_Tok2
  (x_Lok (x_st (I := xJ) (xr_aload_n (i := 0) (x_dk dl_10_0_ok 0 rfl))))
  (x_Lok (x_st (I := xJ) (xr_iconst (n := 0) (z := 0) (v := 0) (x_dk dl_10_0_ok 1 rfl) (by decide) (by decide)))))
  (x_Tok2
  (x_Lok (x_st (I := xJ) (xr_putf (ci := 2) (k := 2) (ix := 34) (N := 15) (fk := 0) (C := RX2) (T := TX2) (ty0 := tyX2) (ty := .int) rfl in_X2 tyX2_ok nmX2 (by decide) (in_t2 (List.mem_of_getElem? (i := 17) rfl) rfl) rfl rfl x_fit_int (x_dk dl_10_0_ok 2 rfl))))
  (x_Lok (x_st (I := xJ) (xr_iconst (n := 0) (z := 0) (v := 0) (x_dk dl_10_0_ok 3 rfl) (by decide) (by decide))))))
  (x_Tok2
  (x_Tok2
  (x_Lok (x_st (I := xJ) (xr_istore_n (i := 1) (x_dk dl_10_0_ok 4 rfl) (by decide +kernel))))
  (x_Lok (x_st (I := xJ) (xr_iload_n (i := 1) (x_dk dl_10_0_ok 5 rfl)))))
  (x_Tok2
  (x_Lok (x_st (I := xJ) (xr_bipush (n := 8) (z := 8) (v := 8) (x_dk dl_10_0_ok 6 rfl) (by decide) (by decide))))
  (x_Lok (x_st (I := xJ) (xr_icmpge (off := 16) (tg := 26) (x_dk dl_10_0_ok 7 rfl) (by decide)))))))
  (x_Tok2
  (x_Tok2
  (x_Tok2
  (x_Lok (x_st (I := xJ) (xr_aload_n (i := 0) (x_dk dl_10_0_ok 8 rfl))))
  (x_Lok (x_st (I := xJ) (xr_getf (ci := 2) (k := 10) (ix := 18) (N := 15) (C := RX2) (T := TX2) rfl in_X2 (by decide) (in_t2 (List.mem_of_getElem? (i := 35) rfl) rfl) (x_dk dl_10_0_ok 9 rfl)))))
  (x_Tok2
  (x_Lok (x_st (I := xJ) (xr_iload_n (i := 1) (x_dk dl_10_0_ok 10 rfl))))
  (x_Lok (x_st (I := xJ) (xr_iconst (n := 0) (z := 0) (v := 0) (x_dk dl_10_0_ok 11 rfl) (by decide) (by decide))))))
  (x_Tok2
  (x_Tok2
  (x_Lok (x_st (I := xJ) (xr_bastore (x_dk dl_10_0_ok 12 rfl))))
  (x_Lok (x_st (I := xJ) (xr_iinc (i := 1) (n := 1) (x_dk dl_10_0_ok 13 rfl) (by decide +kernel) (by decide)))))
  (x_Tok2
  (x_Lok (x_st (I := xJ) (xr_goto (off := (-16)) (tg := 7) (x_dk dl_10_0_ok 14 rfl) (by decide))))
  (x_Lok (x_rt (I := xJ) (k := 0) ⟨(x_dk dl_10_0_ok 15 rfl), rfl⟩))))))
def tb_10 : Nat → xE := tb_10_0
theorem tb_10_ok (K : xKx) (hK : x_KP K) : ∀ pc, x_EOq cls K xJ mq_10 pc (tb_10 pc) := tb_10_0_ok K hK
def dl_11_0 : List (Nat × Instr × Nat) := [(0, .aload_n 0, 1), (1, .iconst 0, 1), (2, .putfield 38, 3), (5, .aload_n 0, 1), (6, .iconst 0, 1), (7, .putfield 41, 3), (10, .aload_n 0, 1), (11, .iconst 0, 1), (12, .putfield 44, 3), (15, .aload_n 0, 1), (16, .iconst 0, 1), (17, .putfield 48, 3), (20, .aload_n 0, 1), (21, .iconst 0, 1), (22, .putfield 51, 3), (25, .aload_n 0, 1), (26, .iconst 0, 1), (27, .putfield 54, 3), (30, .aload_n 0, 1), (31, .iconst 0, 1), (32, .putfield 57, 3), (35, .iconst 0, 1), (36, .istore_n 1, 1), (37, .iload_n 1, 1), (38, .bipush 8, 2), (40, .if_icmp .ge 37, 3), (43, .aload_n 0, 1), (44, .getfield 22, 3), (47, .iload_n 1, 1), (48, .iconst 1, 1), (49, .bastore, 1), (50, .aload_n 0, 1), (51, .getfield 25, 3), (54, .iload_n 1, 1), (55, .iconst 1, 1), (56, .bastore, 1), (57, .aload_n 0, 1), (58, .getfield 28, 3), (61, .iload_n 1, 1), (62, .iconst 0, 1), (63, .bastore, 1), (64, .aload_n 0, 1), (65, .getfield 31, 3), (68, .iload_n 1, 1), (69, .iconst 0, 1), (70, .iastore, 1), (71, .iinc 1 1, 3), (74, .goto (-37), 3), (77, .return_, 1)]
set_option maxRecDepth 20000 in
theorem dl_11_0_ok : dl_11_0.all (fun q => decide (decode prog_4_method_3_code q.1 = .ok (q.2.1, q.2.2))) = true := xa_g_ok (by decide +kernel)
def tb_11_0 : Nat → xE := (x_T 17 (x_T 7 (x_T 2 (x_T 0 (x_L 0 (0, xi_load 0 2 1, 0, 0)) (x_T 1 (x_L 1 (0, xi_push (0, 0, 0) 2, 0, 0)) (x_L 2 (0, xi_putf 2 0 0 5, 0, 0)))) (x_T 5 (x_L 5 (0, xi_load 0 2 6, 0, 0)) (x_T 6 (x_L 6 (0, xi_push (0, 0, 0) 7, 0, 0)) (x_L 7 (0, xi_putf 2 1 0 10, 0, 0))))) (x_T 12 (x_T 10 (x_L 10 (0, xi_load 0 2 11, 0, 0)) (x_T 11 (x_L 11 (0, xi_push (0, 0, 0) 12, 0, 0)) (x_L 12 (0, xi_putf 2 3 1 15, 0, 0)))) (x_T 15 (x_L 15 (0, xi_load 0 2 16, 0, 0)) (x_T 16 (x_L 16 (0, xi_push (0, 0, 0) 17, 0, 0)) (x_L 17 (0, xi_putf 2 4 0 20, 0, 0)))))) (x_T 27 (x_T 22 (x_T 20 (x_L 20 (0, xi_load 0 2 21, 0, 0)) (x_T 21 (x_L 21 (0, xi_push (0, 0, 0) 22, 0, 0)) (x_L 22 (0, xi_putf 2 5 0 25, 0, 0)))) (x_T 25 (x_L 25 (0, xi_load 0 2 26, 0, 0)) (x_T 26 (x_L 26 (0, xi_push (0, 0, 0) 27, 0, 0)) (x_L 27 (0, xi_putf 2 6 0 30, 0, 0))))) (x_T 32 (x_T 30 (x_L 30 (0, xi_load 0 2 31, 0, 0)) (x_T 31 (x_L 31 (0, xi_push (0, 0, 0) 32, 0, 0)) (x_L 32 (0, xi_putf 2 7 1 35, 0, 0)))) (x_T 35 (x_L 35 (0, xi_push (0, 0, 0) 36, 0, 0)) (x_T 36 (x_L 36 (0, xi_stor 1 0 37, 0, 0)) (x_L 37 (0, xi_load 1 0 38, 0, 0)))))))
set_option maxRecDepth 20000 in
set_option maxHeartbeats 4000000 in
theorem tb_11_0_ok (K : xKx) (hK : x_KP K) : ∀ pc, x_EOq cls K xJ mq_11 pc (tb_11_0 pc) :=
  (x_Tok2
  (x_Tok2
  (x_Tok2
  (x_Tok2
  (x_Lok (x_st (I := xJ) (xr_aload_n (i := 0) (x_dk dl_11_0_ok 0 rfl))))
  (x_Tok2
  (x_Lok (x_st (I := xJ) (xr_iconst (n := 0) (z := 0) (v := 0) (x_dk dl_11_0_ok 1 rfl) (by decide) (by decide))))
  (x_Lok (x_st (I := xJ) (xr_putf (ci := 2) (k := 0) (ix := 38) (N := 15) (fk := 0) (C := RX2) (T := TX2) (ty0 := tyX2) (ty := .int) rfl in_X2 tyX2_ok nmX2 (by decide) (in_t2 (List.mem_of_getElem? (i := 12) rfl) rfl) rfl rfl x_fit_int (x_dk dl_11_0_ok 2 rfl))))))
  (x_Tok2
  (x_Lok (x_st (I := xJ) (xr_aload_n (i := 0) (x_dk dl_11_0_ok 3 rfl))))
  (x_Tok2
  (x_Lok (x_st (I := xJ) (xr_iconst (n := 0) (z := 0) (v := 0) (x_dk dl_11_0_ok 4 rfl) (by decide) (by decide))))
  (x_Lok (x_st (I := xJ) (xr_putf (ci := 2) (k := 1) (ix := 41) (N := 15) (fk := 0) (C := RX2) (T := TX2) (ty0 := tyX2) (ty := .int) rfl in_X2 tyX2_ok nmX2 (by decide) (in_t2 (List.mem_of_getElem? (i := 15) rfl) rfl) rfl rfl x_fit_int (x_dk dl_11_0_ok 5 rfl)))))))
  (x_Tok2
  (x_Tok2
  (x_Lok (x_st (I := xJ) (xr_aload_n (i := 0) (x_dk dl_11_0_ok 6 rfl))))
  (x_Tok2
  (x_Lok (x_st (I := xJ) (xr_iconst (n := 0) (z := 0) (v := 0) (x_dk dl_11_0_ok 7 rfl) (by decide) (by decide))))
  (x_Lok (x_st (I := xJ) (xr_putf (ci := 2) (k := 3) (ix := 44) (N := 15) (fk := 1) (C := RX2) (T := TX2) (ty0 := tyX2) (ty := .boolean) rfl in_X2 tyX2_ok nmX2 (by decide) (in_t2 (List.mem_of_getElem? (i := 19) rfl) rfl) rfl rfl x_fit_bool (x_dk dl_11_0_ok 8 rfl))))))
  (x_Tok2
  (x_Lok (x_st (I := xJ) (xr_aload_n (i := 0) (x_dk dl_11_0_ok 9 rfl))))
  (x_Tok2
  (x_Lok (x_st (I := xJ) (xr_iconst (n := 0) (z := 0) (v := 0) (x_dk dl_11_0_ok 10 rfl) (by decide) (by decide))))
  (x_Lok (x_st (I := xJ) (xr_putf (ci := 2) (k := 4) (ix := 48) (N := 15) (fk := 0) (C := RX2) (T := TX2) (ty0 := tyX2) (ty := .int) rfl in_X2 tyX2_ok nmX2 (by decide) (in_t2 (List.mem_of_getElem? (i := 22) rfl) rfl) rfl rfl x_fit_int (x_dk dl_11_0_ok 11 rfl))))))))
  (x_Tok2
  (x_Tok2
  (x_Tok2
  (x_Lok (x_st (I := xJ) (xr_aload_n (i := 0) (x_dk dl_11_0_ok 12 rfl))))
  (x_Tok2
  (x_Lok (x_st (I := xJ) (xr_iconst (n := 0) (z := 0) (v := 0) (x_dk dl_11_0_ok 13 rfl) (by decide) (by decide))))
  (x_Lok (x_st (I := xJ) (xr_putf (ci := 2) (k := 5) (ix := 51) (N := 15) (fk := 0) (C := RX2) (T := TX2) (ty0 := tyX2) (ty := .int) rfl in_X2 tyX2_ok nmX2 (by decide) (in_t2 (List.mem_of_getElem? (i := 24) rfl) rfl) rfl rfl x_fit_int (x_dk dl_11_0_ok 14 rfl))))))
  (x_Tok2
  (x_Lok (x_st (I := xJ) (xr_aload_n (i := 0) (x_dk dl_11_0_ok 15 rfl))))
  (x_Tok2
  (x_Lok (x_st (I := xJ) (xr_iconst (n := 0) (z := 0) (v := 0) (x_dk dl_11_0_ok 16 rfl) (by decide) (by decide))))
  (x_Lok (x_st (I := xJ) (xr_putf (ci := 2) (k := 6) (ix := 54) (N := 15) (fk := 0) (C := RX2) (T := TX2) (ty0 := tyX2) (ty := .int) rfl in_X2 tyX2_ok nmX2 (by decide) (in_t2 (List.mem_of_getElem? (i := 26) rfl) rfl) rfl rfl x_fit_int (x_dk dl_11_0_ok 17 rfl)))))))
  (x_Tok2
  (x_Tok2
  (x_Lok (x_st (I := xJ) (xr_aload_n (i := 0) (x_dk dl_11_0_ok 18 rfl))))
  (x_Tok2
  (x_Lok (x_st (I := xJ) (xr_iconst (n := 0) (z := 0) (v := 0) (x_dk dl_11_0_ok 19 rfl) (by decide) (by decide))))
  (x_Lok (x_st (I := xJ) (xr_putf (ci := 2) (k := 7) (ix := 57) (N := 15) (fk := 1) (C := RX2) (T := TX2) (ty0 := tyX2) (ty := .boolean) rfl in_X2 tyX2_ok nmX2 (by decide) (in_t2 (List.mem_of_getElem? (i := 28) rfl) rfl) rfl rfl x_fit_bool (x_dk dl_11_0_ok 20 rfl))))))
  (x_Tok2
  (x_Lok (x_st (I := xJ) (xr_iconst (n := 0) (z := 0) (v := 0) (x_dk dl_11_0_ok 21 rfl) (by decide) (by decide))))
  (x_Tok2
  (x_Lok (x_st (I := xJ) (xr_istore_n (i := 1) (x_dk dl_11_0_ok 22 rfl) (by decide +kernel))))
  (x_Lok (x_st (I := xJ) (xr_iload_n (i := 1) (x_dk dl_11_0_ok 23 rfl)))))))))
def tb_11_24 : Nat → xE := (x_T 56 (x_T 48 (x_T 43 (x_T 38 (x_L 38 (0, xi_push (0, 8, 8) 40, 0, 0)) (x_T 40 (x_L 40 (0, xi_if2 3 77 43, 0, 0)) (x_L 43 (0, xi_load 0 2 44, 0, 0)))) (x_T 44 (x_L 44 (0, xi_getf 2 11 47, 0, 0)) (x_T 47 (x_L 47 (0, xi_load 1 0 48, 0, 0)) (x_L 48 (0, xi_push (0, 1, 1) 49, 0, 0))))) (x_T 51 (x_T 49 (x_L 49 (0, xi_ast true 50, 0, 0)) (x_T 50 (x_L 50 (0, xi_load 0 2 51, 0, 0)) (x_L 51 (0, xi_getf 2 12 54, 0, 0)))) (x_T 54 (x_L 54 (0, xi_load 1 0 55, 0, 0)) (x_T 55 (x_L 55 (0, xi_push (0, 1, 1) 56, 0, 0)) (x_L 56 (0, xi_ast true 57, 0, 0)))))) (x_T 64 (x_T 61 (x_T 57 (x_L 57 (0, xi_load 0 2 58, 0, 0)) (x_T 58 (x_L 58 (0, xi_getf 2 13 61, 0, 0)) (x_L 61 (0, xi_load 1 0 62, 0, 0)))) (x_T 62 (x_L 62 (0, xi_push (0, 0, 0) 63, 0, 0)) (x_T 63 (x_L 63 (0, xi_ast true 64, 0, 0)) (x_L 64 (0, xi_load 0 2 65, 0, 0))))) (x_T 69 (x_T 65 (x_L 65 (0, xi_getf 2 14 68, 0, 0)) (x_T 68 (x_L 68 (0, xi_load 1 0 69, 0, 0)) (x_L 69 (0, xi_push (0, 0, 0) 70, 0, 0)))) (x_T 71 (x_T 70 (x_L 70 (0, xi_ast false 71, 0, 0)) (x_L 71 (0, xi_inc 1 1 74, 0, 0))) (x_T 74 (x_L 74 (0, xi_goto 37, 0, 0)) (x_L 77 (1, x_nof, 0, 0)))))))
set_option maxRecDepth 20000 in
set_option maxHeartbeats 4000000 in
theorem tb_11_24_ok (K : xKx) (hK : x_KP K) : ∀ pc, x_EOq cls K xJ mq_11 pc (tb_11_24 pc) :=
  (x_Tok2
  (x_Tok2
  (x_Tok2
  (x_Tok2
  (x_Lok (x_st (I := xJ) (xr_bipush (n := 8) (z := 8) (v := 8) (x_dk dl_11_0_ok 24 rfl) (by decide) (by decide))))
  (x_Tok2
  (x_Lok (x_st (I := xJ) (xr_icmpge (off := 37) (tg := 77) (x_dk dl_11_0_ok 25 rfl) (by decide))))
  (x_Lok (x_st (I := xJ) (xr_aload_n (i := 0) (x_dk dl_11_0_ok 26 rfl))))))
  (x_Tok2
  (x_Lok (x_st (I := xJ) (xr_getf (ci := 2) (k := 11) (ix := 22) (N := 15) (C := RX2) (T := TX2) rfl in_X2 (by decide) (in_t2 (List.mem_of_getElem? (i := 37) rfl) rfl) (x_dk dl_11_0_ok 27 rfl))))
  (x_Tok2
  (x_Lok (x_st (I := xJ) (xr_iload_n (i := 1) (x_dk dl_11_0_ok 28 rfl))))
  (x_Lok (x_st (I := xJ) (xr_iconst (n := 1) (z := 1) (v := 1) (x_dk dl_11_0_ok 29 rfl) (by decide) (by decide)))))))
  (x_Tok2
  (x_Tok2
  (x_Lok (x_st (I := xJ) (xr_bastore (x_dk dl_11_0_ok 30 rfl))))
  (x_Tok2
  (x_Lok (x_st (I := xJ) (xr_aload_n (i := 0) (x_dk dl_11_0_ok 31 rfl))))
  (x_Lok (x_st (I := xJ) (xr_getf (ci := 2) (k := 12) (ix := 25) (N := 15) (C := RX2) (T := TX2) rfl in_X2 (by decide) (in_t2 (List.mem_of_getElem? (i := 38) rfl) rfl) (x_dk dl_11_0_ok 32 rfl))))))
  (x_Tok2
  (x_Lok (x_st (I := xJ) (xr_iload_n (i := 1) (x_dk dl_11_0_ok 33 rfl))))
  (x_Tok2
  (x_Lok (x_st (I := xJ) (xr_iconst (n := 1) (z := 1) (v := 1) (x_dk dl_11_0_ok 34 rfl) (by decide) (by decide))))
  (x_Lok (x_st (I := xJ) (xr_bastore (x_dk dl_11_0_ok 35 rfl))))))))
  (x_Tok2
  (x_Tok2
  (x_Tok2
  (x_Lok (x_st (I := xJ) (xr_aload_n (i := 0) (x_dk dl_11_0_ok 36 rfl))))
  (x_Tok2
  (x_Lok (x_st (I := xJ) (xr_getf (ci := 2) (k := 13) (ix := 28) (N := 15) (C := RX2) (T := TX2) rfl in_X2 (by decide) (in_t2 (List.mem_of_getElem? (i := 39) rfl) rfl) (x_dk dl_11_0_ok 37 rfl))))
  (x_Lok (x_st (I := xJ) (xr_iload_n (i := 1) (x_dk dl_11_0_ok 38 rfl))))))
  (x_Tok2
  (x_Lok (x_st (I := xJ) (xr_iconst (n := 0) (z := 0) (v := 0) (x_dk dl_11_0_ok 39 rfl) (by decide) (by decide))))
  (x_Tok2
  (x_Lok (x_st (I := xJ) (xr_bastore (x_dk dl_11_0_ok 40 rfl))))
  (x_Lok (x_st (I := xJ) (xr_aload_n (i := 0) (x_dk dl_11_0_ok 41 rfl)))))))
  (x_Tok2
  (x_Tok2
  (x_Lok (x_st (I := xJ) (xr_getf (ci := 2) (k := 14) (ix := 31) (N := 15) (C := RX2) (T := TX2) rfl in_X2 (by decide) (in_t2 (List.mem_of_getElem? (i := 40) rfl) rfl) (x_dk dl_11_0_ok 42 rfl))))
  (x_Tok2
  (x_Lok (x_st (I := xJ) (xr_iload_n (i := 1) (x_dk dl_11_0_ok 43 rfl))))
  (x_Lok (x_st (I := xJ) (xr_iconst (n := 0) (z := 0) (v := 0) (x_dk dl_11_0_ok 44 rfl) (by decide) (by decide))))))
  (x_Tok2
  (x_Tok2
  (x_Lok (x_st (I := xJ) (xr_iastore (x_dk dl_11_0_ok 45 rfl))))
  (x_Lok (x_st (I := xJ) (xr_iinc (i := 1) (n := 1) (x_dk dl_11_0_ok 46 rfl) (by decide +kernel) (by decide)))))
  (x_Tok2
  (x_Lok (x_st (I := xJ) (xr_goto (off := (-37)) (tg := 37) (x_dk dl_11_0_ok 47 rfl) (by decide))))
  (x_Lok (x_rt (I := xJ) (k := 0) ⟨(x_dk dl_11_0_ok 48 rfl), rfl⟩)))))))
def tb_11 : Nat → xE := (x_T 37 tb_11_0 tb_11_24)
theorem tb_11_ok (K : xKx) (hK : x_KP K) : ∀ pc, x_EOq cls K xJ mq_11 pc (tb_11 pc) := (x_Tok2 (tb_11_0_ok K hK) (tb_11_24_ok K hK))
def dl_12_0 : List (Nat × Instr × Nat) := [(0, .aload_n 0, 1), (1, .invokespecial 3, 3), (4, .aload_n 0, 1), (5, .iconst 4, 1), (6, .anewarray 9, 3), (9, .putfield 11, 3), (12, .aload_n 0, 1), (13, .new 17, 3), (16, .dup, 1), (17, .invokespecial 19, 3), (20, .putfield 20, 3), (23, .aload_n 0, 1), (24, .new 24, 3), (27, .dup, 1), (28, .invokespecial 26, 3), (31, .putfield 27, 3), (34, .aload_n 0, 1), (35, .new 31, 3), (38, .dup, 1), (39, .invokespecial 33, 3), (42, .putfield 34, 3), (45, .aload_n 0, 1), (46, .bipush 16, 2), (48, .anewarray 38, 3), (51, .putfield 40, 3), (54, .aload_n 0, 1), (55, .bipush 8, 2), (57, .newarray .int, 2), (59, .putfield 44, 3), (62, .aload_n 0, 1), (63, .sipush 128, 3), (66, .newarray .int, 2), (68, .putfield 48, 3), (71, .aload_n 0, 1), (72, .bipush 6, 2), (74, .newarray .int, 2), (76, .putfield 51, 3), (79, .iconst 0, 1), (80, .istore_n 1, 1), (81, .iload_n 1, 1), (82, .iconst 4, 1), (83, .if_icmp .ge 22, 3), (86, .aload_n 0, 1), (87, .getfield 11, 3), (90, .iload_n 1, 1), (91, .new 9, 3), (94, .dup, 1), (95, .invokespecial 54, 3), (98, .aastore, 1), (99, .iinc 1 1, 3), (102, .goto (-21), 3), (105, .iconst 0, 1), (106, .istore_n 1, 1), (107, .iload_n 1, 1), (108, .bipush 16, 2), (110, .if_icmp .ge 23, 3), (113, .aload_n 0, 1), (114, .getfield 40, 3), (117, .iload_n 1, 1), (118, .new 38, 3), (121, .dup, 1), (122, .iload_n 1, 1), (123, .invokespecial 55, 3), (126, .aastore, 1), (127, .iinc 1 1, 3), (130, .goto (-23), 3), (133, .return_, 1)]
set_option maxRecDepth 20000 in
theorem dl_12_0_ok : dl_12_0.all (fun q => decide (decode prog_5_method_1_code q.1 = .ok (q.2.1, q.2.2))) = true := xa_g_ok (by decide +kernel)
def tb_12_0 : Nat → xE := (x_T 31 (x_T 13 (x_T 5 (x_T 1 (x_T 0 (x_L 0 (0, xi_load 0 2 1, 0, 0)) (x_L 1 (0, xi_oi 4, 0, 0))) (x_T 4 (x_L 4 (0, xi_load 0 2 5, 0, 0)) (x_L 5 (0, xi_push (0, 4, 4) 6, 0, 0)))) (x_T 9 (x_T 6 (x_L 6 (0, xi_newa 5 0 (2, 0, 0) (xm_c mq_12) (xm_s mq_12) 9, 0, 0)) (x_L 9 (0, xi_putf 3 0 2 12, 0, 0))) (x_T 12 (x_L 12 (0, xi_load 0 2 13, 0, 0)) (x_L 13 (0, xi_new (x_nc 7 ks_X7) (xm_c mq_12) (xm_s mq_12) 16, 0, 0))))) (x_T 23 (x_T 17 (x_T 16 (x_L 16 (0, xi_stk xf_dup 17, 0, 0)) (x_L 17 (2, x_nof, 18, 1))) (x_T 20 (x_L 20 (0, xi_putf 3 1 2 23, 0, 0)) (x_L 23 (0, xi_load 0 2 24, 0, 0)))) (x_T 27 (x_T 24 (x_L 24 (0, xi_new (x_nc 4 ks_X4) (xm_c mq_12) (xm_s mq_12) 27, 0, 0)) (x_L 27 (0, xi_stk xf_dup 28, 0, 0))) (x_T 28 (x_L 28 (2, x_nof, 14, 1)) (x_L 31 (0, xi_putf 3 2 2 34, 0, 0)))))) (x_T 48 (x_T 39 (x_T 35 (x_T 34 (x_L 34 (0, xi_load 0 2 35, 0, 0)) (x_L 35 (0, xi_new (x_nc 2 ks_X2) (xm_c mq_12) (xm_s mq_12) 38, 0, 0))) (x_T 38 (x_L 38 (0, xi_stk xf_dup 39, 0, 0)) (x_L 39 (2, x_nof, 9, 1)))) (x_T 45 (x_T 42 (x_L 42 (0, xi_putf 3 3 2 45, 0, 0)) (x_L 45 (0, xi_load 0 2 46, 0, 0))) (x_T 46 (x_L 46 (0, xi_push (0, 16, 16) 48, 0, 0)) (x_L 48 (0, xi_newa 5 10 (2, 0, 0) (xm_c mq_12) (xm_s mq_12) 51, 0, 0))))) (x_T 57 (x_T 54 (x_T 51 (x_L 51 (0, xi_putf 3 4 2 54, 0, 0)) (x_L 54 (0, xi_load 0 2 55, 0, 0))) (x_T 55 (x_L 55 (0, xi_push (0, 8, 8) 57, 0, 0)) (x_L 57 (0, xi_newa 1 0 (0, 0, 0) (xm_c mq_12) (xm_s mq_12) 59, 0, 0)))) (x_T 62 (x_T 59 (x_L 59 (0, xi_putf 3 5 2 62, 0, 0)) (x_L 62 (0, xi_load 0 2 63, 0, 0))) (x_T 63 (x_L 63 (0, xi_push (0, 128, 128) 66, 0, 0)) (x_T 66 (x_L 66 (0, xi_newa 1 0 (0, 0, 0) (xm_c mq_12) (xm_s mq_12) 68, 0, 0)) (x_L 68 (0, xi_putf 3 6 2 71, 0, 0))))))))
set_option maxRecDepth 20000 in
set_option maxHeartbeats 4000000 in
theorem tb_12_0_ok (K : xKx) (hK : x_KP K) : ∀ pc, x_EOq cls K xJ mq_12 pc (tb_12_0 pc) :=
  (x_Tok2
  (x_Tok2
  (x_Tok2
  (x_Tok2
  (x_Tok2
  (x_Lok (x_st (I := xJ) (xr_aload_n (i := 0) (x_dk dl_12_0_ok 0 rfl))))
  (x_Lok (x_st (I := xJ) (xr_oi (ix := 3) (in_t1 (List.mem_of_getElem? (i := 127) rfl) rfl) (in_t1 (List.mem_of_getElem? (i := 27) rfl) rfl) (in_t1 (List.mem_of_getElem? (i := 28) rfl) rfl) (x_dk dl_12_0_ok 1 rfl)))))
  (x_Tok2
  (x_Lok (x_st (I := xJ) (xr_aload_n (i := 0) (x_dk dl_12_0_ok 2 rfl))))
  (x_Lok (x_st (I := xJ) (xr_iconst (n := 4) (z := 4) (v := 4) (x_dk dl_12_0_ok 3 rfl) (by decide) (by decide))))))
  (x_Tok2
  (x_Tok2
  (x_Lok (x_st (I := xJ) (xr_newq (ci := 0) (ix := 9) (r := (RX0, TX0, 20)) rfl (in_t1 (List.mem_of_getElem? (i := 128) rfl) rfl) (fun U h => h.1.2.1) (x_dk dl_12_0_ok 4 rfl))))
  (x_Lok (x_st (I := xJ) (xr_putF (ci := 3) (k := 0) (ix := 11) (N := 12) (fk := 2) (C := RX3) (T := TX3) (ty0 := tyX3) (ty := .array (.object "RobotCellHouse$Arm")) rfl in_X3 tyX3_ok nmX3 (by decide) (in_t3 (List.mem_of_getElem? (i := 88) rfl) rfl) rfl rfl rfl rfl x_fit_arr (x_dk dl_12_0_ok 5 rfl)))))
  (x_Tok2
  (x_Lok (x_st (I := xJ) (xr_aload_n (i := 0) (x_dk dl_12_0_ok 6 rfl))))
  (x_Lok (x_st (I := xJ) (xr_new (ci := 7) (ix := 17) (N := 8) (C := RX7) (T := TX7) (ty0 := tyX7) (ks := ks_X7) rfl in_X7 tyX7_ok (in_t1 (List.mem_of_getElem? (i := 130) rfl) rfl) (in_t1 (List.mem_of_getElem? (i := 131) rfl) rfl) (in_t1 (List.mem_of_getElem? (i := 5) rfl) rfl) rfl df_X7 (x_dk dl_12_0_ok 7 rfl)))))))
  (x_Tok2
  (x_Tok2
  (x_Tok2
  (x_Lok (x_st (I := xJ) (xr_dup (x_dk dl_12_0_ok 8 rfl))))
  (x_Lok (x_ca (I := xJ) (q' := mq_18) rfl (xr_callIN (q' := mq_18) (ix := 19) (n := 0) (host := "RobotCellHouse") (in_t1 (List.mem_of_getElem? (i := 134) rfl) rfl) good_w (in_t1 (List.mem_of_getElem? (i := 5) rfl) rfl) (List.mem_of_getElem? (i := 2) rfl) (in_t1 (List.mem_of_getElem? (i := 133) rfl) rfl) rfl rfl (by decide +kernel) (by decide +kernel) (by decide +kernel) (x_dk dl_12_0_ok 9 rfl)))))
  (x_Tok2
  (x_Lok (x_st (I := xJ) (xr_putF (ci := 3) (k := 1) (ix := 20) (N := 12) (fk := 2) (C := RX3) (T := TX3) (ty0 := tyX3) (ty := .object "RobotCellHouse$Points") rfl in_X3 tyX3_ok nmX3 (by decide) (in_t3 (List.mem_of_getElem? (i := 90) rfl) rfl) rfl rfl rfl rfl x_fit_obj (x_dk dl_12_0_ok 10 rfl))))
  (x_Lok (x_st (I := xJ) (xr_aload_n (i := 0) (x_dk dl_12_0_ok 11 rfl))))))
  (x_Tok2
  (x_Tok2
  (x_Lok (x_st (I := xJ) (xr_new (ci := 4) (ix := 24) (N := 20) (C := RX4) (T := TX4) (ty0 := tyX4) (ks := ks_X4) rfl in_X4 tyX4_ok (in_t1 (List.mem_of_getElem? (i := 167) rfl) rfl) (in_t1 (List.mem_of_getElem? (i := 168) rfl) rfl) (in_t1 (List.mem_of_getElem? (i := 6) rfl) rfl) rfl df_X4 (x_dk dl_12_0_ok 12 rfl))))
  (x_Lok (x_st (I := xJ) (xr_dup (x_dk dl_12_0_ok 13 rfl)))))
  (x_Tok2
  (x_Lok (x_ca (I := xJ) (q' := mq_14) rfl (xr_callIN (q' := mq_14) (ix := 26) (n := 0) (host := "RobotCellHouse") (in_t1 (List.mem_of_getElem? (i := 171) rfl) rfl) good_w (in_t1 (List.mem_of_getElem? (i := 6) rfl) rfl) (List.mem_of_getElem? (i := 3) rfl) (in_t1 (List.mem_of_getElem? (i := 170) rfl) rfl) rfl rfl (by decide +kernel) (by decide +kernel) (by decide +kernel) (x_dk dl_12_0_ok 14 rfl))))
  (x_Lok (x_st (I := xJ) (xr_putF (ci := 3) (k := 2) (ix := 27) (N := 12) (fk := 2) (C := RX3) (T := TX3) (ty0 := tyX3) (ty := .object "RobotCellHouse$Floor") rfl in_X3 tyX3_ok nmX3 (by decide) (in_t3 (List.mem_of_getElem? (i := 92) rfl) rfl) rfl rfl rfl rfl x_fit_obj (x_dk dl_12_0_ok 15 rfl))))))))
  (x_Tok2
  (x_Tok2
  (x_Tok2
  (x_Tok2
  (x_Lok (x_st (I := xJ) (xr_aload_n (i := 0) (x_dk dl_12_0_ok 16 rfl))))
  (x_Lok (x_st (I := xJ) (xr_new (ci := 2) (ix := 31) (N := 15) (C := RX2) (T := TX2) (ty0 := tyX2) (ks := ks_X2) rfl in_X2 tyX2_ok (in_t2 (List.mem_of_getElem? (i := 6) rfl) rfl) (in_t2 (List.mem_of_getElem? (i := 7) rfl) rfl) (in_t1 (List.mem_of_getElem? (i := 7) rfl) rfl) rfl df_X2 (x_dk dl_12_0_ok 17 rfl)))))
  (x_Tok2
  (x_Lok (x_st (I := xJ) (xr_dup (x_dk dl_12_0_ok 18 rfl))))
  (x_Lok (x_ca (I := xJ) (q' := mq_9) rfl (xr_callIN (q' := mq_9) (ix := 33) (n := 0) (host := "RobotCellHouse") (in_t2 (List.mem_of_getElem? (i := 10) rfl) rfl) good_w (in_t1 (List.mem_of_getElem? (i := 7) rfl) rfl) (List.mem_of_getElem? (i := 4) rfl) (in_t2 (List.mem_of_getElem? (i := 9) rfl) rfl) rfl rfl (by decide +kernel) (by decide +kernel) (by decide +kernel) (x_dk dl_12_0_ok 19 rfl))))))
  (x_Tok2
  (x_Tok2
  (x_Lok (x_st (I := xJ) (xr_putF (ci := 3) (k := 3) (ix := 34) (N := 12) (fk := 2) (C := RX3) (T := TX3) (ty0 := tyX3) (ty := .object "RobotCellHouse$Core") rfl in_X3 tyX3_ok nmX3 (by decide) (in_t3 (List.mem_of_getElem? (i := 94) rfl) rfl) rfl rfl rfl rfl x_fit_obj (x_dk dl_12_0_ok 20 rfl))))
  (x_Lok (x_st (I := xJ) (xr_aload_n (i := 0) (x_dk dl_12_0_ok 21 rfl)))))
  (x_Tok2
  (x_Lok (x_st (I := xJ) (xr_bipush (n := 16) (z := 16) (v := 16) (x_dk dl_12_0_ok 22 rfl) (by decide) (by decide))))
  (x_Lok (x_st (I := xJ) (xr_newq (ci := 10) (ix := 38) (r := (RX10, TX10, 21)) rfl (in_t2 (List.mem_of_getElem? (i := 72) rfl) rfl) (fun U h => h.1.2.2) (x_dk dl_12_0_ok 23 rfl)))))))
  (x_Tok2
  (x_Tok2
  (x_Tok2
  (x_Lok (x_st (I := xJ) (xr_putF (ci := 3) (k := 4) (ix := 40) (N := 12) (fk := 2) (C := RX3) (T := TX3) (ty0 := tyX3) (ty := .array (.object "RobotCellHouse$Task")) rfl in_X3 tyX3_ok nmX3 (by decide) (in_t3 (List.mem_of_getElem? (i := 96) rfl) rfl) rfl rfl rfl rfl x_fit_arr (x_dk dl_12_0_ok 24 rfl))))
  (x_Lok (x_st (I := xJ) (xr_aload_n (i := 0) (x_dk dl_12_0_ok 25 rfl)))))
  (x_Tok2
  (x_Lok (x_st (I := xJ) (xr_bipush (n := 8) (z := 8) (v := 8) (x_dk dl_12_0_ok 26 rfl) (by decide) (by decide))))
  (x_Lok (x_st (I := xJ) (xr_newa (kd := 1) (b := false) (ty := .int) rfl rfl (in_t1 (List.mem_of_getElem? (i := 64) rfl) rfl) (x_dk dl_12_0_ok 27 rfl))))))
  (x_Tok2
  (x_Tok2
  (x_Lok (x_st (I := xJ) (xr_putF (ci := 3) (k := 5) (ix := 44) (N := 12) (fk := 2) (C := RX3) (T := TX3) (ty0 := tyX3) (ty := .array .int) rfl in_X3 tyX3_ok nmX3 (by decide) (in_t3 (List.mem_of_getElem? (i := 98) rfl) rfl) rfl rfl rfl rfl x_fit_arr (x_dk dl_12_0_ok 28 rfl))))
  (x_Lok (x_st (I := xJ) (xr_aload_n (i := 0) (x_dk dl_12_0_ok 29 rfl)))))
  (x_Tok2
  (x_Lok (x_st (I := xJ) (xr_sipush (n := 128) (z := 128) (v := 128) (x_dk dl_12_0_ok 30 rfl) (by decide) (by decide))))
  (x_Tok2
  (x_Lok (x_st (I := xJ) (xr_newa (kd := 1) (b := false) (ty := .int) rfl rfl (in_t1 (List.mem_of_getElem? (i := 64) rfl) rfl) (x_dk dl_12_0_ok 31 rfl))))
  (x_Lok (x_st (I := xJ) (xr_putF (ci := 3) (k := 6) (ix := 48) (N := 12) (fk := 2) (C := RX3) (T := TX3) (ty0 := tyX3) (ty := .array .int) rfl in_X3 tyX3_ok nmX3 (by decide) (in_t3 (List.mem_of_getElem? (i := 100) rfl) rfl) rfl rfl rfl rfl x_fit_arr (x_dk dl_12_0_ok 32 rfl))))))))))
def tb_12_33 : Nat → xE := (x_T 99 (x_T 82 (x_T 76 (x_T 72 (x_T 71 (x_L 71 (0, xi_load 0 2 72, 0, 0)) (x_L 72 (0, xi_push (0, 6, 6) 74, 0, 0))) (x_T 74 (x_L 74 (0, xi_newa 1 0 (0, 0, 0) (xm_c mq_12) (xm_s mq_12) 76, 0, 0)) (x_L 76 (0, xi_putf 3 7 2 79, 0, 0)))) (x_T 80 (x_T 79 (x_L 79 (0, xi_push (0, 0, 0) 80, 0, 0)) (x_L 80 (0, xi_stor 1 0 81, 0, 0))) (x_T 81 (x_L 81 (0, xi_load 1 0 82, 0, 0)) (x_L 82 (0, xi_push (0, 4, 4) 83, 0, 0))))) (x_T 90 (x_T 86 (x_T 83 (x_L 83 (0, xi_if2 3 105 86, 0, 0)) (x_L 86 (0, xi_load 0 2 87, 0, 0))) (x_T 87 (x_L 87 (0, xi_getf 3 0 90, 0, 0)) (x_L 90 (0, xi_load 1 0 91, 0, 0)))) (x_T 94 (x_T 91 (x_L 91 (0, xi_new (x_nc 0 ks_X0) (xm_c mq_12) (xm_s mq_12) 94, 0, 0)) (x_L 94 (0, xi_stk xf_dup 95, 0, 0))) (x_T 95 (x_L 95 (2, x_nof, 1, 1)) (x_T 98 (x_L 98 (0, xi_aast 99, 0, 0)) (x_L 99 (0, xi_inc 1 1 102, 0, 0))))))) (x_T 114 (x_T 107 (x_T 105 (x_T 102 (x_L 102 (0, xi_goto 81, 0, 0)) (x_L 105 (0, xi_push (0, 0, 0) 106, 0, 0))) (x_T 106 (x_L 106 (0, xi_stor 1 0 107, 0, 0)) (x_L 107 (0, xi_load 1 0 108, 0, 0)))) (x_T 110 (x_T 108 (x_L 108 (0, xi_push (0, 16, 16) 110, 0, 0)) (x_L 110 (0, xi_if2 3 133 113, 0, 0))) (x_T 113 (x_L 113 (0, xi_load 0 2 114, 0, 0)) (x_L 114 (0, xi_getf 3 4 117, 0, 0))))) (x_T 122 (x_T 118 (x_T 117 (x_L 117 (0, xi_load 1 0 118, 0, 0)) (x_L 118 (0, xi_new (x_nc 10 ks_X10) (xm_c mq_12) (xm_s mq_12) 121, 0, 0))) (x_T 121 (x_L 121 (0, xi_stk xf_dup 122, 0, 0)) (x_L 122 (0, xi_load 1 0 123, 0, 0)))) (x_T 126 (x_T 123 (x_L 123 (2, x_nof, 26, 2)) (x_L 126 (0, xi_aast 127, 0, 0))) (x_T 127 (x_L 127 (0, xi_inc 1 1 130, 0, 0)) (x_T 130 (x_L 130 (0, xi_goto 107, 0, 0)) (x_L 133 (1, x_nof, 0, 0))))))))
set_option maxRecDepth 20000 in
set_option maxHeartbeats 4000000 in
theorem tb_12_33_ok (K : xKx) (hK : x_KP K) : ∀ pc, x_EOq cls K xJ mq_12 pc (tb_12_33 pc) :=
  (x_Tok2
  (x_Tok2
  (x_Tok2
  (x_Tok2
  (x_Tok2
  (x_Lok (x_st (I := xJ) (xr_aload_n (i := 0) (x_dk dl_12_0_ok 33 rfl))))
  (x_Lok (x_st (I := xJ) (xr_bipush (n := 6) (z := 6) (v := 6) (x_dk dl_12_0_ok 34 rfl) (by decide) (by decide)))))
  (x_Tok2
  (x_Lok (x_st (I := xJ) (xr_newa (kd := 1) (b := false) (ty := .int) rfl rfl (in_t1 (List.mem_of_getElem? (i := 64) rfl) rfl) (x_dk dl_12_0_ok 35 rfl))))
  (x_Lok (x_st (I := xJ) (xr_putF (ci := 3) (k := 7) (ix := 51) (N := 12) (fk := 2) (C := RX3) (T := TX3) (ty0 := tyX3) (ty := .array .int) rfl in_X3 tyX3_ok nmX3 (by decide) (in_t3 (List.mem_of_getElem? (i := 101) rfl) rfl) rfl rfl rfl rfl x_fit_arr (x_dk dl_12_0_ok 36 rfl))))))
  (x_Tok2
  (x_Tok2
  (x_Lok (x_st (I := xJ) (xr_iconst (n := 0) (z := 0) (v := 0) (x_dk dl_12_0_ok 37 rfl) (by decide) (by decide))))
  (x_Lok (x_st (I := xJ) (xr_istore_n (i := 1) (x_dk dl_12_0_ok 38 rfl) (by decide +kernel)))))
  (x_Tok2
  (x_Lok (x_st (I := xJ) (xr_iload_n (i := 1) (x_dk dl_12_0_ok 39 rfl))))
  (x_Lok (x_st (I := xJ) (xr_iconst (n := 4) (z := 4) (v := 4) (x_dk dl_12_0_ok 40 rfl) (by decide) (by decide)))))))
  (x_Tok2
  (x_Tok2
  (x_Tok2
  (x_Lok (x_st (I := xJ) (xr_icmpge (off := 22) (tg := 105) (x_dk dl_12_0_ok 41 rfl) (by decide))))
  (x_Lok (x_st (I := xJ) (xr_aload_n (i := 0) (x_dk dl_12_0_ok 42 rfl)))))
  (x_Tok2
  (x_Lok (x_st (I := xJ) (xr_getf (ci := 3) (k := 0) (ix := 11) (N := 12) (C := RX3) (T := TX3) rfl in_X3 (by decide) (in_t3 (List.mem_of_getElem? (i := 88) rfl) rfl) (x_dk dl_12_0_ok 43 rfl))))
  (x_Lok (x_st (I := xJ) (xr_iload_n (i := 1) (x_dk dl_12_0_ok 44 rfl))))))
  (x_Tok2
  (x_Tok2
  (x_Lok (x_st (I := xJ) (xr_new (ci := 0) (ix := 9) (N := 20) (C := RX0) (T := TX0) (ty0 := tyX0) (ks := ks_X0) rfl in_X0 tyX0_ok (in_t1 (List.mem_of_getElem? (i := 128) rfl) rfl) (in_t2 (List.mem_of_getElem? (i := 74) rfl) rfl) (in_t1 (List.mem_of_getElem? (i := 8) rfl) rfl) rfl df_X0 (x_dk dl_12_0_ok 45 rfl))))
  (x_Lok (x_st (I := xJ) (xr_dup (x_dk dl_12_0_ok 46 rfl)))))
  (x_Tok2
  (x_Lok (x_ca (I := xJ) (q' := mq_1) rfl (xr_callI (q' := mq_1) (ix := 54) (n := 0) (in_t2 (List.mem_of_getElem? (i := 77) rfl) rfl) good_w (in_t1 (List.mem_of_getElem? (i := 8) rfl) rfl) (in_t2 (List.mem_of_getElem? (i := 75) rfl) rfl) (in_t2 (List.mem_of_getElem? (i := 76) rfl) rfl) rfl rfl (by decide +kernel) (by decide +kernel) (by decide +kernel) (x_dk dl_12_0_ok 47 rfl))))
  (x_Tok2
  (x_Lok (x_st (I := xJ) (xr_aastore (x_dk dl_12_0_ok 48 rfl))))
  (x_Lok (x_st (I := xJ) (xr_iinc (i := 1) (n := 1) (x_dk dl_12_0_ok 49 rfl) (by decide +kernel) (by decide)))))))))
  (x_Tok2
  (x_Tok2
  (x_Tok2
  (x_Tok2
  (x_Lok (x_st (I := xJ) (xr_goto (off := (-21)) (tg := 81) (x_dk dl_12_0_ok 50 rfl) (by decide))))
  (x_Lok (x_st (I := xJ) (xr_iconst (n := 0) (z := 0) (v := 0) (x_dk dl_12_0_ok 51 rfl) (by decide) (by decide)))))
  (x_Tok2
  (x_Lok (x_st (I := xJ) (xr_istore_n (i := 1) (x_dk dl_12_0_ok 52 rfl) (by decide +kernel))))
  (x_Lok (x_st (I := xJ) (xr_iload_n (i := 1) (x_dk dl_12_0_ok 53 rfl))))))
  (x_Tok2
  (x_Tok2
  (x_Lok (x_st (I := xJ) (xr_bipush (n := 16) (z := 16) (v := 16) (x_dk dl_12_0_ok 54 rfl) (by decide) (by decide))))
  (x_Lok (x_st (I := xJ) (xr_icmpge (off := 23) (tg := 133) (x_dk dl_12_0_ok 55 rfl) (by decide)))))
  (x_Tok2
  (x_Lok (x_st (I := xJ) (xr_aload_n (i := 0) (x_dk dl_12_0_ok 56 rfl))))
  (x_Lok (x_st (I := xJ) (xr_getf (ci := 3) (k := 4) (ix := 40) (N := 12) (C := RX3) (T := TX3) rfl in_X3 (by decide) (in_t3 (List.mem_of_getElem? (i := 96) rfl) rfl) (x_dk dl_12_0_ok 57 rfl)))))))
  (x_Tok2
  (x_Tok2
  (x_Tok2
  (x_Lok (x_st (I := xJ) (xr_iload_n (i := 1) (x_dk dl_12_0_ok 58 rfl))))
  (x_Lok (x_st (I := xJ) (xr_new (ci := 10) (ix := 38) (N := 21) (C := RX10) (T := TX10) (ty0 := tyX10) (ks := ks_X10) rfl in_X10 tyX10_ok (in_t2 (List.mem_of_getElem? (i := 72) rfl) rfl) (in_t3 (List.mem_of_getElem? (i := 4) rfl) rfl) (in_t1 (List.mem_of_getElem? (i := 10) rfl) rfl) rfl df_X10 (x_dk dl_12_0_ok 59 rfl)))))
  (x_Tok2
  (x_Lok (x_st (I := xJ) (xr_dup (x_dk dl_12_0_ok 60 rfl))))
  (x_Lok (x_st (I := xJ) (xr_iload_n (i := 1) (x_dk dl_12_0_ok 61 rfl))))))
  (x_Tok2
  (x_Tok2
  (x_Lok (x_ca (I := xJ) (q' := mq_26) rfl (xr_callI (q' := mq_26) (ix := 55) (n := 1) (in_t3 (List.mem_of_getElem? (i := 7) rfl) rfl) good_w (in_t1 (List.mem_of_getElem? (i := 10) rfl) rfl) (in_t3 (List.mem_of_getElem? (i := 5) rfl) rfl) (in_t3 (List.mem_of_getElem? (i := 6) rfl) rfl) rfl rfl (by decide +kernel) (by decide +kernel) (by decide +kernel) (x_dk dl_12_0_ok 62 rfl))))
  (x_Lok (x_st (I := xJ) (xr_aastore (x_dk dl_12_0_ok 63 rfl)))))
  (x_Tok2
  (x_Lok (x_st (I := xJ) (xr_iinc (i := 1) (n := 1) (x_dk dl_12_0_ok 64 rfl) (by decide +kernel) (by decide))))
  (x_Tok2
  (x_Lok (x_st (I := xJ) (xr_goto (off := (-23)) (tg := 107) (x_dk dl_12_0_ok 65 rfl) (by decide))))
  (x_Lok (x_rt (I := xJ) (k := 0) ⟨(x_dk dl_12_0_ok 66 rfl), rfl⟩))))))))
def tb_12 : Nat → xE := (x_T 68 tb_12_0 tb_12_33)
theorem tb_12_ok (K : xKx) (hK : x_KP K) : ∀ pc, x_EOq cls K xJ mq_12 pc (tb_12 pc) := (x_Tok2 (tb_12_0_ok K hK) (tb_12_33_ok K hK))
end
