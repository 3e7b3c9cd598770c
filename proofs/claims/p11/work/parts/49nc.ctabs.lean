noncomputable section
def dl_26_0 : List (Nat × Instr × Nat) := [(0, .aload_n 0, 1), (1, .invokespecial 3, 3), (4, .aload_n 0, 1), (5, .bipush 20, 2), (7, .newarray .int, 2), (9, .putfield 11, 3), (12, .aload_n 0, 1), (13, .bipush 20, 2), (15, .newarray .int, 2), (17, .putfield 15, 3), (20, .aload_n 0, 1), (21, .sipush 600, 3), (24, .newarray .int, 2), (26, .putfield 18, 3), (29, .aload_n 0, 1), (30, .sipush 600, 3), (33, .newarray .int, 2), (35, .putfield 21, 3), (38, .aload_n 0, 1), (39, .sipush 600, 3), (42, .newarray .int, 2), (44, .putfield 24, 3), (47, .aload_n 0, 1), (48, .iload_n 1, 1), (49, .putfield 27, 3), (52, .return_, 1)]
set_option maxRecDepth 20000 in
theorem dl_26_0_ok : dl_26_0.all (fun q => decide (decode prog_12_method_1_code q.1 = .ok (q.2.1, q.2.2))) = true := xa_g_ok (by decide +kernel)
def tb_26_0 : Nat → xE := (x_T 24 (x_T 9 (x_T 4 (x_T 0 (x_L 0 (0, xi_load 0 2 1, 0, 0)) (x_T 1 (x_L 1 (0, xi_oi 4, 0, 0)) (x_L 4 (0, xi_load 0 2 5, 0, 0)))) (x_T 5 (x_L 5 (0, xi_push (0, 20, 20) 7, 0, 0)) (x_T 7 (x_L 7 (0, xi_newa 1 0 (0, 0, 0) (xm_c mq_26) (xm_s mq_26) 9, 0, 0)) (x_L 9 (0, xi_putf 10 16 2 12, 0, 0))))) (x_T 15 (x_T 12 (x_L 12 (0, xi_load 0 2 13, 0, 0)) (x_T 13 (x_L 13 (0, xi_push (0, 20, 20) 15, 0, 0)) (x_L 15 (0, xi_newa 1 0 (0, 0, 0) (xm_c mq_26) (xm_s mq_26) 17, 0, 0)))) (x_T 20 (x_T 17 (x_L 17 (0, xi_putf 10 17 2 20, 0, 0)) (x_L 20 (0, xi_load 0 2 21, 0, 0))) (x_T 21 (x_L 21 (0, xi_push (0, 600, 600) 24, 0, 0)) (x_L 24 (0, xi_newa 1 0 (0, 0, 0) (xm_c mq_26) (xm_s mq_26) 26, 0, 0)))))) (x_T 38 (x_T 30 (x_T 26 (x_L 26 (0, xi_putf 10 18 2 29, 0, 0)) (x_T 29 (x_L 29 (0, xi_load 0 2 30, 0, 0)) (x_L 30 (0, xi_push (0, 600, 600) 33, 0, 0)))) (x_T 33 (x_L 33 (0, xi_newa 1 0 (0, 0, 0) (xm_c mq_26) (xm_s mq_26) 35, 0, 0)) (x_T 35 (x_L 35 (0, xi_putf 10 19 2 38, 0, 0)) (x_L 38 (0, xi_load 0 2 39, 0, 0))))) (x_T 44 (x_T 39 (x_L 39 (0, xi_push (0, 600, 600) 42, 0, 0)) (x_T 42 (x_L 42 (0, xi_newa 1 0 (0, 0, 0) (xm_c mq_26) (xm_s mq_26) 44, 0, 0)) (x_L 44 (0, xi_putf 10 20 2 47, 0, 0)))) (x_T 48 (x_T 47 (x_L 47 (0, xi_load 0 2 48, 0, 0)) (x_L 48 (0, xi_load 1 0 49, 0, 0))) (x_T 49 (x_L 49 (0, xi_putf 10 0 0 52, 0, 0)) (x_L 52 (1, x_nof, 0, 0)))))))
set_option maxRecDepth 20000 in
set_option maxHeartbeats 4000000 in
theorem tb_26_0_ok (K : xKx) (hK : x_KP K) : ∀ pc, x_EOq cls K xJ mq_26 pc (tb_26_0 pc) :=
  (x_Tok2
  (x_Tok2
  (x_Tok2
  (x_Tok2
  (x_Lok (x_st (I := xJ) (xr_aload_n (i := 0) (x_dk dl_26_0_ok 0 rfl))))
  (x_Tok2
  (x_Lok (x_st (I := xJ) (xr_oi (ix := 3) (in_t3 (List.mem_of_getElem? (i := 8) rfl) rfl) (in_t1 (List.mem_of_getElem? (i := 27) rfl) rfl) (in_t1 (List.mem_of_getElem? (i := 28) rfl) rfl) (x_dk dl_26_0_ok 1 rfl))))
  (x_Lok (x_st (I := xJ) (xr_aload_n (i := 0) (x_dk dl_26_0_ok 2 rfl))))))
  (x_Tok2
  (x_Lok (x_st (I := xJ) (xr_bipush (n := 20) (z := 20) (v := 20) (x_dk dl_26_0_ok 3 rfl) (by decide) (by decide))))
  (x_Tok2
  (x_Lok (x_st (I := xJ) (xr_newa (kd := 1) (b := false) (ty := .int) rfl rfl (in_t1 (List.mem_of_getElem? (i := 64) rfl) rfl) (x_dk dl_26_0_ok 4 rfl))))
  (x_Lok (x_st (I := xJ) (xr_putF (ci := 10) (k := 16) (ix := 11) (N := 21) (fk := 2) (C := RX10) (T := TX10) (ty0 := tyX10) (ty := .array .int) rfl in_X10 tyX10_ok nmX10 (by decide) (in_t3 (List.mem_of_getElem? (i := 40) rfl) rfl) rfl rfl rfl rfl x_fit_arr (x_dk dl_26_0_ok 5 rfl)))))))
  (x_Tok2
  (x_Tok2
  (x_Lok (x_st (I := xJ) (xr_aload_n (i := 0) (x_dk dl_26_0_ok 6 rfl))))
  (x_Tok2
  (x_Lok (x_st (I := xJ) (xr_bipush (n := 20) (z := 20) (v := 20) (x_dk dl_26_0_ok 7 rfl) (by decide) (by decide))))
  (x_Lok (x_st (I := xJ) (xr_newa (kd := 1) (b := false) (ty := .int) rfl rfl (in_t1 (List.mem_of_getElem? (i := 64) rfl) rfl) (x_dk dl_26_0_ok 8 rfl))))))
  (x_Tok2
  (x_Tok2
  (x_Lok (x_st (I := xJ) (xr_putF (ci := 10) (k := 17) (ix := 15) (N := 21) (fk := 2) (C := RX10) (T := TX10) (ty0 := tyX10) (ty := .array .int) rfl in_X10 tyX10_ok nmX10 (by decide) (in_t3 (List.mem_of_getElem? (i := 41) rfl) rfl) rfl rfl rfl rfl x_fit_arr (x_dk dl_26_0_ok 9 rfl))))
  (x_Lok (x_st (I := xJ) (xr_aload_n (i := 0) (x_dk dl_26_0_ok 10 rfl)))))
  (x_Tok2
  (x_Lok (x_st (I := xJ) (xr_sipush (n := 600) (z := 600) (v := 600) (x_dk dl_26_0_ok 11 rfl) (by decide) (by decide))))
  (x_Lok (x_st (I := xJ) (xr_newa (kd := 1) (b := false) (ty := .int) rfl rfl (in_t1 (List.mem_of_getElem? (i := 64) rfl) rfl) (x_dk dl_26_0_ok 12 rfl))))))))
  (x_Tok2
  (x_Tok2
  (x_Tok2
  (x_Lok (x_st (I := xJ) (xr_putF (ci := 10) (k := 18) (ix := 18) (N := 21) (fk := 2) (C := RX10) (T := TX10) (ty0 := tyX10) (ty := .array .int) rfl in_X10 tyX10_ok nmX10 (by decide) (in_t3 (List.mem_of_getElem? (i := 42) rfl) rfl) rfl rfl rfl rfl x_fit_arr (x_dk dl_26_0_ok 13 rfl))))
  (x_Tok2
  (x_Lok (x_st (I := xJ) (xr_aload_n (i := 0) (x_dk dl_26_0_ok 14 rfl))))
  (x_Lok (x_st (I := xJ) (xr_sipush (n := 600) (z := 600) (v := 600) (x_dk dl_26_0_ok 15 rfl) (by decide) (by decide))))))
  (x_Tok2
  (x_Lok (x_st (I := xJ) (xr_newa (kd := 1) (b := false) (ty := .int) rfl rfl (in_t1 (List.mem_of_getElem? (i := 64) rfl) rfl) (x_dk dl_26_0_ok 16 rfl))))
  (x_Tok2
  (x_Lok (x_st (I := xJ) (xr_putF (ci := 10) (k := 19) (ix := 21) (N := 21) (fk := 2) (C := RX10) (T := TX10) (ty0 := tyX10) (ty := .array .int) rfl in_X10 tyX10_ok nmX10 (by decide) (in_t3 (List.mem_of_getElem? (i := 43) rfl) rfl) rfl rfl rfl rfl x_fit_arr (x_dk dl_26_0_ok 17 rfl))))
  (x_Lok (x_st (I := xJ) (xr_aload_n (i := 0) (x_dk dl_26_0_ok 18 rfl)))))))
  (x_Tok2
  (x_Tok2
  (x_Lok (x_st (I := xJ) (xr_sipush (n := 600) (z := 600) (v := 600) (x_dk dl_26_0_ok 19 rfl) (by decide) (by decide))))
  (x_Tok2
  (x_Lok (x_st (I := xJ) (xr_newa (kd := 1) (b := false) (ty := .int) rfl rfl (in_t1 (List.mem_of_getElem? (i := 64) rfl) rfl) (x_dk dl_26_0_ok 20 rfl))))
  (x_Lok (x_st (I := xJ) (xr_putF (ci := 10) (k := 20) (ix := 24) (N := 21) (fk := 2) (C := RX10) (T := TX10) (ty0 := tyX10) (ty := .array .int) rfl in_X10 tyX10_ok nmX10 (by decide) (in_t3 (List.mem_of_getElem? (i := 44) rfl) rfl) rfl rfl rfl rfl x_fit_arr (x_dk dl_26_0_ok 21 rfl))))))
  (x_Tok2
  (x_Tok2
  (x_Lok (x_st (I := xJ) (xr_aload_n (i := 0) (x_dk dl_26_0_ok 22 rfl))))
  (x_Lok (x_st (I := xJ) (xr_iload_n (i := 1) (x_dk dl_26_0_ok 23 rfl)))))
  (x_Tok2
  (x_Lok (x_st (I := xJ) (xr_putF (ci := 10) (k := 0) (ix := 27) (N := 21) (fk := 0) (C := RX10) (T := TX10) (ty0 := tyX10) (ty := .int) rfl in_X10 tyX10_ok nmX10 (by decide) (in_t3 (List.mem_of_getElem? (i := 9) rfl) rfl) rfl rfl rfl rfl x_fit_int (x_dk dl_26_0_ok 24 rfl))))
  (x_Lok (x_rt (I := xJ) (k := 0) ⟨(x_dk dl_26_0_ok 25 rfl), rfl⟩)))))))
def tb_26 : Nat → xE := tb_26_0
theorem tb_26_ok (K : xKx) (hK : x_KP K) : ∀ pc, x_EOq cls K xJ mq_26 pc (tb_26 pc) := tb_26_0_ok K hK
def dl_27_0 : List (Nat × Instr × Nat) := [(0, .aload_n 0, 1), (1, .iconst (-1), 1), (2, .iconst 0, 1), (3, .iconst 0, 1), (4, .invokevirtual 31, 3), (7, .aload_n 0, 1), (8, .iconst 0, 1), (9, .putfield 35, 3), (12, .aload_n 0, 1), (13, .iconst 0, 1), (14, .putfield 38, 3), (17, .return_, 1)]
set_option maxRecDepth 20000 in
theorem dl_27_0_ok : dl_27_0.all (fun q => decide (decode prog_12_method_2_code q.1 = .ok (q.2.1, q.2.2))) = true := xa_g_ok (by decide +kernel)
def tb_27_0 : Nat → xE := (x_T 7 (x_T 2 (x_T 0 (x_L 0 (0, xi_load 0 2 1, 0, 0)) (x_T 1 (x_L 1 (0, xi_push (0, (-1), (-1)) 2, 0, 0)) (x_L 2 (0, xi_push (0, 0, 0) 3, 0, 0)))) (x_T 3 (x_L 3 (0, xi_push (0, 0, 0) 4, 0, 0)) (x_T 4 (x_L 4 (2, x_nof, 28, 4)) (x_L 7 (0, xi_load 0 2 8, 0, 0))))) (x_T 12 (x_T 8 (x_L 8 (0, xi_push (0, 0, 0) 9, 0, 0)) (x_T 9 (x_L 9 (0, xi_putf 10 1 0 12, 0, 0)) (x_L 12 (0, xi_load 0 2 13, 0, 0)))) (x_T 13 (x_L 13 (0, xi_push (0, 0, 0) 14, 0, 0)) (x_T 14 (x_L 14 (0, xi_putf 10 4 0 17, 0, 0)) (x_L 17 (1, x_nof, 0, 0))))))
set_option maxRecDepth 20000 in
set_option maxHeartbeats 4000000 in
theorem tb_27_0_ok (K : xKx) (hK : x_KP K) : ∀ pc, x_EOq cls K xJ mq_27 pc (tb_27_0 pc) :=
  (x_Tok2
  (x_Tok2
  (x_Tok2
  (x_Lok (x_st (I := xJ) (xr_aload_n (i := 0) (x_dk dl_27_0_ok 0 rfl))))
  (x_Tok2
  (x_Lok (x_st (I := xJ) (xr_iconst (n := (-1)) (z := (-1)) (v := (-1)) (x_dk dl_27_0_ok 1 rfl) (by decide) (by decide))))
  (x_Lok (x_st (I := xJ) (xr_iconst (n := 0) (z := 0) (v := 0) (x_dk dl_27_0_ok 2 rfl) (by decide) (by decide))))))
  (x_Tok2
  (x_Lok (x_st (I := xJ) (xr_iconst (n := 0) (z := 0) (v := 0) (x_dk dl_27_0_ok 3 rfl) (by decide) (by decide))))
  (x_Tok2
  (x_Lok (x_ca (I := xJ) (q' := mq_28) rfl (xr_callV (q' := mq_28) (ix := 31) (n := 3) (in_t4 (List.mem_of_getElem? (i := 102) rfl) rfl) good_w (in_t1 (List.mem_of_getElem? (i := 10) rfl) rfl) (in_t4 (List.mem_of_getElem? (i := 99) rfl) rfl) (in_t4 (List.mem_of_getElem? (i := 100) rfl) rfl) (in_t4 (List.mem_of_getElem? (i := 101) rfl) rfl) (by decide +kernel) (by decide +kernel) (by decide +kernel) (x_dk dl_27_0_ok 4 rfl))))
  (x_Lok (x_st (I := xJ) (xr_aload_n (i := 0) (x_dk dl_27_0_ok 5 rfl)))))))
  (x_Tok2
  (x_Tok2
  (x_Lok (x_st (I := xJ) (xr_iconst (n := 0) (z := 0) (v := 0) (x_dk dl_27_0_ok 6 rfl) (by decide) (by decide))))
  (x_Tok2
  (x_Lok (x_st (I := xJ) (xr_putf (ci := 10) (k := 1) (ix := 35) (N := 21) (fk := 0) (C := RX10) (T := TX10) (ty0 := tyX10) (ty := .int) rfl in_X10 tyX10_ok nmX10 (by decide) (in_t3 (List.mem_of_getElem? (i := 11) rfl) rfl) rfl rfl x_fit_int (x_dk dl_27_0_ok 7 rfl))))
  (x_Lok (x_st (I := xJ) (xr_aload_n (i := 0) (x_dk dl_27_0_ok 8 rfl))))))
  (x_Tok2
  (x_Lok (x_st (I := xJ) (xr_iconst (n := 0) (z := 0) (v := 0) (x_dk dl_27_0_ok 9 rfl) (by decide) (by decide))))
  (x_Tok2
  (x_Lok (x_st (I := xJ) (xr_putf (ci := 10) (k := 4) (ix := 38) (N := 21) (fk := 0) (C := RX10) (T := TX10) (ty0 := tyX10) (ty := .int) rfl in_X10 tyX10_ok nmX10 (by decide) (in_t3 (List.mem_of_getElem? (i := 19) rfl) rfl) rfl rfl x_fit_int (x_dk dl_27_0_ok 10 rfl))))
  (x_Lok (x_rt (I := xJ) (k := 0) ⟨(x_dk dl_27_0_ok 11 rfl), rfl⟩))))))
def tb_27 : Nat → xE := tb_27_0
theorem tb_27_ok (K : xKx) (hK : x_KP K) : ∀ pc, x_EOq cls K xJ mq_27 pc (tb_27 pc) := tb_27_0_ok K hK
def dl_28_0 : List (Nat × Instr × Nat) := [(0, .aload_n 0, 1), (1, .iconst 1, 1), (2, .putfield 35, 3), (5, .aload_n 0, 1), (6, .iload_n 1, 1), (7, .putfield 41, 3), (10, .aload_n 0, 1), (11, .iload_n 3, 1), (12, .putfield 44, 3), (15, .aload_n 0, 1), (16, .iconst 0, 1), (17, .putfield 47, 3), (20, .aload_n 0, 1), (21, .iconst 0, 1), (22, .putfield 50, 3), (25, .aload_n 0, 1), (26, .iconst 0, 1), (27, .putfield 53, 3), (30, .aload_n 0, 1), (31, .iconst (-1), 1), (32, .putfield 57, 3), (35, .aload_n 0, 1), (36, .iconst 0, 1), (37, .putfield 60, 3), (40, .aload_n 0, 1), (41, .iconst 0, 1), (42, .putfield 38, 3), (45, .aload_n 0, 1), (46, .iconst 0, 1), (47, .putfield 63, 3), (50, .aload_n 0, 1), (51, .iload_n 2, 1), (52, .invokevirtual 66, 3), (55, .pop, 1), (56, .return_, 1)]
set_option maxRecDepth 20000 in
theorem dl_28_0_ok : dl_28_0.all (fun q => decide (decode prog_12_method_3_code q.1 = .ok (q.2.1, q.2.2))) = true := xa_g_ok (by decide +kernel)
def tb_28_0 : Nat → xE := (x_T 26 (x_T 11 (x_T 5 (x_T 1 (x_T 0 (x_L 0 (0, xi_load 0 2 1, 0, 0)) (x_L 1 (0, xi_push (0, 1, 1) 2, 0, 0))) (x_T 2 (x_L 2 (0, xi_putf 10 1 0 5, 0, 0)) (x_L 5 (0, xi_load 0 2 6, 0, 0)))) (x_T 7 (x_T 6 (x_L 6 (0, xi_load 1 0 7, 0, 0)) (x_L 7 (0, xi_putf 10 2 0 10, 0, 0))) (x_T 10 (x_L 10 (0, xi_load 0 2 11, 0, 0)) (x_L 11 (0, xi_load 3 0 12, 0, 0))))) (x_T 17 (x_T 15 (x_T 12 (x_L 12 (0, xi_putf 10 7 0 15, 0, 0)) (x_L 15 (0, xi_load 0 2 16, 0, 0))) (x_T 16 (x_L 16 (0, xi_push (0, 0, 0) 17, 0, 0)) (x_L 17 (0, xi_putf 10 5 0 20, 0, 0)))) (x_T 21 (x_T 20 (x_L 20 (0, xi_load 0 2 21, 0, 0)) (x_L 21 (0, xi_push (0, 0, 0) 22, 0, 0))) (x_T 22 (x_L 22 (0, xi_putf 10 6 0 25, 0, 0)) (x_T 25 (x_L 25 (0, xi_load 0 2 26, 0, 0)) (x_L 26 (0, xi_push (0, 0, 0) 27, 0, 0))))))) (x_T 41 (x_T 32 (x_T 30 (x_T 27 (x_L 27 (0, xi_putf 10 10 1 30, 0, 0)) (x_L 30 (0, xi_load 0 2 31, 0, 0))) (x_T 31 (x_L 31 (0, xi_push (0, (-1), (-1)) 32, 0, 0)) (x_L 32 (0, xi_putf 10 11 0 35, 0, 0)))) (x_T 36 (x_T 35 (x_L 35 (0, xi_load 0 2 36, 0, 0)) (x_L 36 (0, xi_push (0, 0, 0) 37, 0, 0))) (x_T 37 (x_L 37 (0, xi_putf 10 14 0 40, 0, 0)) (x_T 40 (x_L 40 (0, xi_load 0 2 41, 0, 0)) (x_L 41 (0, xi_push (0, 0, 0) 42, 0, 0)))))) (x_T 47 (x_T 45 (x_T 42 (x_L 42 (0, xi_putf 10 4 0 45, 0, 0)) (x_L 45 (0, xi_load 0 2 46, 0, 0))) (x_T 46 (x_L 46 (0, xi_push (0, 0, 0) 47, 0, 0)) (x_L 47 (0, xi_putf 10 15 0 50, 0, 0)))) (x_T 51 (x_T 50 (x_L 50 (0, xi_load 0 2 51, 0, 0)) (x_L 51 (0, xi_load 2 0 52, 0, 0))) (x_T 52 (x_L 52 (2, x_nof, 29, 2)) (x_T 55 (x_L 55 (0, xi_stk xf_pop 56, 0, 0)) (x_L 56 (1, x_nof, 0, 0))))))))
set_option maxRecDepth 20000 in
set_option maxHeartbeats 4000000 in
theorem tb_28_0_ok (K : xKx) (hK : x_KP K) : ∀ pc, x_EOq cls K xJ mq_28 pc (tb_28_0 pc) :=
  (x_Tok2
  (x_Tok2
  (x_Tok2
  (x_Tok2
  (x_Tok2
  (x_Lok (x_st (I := xJ) (xr_aload_n (i := 0) (x_dk dl_28_0_ok 0 rfl))))
  (x_Lok (x_st (I := xJ) (xr_iconst (n := 1) (z := 1) (v := 1) (x_dk dl_28_0_ok 1 rfl) (by decide) (by decide)))))
  (x_Tok2
  (x_Lok (x_st (I := xJ) (xr_putf (ci := 10) (k := 1) (ix := 35) (N := 21) (fk := 0) (C := RX10) (T := TX10) (ty0 := tyX10) (ty := .int) rfl in_X10 tyX10_ok nmX10 (by decide) (in_t3 (List.mem_of_getElem? (i := 11) rfl) rfl) rfl rfl x_fit_int (x_dk dl_28_0_ok 2 rfl))))
  (x_Lok (x_st (I := xJ) (xr_aload_n (i := 0) (x_dk dl_28_0_ok 3 rfl))))))
  (x_Tok2
  (x_Tok2
  (x_Lok (x_st (I := xJ) (xr_iload_n (i := 1) (x_dk dl_28_0_ok 4 rfl))))
  (x_Lok (x_st (I := xJ) (xr_putf (ci := 10) (k := 2) (ix := 41) (N := 21) (fk := 0) (C := RX10) (T := TX10) (ty0 := tyX10) (ty := .int) rfl in_X10 tyX10_ok nmX10 (by decide) (in_t3 (List.mem_of_getElem? (i := 14) rfl) rfl) rfl rfl x_fit_int (x_dk dl_28_0_ok 5 rfl)))))
  (x_Tok2
  (x_Lok (x_st (I := xJ) (xr_aload_n (i := 0) (x_dk dl_28_0_ok 6 rfl))))
  (x_Lok (x_st (I := xJ) (xr_iload_n (i := 3) (x_dk dl_28_0_ok 7 rfl)))))))
  (x_Tok2
  (x_Tok2
  (x_Tok2
  (x_Lok (x_st (I := xJ) (xr_putf (ci := 10) (k := 7) (ix := 44) (N := 21) (fk := 0) (C := RX10) (T := TX10) (ty0 := tyX10) (ty := .int) rfl in_X10 tyX10_ok nmX10 (by decide) (in_t3 (List.mem_of_getElem? (i := 27) rfl) rfl) rfl rfl x_fit_int (x_dk dl_28_0_ok 8 rfl))))
  (x_Lok (x_st (I := xJ) (xr_aload_n (i := 0) (x_dk dl_28_0_ok 9 rfl)))))
  (x_Tok2
  (x_Lok (x_st (I := xJ) (xr_iconst (n := 0) (z := 0) (v := 0) (x_dk dl_28_0_ok 10 rfl) (by decide) (by decide))))
  (x_Lok (x_st (I := xJ) (xr_putf (ci := 10) (k := 5) (ix := 47) (N := 21) (fk := 0) (C := RX10) (T := TX10) (ty0 := tyX10) (ty := .int) rfl in_X10 tyX10_ok nmX10 (by decide) (in_t3 (List.mem_of_getElem? (i := 22) rfl) rfl) rfl rfl x_fit_int (x_dk dl_28_0_ok 11 rfl))))))
  (x_Tok2
  (x_Tok2
  (x_Lok (x_st (I := xJ) (xr_aload_n (i := 0) (x_dk dl_28_0_ok 12 rfl))))
  (x_Lok (x_st (I := xJ) (xr_iconst (n := 0) (z := 0) (v := 0) (x_dk dl_28_0_ok 13 rfl) (by decide) (by decide)))))
  (x_Tok2
  (x_Lok (x_st (I := xJ) (xr_putf (ci := 10) (k := 6) (ix := 50) (N := 21) (fk := 0) (C := RX10) (T := TX10) (ty0 := tyX10) (ty := .int) rfl in_X10 tyX10_ok nmX10 (by decide) (in_t3 (List.mem_of_getElem? (i := 25) rfl) rfl) rfl rfl x_fit_int (x_dk dl_28_0_ok 14 rfl))))
  (x_Tok2
  (x_Lok (x_st (I := xJ) (xr_aload_n (i := 0) (x_dk dl_28_0_ok 15 rfl))))
  (x_Lok (x_st (I := xJ) (xr_iconst (n := 0) (z := 0) (v := 0) (x_dk dl_28_0_ok 16 rfl) (by decide) (by decide)))))))))
  (x_Tok2
  (x_Tok2
  (x_Tok2
  (x_Tok2
  (x_Lok (x_st (I := xJ) (xr_putf (ci := 10) (k := 10) (ix := 53) (N := 21) (fk := 1) (C := RX10) (T := TX10) (ty0 := tyX10) (ty := .boolean) rfl in_X10 tyX10_ok nmX10 (by decide) (in_t3 (List.mem_of_getElem? (i := 31) rfl) rfl) rfl rfl x_fit_bool (x_dk dl_28_0_ok 17 rfl))))
  (x_Lok (x_st (I := xJ) (xr_aload_n (i := 0) (x_dk dl_28_0_ok 18 rfl)))))
  (x_Tok2
  (x_Lok (x_st (I := xJ) (xr_iconst (n := (-1)) (z := (-1)) (v := (-1)) (x_dk dl_28_0_ok 19 rfl) (by decide) (by decide))))
  (x_Lok (x_st (I := xJ) (xr_putf (ci := 10) (k := 11) (ix := 57) (N := 21) (fk := 0) (C := RX10) (T := TX10) (ty0 := tyX10) (ty := .int) rfl in_X10 tyX10_ok nmX10 (by decide) (in_t3 (List.mem_of_getElem? (i := 33) rfl) rfl) rfl rfl x_fit_int (x_dk dl_28_0_ok 20 rfl))))))
  (x_Tok2
  (x_Tok2
  (x_Lok (x_st (I := xJ) (xr_aload_n (i := 0) (x_dk dl_28_0_ok 21 rfl))))
  (x_Lok (x_st (I := xJ) (xr_iconst (n := 0) (z := 0) (v := 0) (x_dk dl_28_0_ok 22 rfl) (by decide) (by decide)))))
  (x_Tok2
  (x_Lok (x_st (I := xJ) (xr_putf (ci := 10) (k := 14) (ix := 60) (N := 21) (fk := 0) (C := RX10) (T := TX10) (ty0 := tyX10) (ty := .int) rfl in_X10 tyX10_ok nmX10 (by decide) (in_t3 (List.mem_of_getElem? (i := 37) rfl) rfl) rfl rfl x_fit_int (x_dk dl_28_0_ok 23 rfl))))
  (x_Tok2
  (x_Lok (x_st (I := xJ) (xr_aload_n (i := 0) (x_dk dl_28_0_ok 24 rfl))))
  (x_Lok (x_st (I := xJ) (xr_iconst (n := 0) (z := 0) (v := 0) (x_dk dl_28_0_ok 25 rfl) (by decide) (by decide))))))))
  (x_Tok2
  (x_Tok2
  (x_Tok2
  (x_Lok (x_st (I := xJ) (xr_putf (ci := 10) (k := 4) (ix := 38) (N := 21) (fk := 0) (C := RX10) (T := TX10) (ty0 := tyX10) (ty := .int) rfl in_X10 tyX10_ok nmX10 (by decide) (in_t3 (List.mem_of_getElem? (i := 19) rfl) rfl) rfl rfl x_fit_int (x_dk dl_28_0_ok 26 rfl))))
  (x_Lok (x_st (I := xJ) (xr_aload_n (i := 0) (x_dk dl_28_0_ok 27 rfl)))))
  (x_Tok2
  (x_Lok (x_st (I := xJ) (xr_iconst (n := 0) (z := 0) (v := 0) (x_dk dl_28_0_ok 28 rfl) (by decide) (by decide))))
  (x_Lok (x_st (I := xJ) (xr_putf (ci := 10) (k := 15) (ix := 63) (N := 21) (fk := 0) (C := RX10) (T := TX10) (ty0 := tyX10) (ty := .int) rfl in_X10 tyX10_ok nmX10 (by decide) (in_t3 (List.mem_of_getElem? (i := 39) rfl) rfl) rfl rfl x_fit_int (x_dk dl_28_0_ok 29 rfl))))))
  (x_Tok2
  (x_Tok2
  (x_Lok (x_st (I := xJ) (xr_aload_n (i := 0) (x_dk dl_28_0_ok 30 rfl))))
  (x_Lok (x_st (I := xJ) (xr_iload_n (i := 2) (x_dk dl_28_0_ok 31 rfl)))))
  (x_Tok2
  (x_Lok (x_ca (I := xJ) (q' := mq_29) rfl (xr_callV (q' := mq_29) (ix := 66) (n := 1) (in_t4 (List.mem_of_getElem? (i := 106) rfl) rfl) good_w (in_t1 (List.mem_of_getElem? (i := 10) rfl) rfl) (in_t4 (List.mem_of_getElem? (i := 103) rfl) rfl) (in_t4 (List.mem_of_getElem? (i := 104) rfl) rfl) (in_t4 (List.mem_of_getElem? (i := 105) rfl) rfl) (by decide +kernel) (by decide +kernel) (by decide +kernel) (x_dk dl_28_0_ok 32 rfl))))
  (x_Tok2
  (x_Lok (x_st (I := xJ) (xr_pop (x_dk dl_28_0_ok 33 rfl))))
  (x_Lok (x_rt (I := xJ) (k := 0) ⟨(x_dk dl_28_0_ok 34 rfl), rfl⟩))))))))
def tb_28 : Nat → xE := tb_28_0
theorem tb_28_ok (K : xKx) (hK : x_KP K) : ∀ pc, x_EOq cls K xJ mq_28 pc (tb_28 pc) := tb_28_0_ok K hK
def dl_29_0 : List (Nat × Instr × Nat) := [(0, .aload_n 0, 1), (1, .getfield 38, 3), (4, .bipush 20, 2), (6, .if_icmp .lt 5, 3), (11, .aload_n 0, 1), (12, .getfield 11, 3), (15, .aload_n 0, 1), (16, .getfield 38, 3), (19, .aload_n 0, 1), (20, .getfield 70, 3), (23, .iastore, 1), (24, .aload_n 0, 1), (25, .getfield 15, 3), (28, .aload_n 0, 1), (29, .getfield 38, 3), (32, .aload_n 0, 1), (33, .getfield 63, 3), (36, .iastore, 1), (37, .aload_n 0, 1), (38, .dup, 1), (39, .getfield 38, 3), (42, .iconst 1, 1), (43, .iadd, 1), (44, .putfield 38, 3), (47, .aload_n 0, 1), (48, .iload_n 1, 1), (49, .putfield 70, 3), (52, .iconst 1, 1), (53, .ireturn, 1)]
set_option maxRecDepth 20000 in
theorem dl_29_0_ok : dl_29_0.all (fun q => decide (decode prog_12_method_5_code q.1 = .ok (q.2.1, q.2.2))) = true := xa_g_ok (by decide +kernel)
def tb_29_0 : Nat → xE := (x_T 28 (x_T 15 (x_T 4 (x_T 0 (x_L 0 (0, xi_load 0 2 1, 0, 0)) (x_T 1 (x_L 1 (0, xi_getf 10 4 4, 0, 0)) (x_L 4 (0, xi_push (0, 20, 20) 6, 0, 0)))) (x_T 11 (x_T 6 (x_L 6 (0, xi_if2 2 11 9, 0, 0)) (x_L 11 (0, xi_load 0 2 12, 0, 0))) (x_T 12 (x_L 12 (0, xi_getf 10 16 15, 0, 0)) (x_L 15 (0, xi_load 0 2 16, 0, 0))))) (x_T 20 (x_T 16 (x_L 16 (0, xi_getf 10 4 19, 0, 0)) (x_T 19 (x_L 19 (0, xi_load 0 2 20, 0, 0)) (x_L 20 (0, xi_getf 10 3 23, 0, 0)))) (x_T 24 (x_T 23 (x_L 23 (0, xi_ast false 24, 0, 0)) (x_L 24 (0, xi_load 0 2 25, 0, 0))) (x_T 25 (x_L 25 (0, xi_getf 10 17 28, 0, 0)) (x_L 28 (0, xi_load 0 2 29, 0, 0)))))) (x_T 39 (x_T 33 (x_T 29 (x_L 29 (0, xi_getf 10 4 32, 0, 0)) (x_T 32 (x_L 32 (0, xi_load 0 2 33, 0, 0)) (x_L 33 (0, xi_getf 10 15 36, 0, 0)))) (x_T 37 (x_T 36 (x_L 36 (0, xi_ast false 37, 0, 0)) (x_L 37 (0, xi_load 0 2 38, 0, 0))) (x_T 38 (x_L 38 (0, xi_stk xf_dup 39, 0, 0)) (x_L 39 (0, xi_getf 10 4 42, 0, 0))))) (x_T 47 (x_T 43 (x_T 42 (x_L 42 (0, xi_push (0, 1, 1) 43, 0, 0)) (x_L 43 (0, xi_bin xF_add 44, 0, 0))) (x_T 44 (x_L 44 (0, xi_putf 10 4 0 47, 0, 0)) (x_L 47 (0, xi_load 0 2 48, 0, 0)))) (x_T 49 (x_T 48 (x_L 48 (0, xi_load 1 0 49, 0, 0)) (x_L 49 (0, xi_putf 10 3 0 52, 0, 0))) (x_T 52 (x_L 52 (0, xi_push (0, 1, 1) 53, 0, 0)) (x_L 53 (1, x_nof, 4, 0)))))))
set_option maxRecDepth 20000 in
set_option maxHeartbeats 4000000 in
theorem tb_29_0_ok (K : xKx) (hK : x_KP K) : ∀ pc, x_EOq cls K xJ mq_29 pc (tb_29_0 pc) :=
  (x_Tok2
  (x_Tok2
  (x_Tok2
  (x_Tok2
  (x_Lok (x_st (I := xJ) (xr_aload_n (i := 0) (x_dk dl_29_0_ok 0 rfl))))
  (x_Tok2
  (x_Lok (x_st (I := xJ) (xr_getf (ci := 10) (k := 4) (ix := 38) (N := 21) (C := RX10) (T := TX10) rfl in_X10 (by decide) (in_t3 (List.mem_of_getElem? (i := 19) rfl) rfl) (x_dk dl_29_0_ok 1 rfl))))
  (x_Lok (x_st (I := xJ) (xr_bipush (n := 20) (z := 20) (v := 20) (x_dk dl_29_0_ok 2 rfl) (by decide) (by decide))))))
  (x_Tok2
  (x_Tok2
  (x_Lok (x_st (I := xJ) (xr_icmplt (off := 5) (tg := 11) (x_dk dl_29_0_ok 3 rfl) (by decide))))
  (x_Lok (x_st (I := xJ) (xr_aload_n (i := 0) (x_dk dl_29_0_ok 4 rfl)))))
  (x_Tok2
  (x_Lok (x_st (I := xJ) (xr_getf (ci := 10) (k := 16) (ix := 11) (N := 21) (C := RX10) (T := TX10) rfl in_X10 (by decide) (in_t3 (List.mem_of_getElem? (i := 40) rfl) rfl) (x_dk dl_29_0_ok 5 rfl))))
  (x_Lok (x_st (I := xJ) (xr_aload_n (i := 0) (x_dk dl_29_0_ok 6 rfl)))))))
  (x_Tok2
  (x_Tok2
  (x_Lok (x_st (I := xJ) (xr_getf (ci := 10) (k := 4) (ix := 38) (N := 21) (C := RX10) (T := TX10) rfl in_X10 (by decide) (in_t3 (List.mem_of_getElem? (i := 19) rfl) rfl) (x_dk dl_29_0_ok 7 rfl))))
  (x_Tok2
  (x_Lok (x_st (I := xJ) (xr_aload_n (i := 0) (x_dk dl_29_0_ok 8 rfl))))
  (x_Lok (x_st (I := xJ) (xr_getf (ci := 10) (k := 3) (ix := 70) (N := 21) (C := RX10) (T := TX10) rfl in_X10 (by decide) (in_t3 (List.mem_of_getElem? (i := 17) rfl) rfl) (x_dk dl_29_0_ok 9 rfl))))))
  (x_Tok2
  (x_Tok2
  (x_Lok (x_st (I := xJ) (xr_iastore (x_dk dl_29_0_ok 10 rfl))))
  (x_Lok (x_st (I := xJ) (xr_aload_n (i := 0) (x_dk dl_29_0_ok 11 rfl)))))
  (x_Tok2
  (x_Lok (x_st (I := xJ) (xr_getf (ci := 10) (k := 17) (ix := 15) (N := 21) (C := RX10) (T := TX10) rfl in_X10 (by decide) (in_t3 (List.mem_of_getElem? (i := 41) rfl) rfl) (x_dk dl_29_0_ok 12 rfl))))
  (x_Lok (x_st (I := xJ) (xr_aload_n (i := 0) (x_dk dl_29_0_ok 13 rfl))))))))
  (x_Tok2
  (x_Tok2
  (x_Tok2
  (x_Lok (x_st (I := xJ) (xr_getf (ci := 10) (k := 4) (ix := 38) (N := 21) (C := RX10) (T := TX10) rfl in_X10 (by decide) (in_t3 (List.mem_of_getElem? (i := 19) rfl) rfl) (x_dk dl_29_0_ok 14 rfl))))
  (x_Tok2
  (x_Lok (x_st (I := xJ) (xr_aload_n (i := 0) (x_dk dl_29_0_ok 15 rfl))))
  (x_Lok (x_st (I := xJ) (xr_getf (ci := 10) (k := 15) (ix := 63) (N := 21) (C := RX10) (T := TX10) rfl in_X10 (by decide) (in_t3 (List.mem_of_getElem? (i := 39) rfl) rfl) (x_dk dl_29_0_ok 16 rfl))))))
  (x_Tok2
  (x_Tok2
  (x_Lok (x_st (I := xJ) (xr_iastore (x_dk dl_29_0_ok 17 rfl))))
  (x_Lok (x_st (I := xJ) (xr_aload_n (i := 0) (x_dk dl_29_0_ok 18 rfl)))))
  (x_Tok2
  (x_Lok (x_st (I := xJ) (xr_dup (x_dk dl_29_0_ok 19 rfl))))
  (x_Lok (x_st (I := xJ) (xr_getf (ci := 10) (k := 4) (ix := 38) (N := 21) (C := RX10) (T := TX10) rfl in_X10 (by decide) (in_t3 (List.mem_of_getElem? (i := 19) rfl) rfl) (x_dk dl_29_0_ok 20 rfl)))))))
  (x_Tok2
  (x_Tok2
  (x_Tok2
  (x_Lok (x_st (I := xJ) (xr_iconst (n := 1) (z := 1) (v := 1) (x_dk dl_29_0_ok 21 rfl) (by decide) (by decide))))
  (x_Lok (x_st (I := xJ) (xr_iadd (x_dk dl_29_0_ok 22 rfl)))))
  (x_Tok2
  (x_Lok (x_st (I := xJ) (xr_putf (ci := 10) (k := 4) (ix := 38) (N := 21) (fk := 0) (C := RX10) (T := TX10) (ty0 := tyX10) (ty := .int) rfl in_X10 tyX10_ok nmX10 (by decide) (in_t3 (List.mem_of_getElem? (i := 19) rfl) rfl) rfl rfl x_fit_int (x_dk dl_29_0_ok 23 rfl))))
  (x_Lok (x_st (I := xJ) (xr_aload_n (i := 0) (x_dk dl_29_0_ok 24 rfl))))))
  (x_Tok2
  (x_Tok2
  (x_Lok (x_st (I := xJ) (xr_iload_n (i := 1) (x_dk dl_29_0_ok 25 rfl))))
  (x_Lok (x_st (I := xJ) (xr_putf (ci := 10) (k := 3) (ix := 70) (N := 21) (fk := 0) (C := RX10) (T := TX10) (ty0 := tyX10) (ty := .int) rfl in_X10 tyX10_ok nmX10 (by decide) (in_t3 (List.mem_of_getElem? (i := 17) rfl) rfl) rfl rfl x_fit_int (x_dk dl_29_0_ok 26 rfl)))))
  (x_Tok2
  (x_Lok (x_st (I := xJ) (xr_iconst (n := 1) (z := 1) (v := 1) (x_dk dl_29_0_ok 27 rfl) (by decide) (by decide))))
  (x_Lok (x_rt (I := xJ) (k := 4) ⟨(x_dk dl_29_0_ok 28 rfl), rfl⟩)))))))
def tb_29 : Nat → xE := tb_29_0
theorem tb_29_ok (K : xKx) (hK : x_KP K) : ∀ pc, x_EOq cls K xJ mq_29 pc (tb_29 pc) := tb_29_0_ok K hK
def dl_30_0 : List (Nat × Instr × Nat) := [(0, .aload_n 0, 1), (1, .invokespecial 1, 3), (4, .aload_n 0, 1), (5, .new 7, 3), (8, .dup, 1), (9, .invokespecial 9, 3), (12, .putfield 10, 3), (15, .aload_n 0, 1), (16, .new 16, 3), (19, .dup, 1), (20, .invokespecial 18, 3), (23, .putfield 19, 3), (26, .aload_n 0, 1), (27, .aload_n 0, 1), (28, .getfield 19, 3), (31, .getfield 23, 3), (34, .putfield 27, 3), (37, .aload_n 0, 1), (38, .aload_n 0, 1), (39, .getfield 19, 3), (42, .getfield 28, 3), (45, .putfield 32, 3), (48, .aload_n 0, 1), (49, .aload_n 0, 1), (50, .getfield 19, 3), (53, .getfield 33, 3), (56, .putfield 37, 3), (59, .aload_n 0, 1), (60, .aload_n 0, 1), (61, .getfield 19, 3), (64, .getfield 38, 3), (67, .putfield 42, 3), (70, .aload_n 0, 1), (71, .new 43, 3), (74, .dup, 1), (75, .invokespecial 45, 3), (78, .putfield 46, 3), (81, .aload_n 0, 1), (82, .new 50, 3), (85, .dup, 1), (86, .invokespecial 52, 3), (89, .putfield 53, 3), (92, .aload_n 0, 1), (93, .bipush 6, 2), (95, .newarray .int, 2), (97, .putfield 57, 3), (100, .aload_n 0, 1), (101, .sipush 8000, 3), (104, .newarray .int, 2), (106, .putfield 61, 3), (109, .aload_n 0, 1), (110, .iconst 4, 1), (111, .newarray .int, 2), (113, .putfield 64, 3), (116, .aload_n 0, 1), (117, .iconst 1, 1), (118, .putfield 67, 3), (121, .aload_n 0, 1), (122, .invokevirtual 71, 3), (125, .return_, 1)]
set_option maxRecDepth 20000 in
theorem dl_30_0_ok : dl_30_0.all (fun q => decide (decode prog_1_method_1_code q.1 = .ok (q.2.1, q.2.2))) = true := xa_g_ok (by decide +kernel)
def tb_30_0 : Nat → xE := (x_T 28 (x_T 12 (x_T 4 (x_T 0 (x_L 0 (0, xi_load 0 2 1, 0, 0)) (x_T 1 (x_L 1 (0, xi_oi 4, 0, 0)) (x_L 4 (0, xi_load 0 2 5, 0, 0)))) (x_T 8 (x_T 5 (x_L 5 (0, xi_new (x_nc 8 ks_X8) (xm_c mq_30) (xm_s mq_30) 8, 0, 0)) (x_L 8 (0, xi_stk xf_dup 9, 0, 0))) (x_T 9 (x_L 9 (2, x_nof, 24, 1)) (x_L 12 (0, xi_putf 11 0 2 15, 0, 0))))) (x_T 20 (x_T 16 (x_T 15 (x_L 15 (0, xi_load 0 2 16, 0, 0)) (x_L 16 (0, xi_new (x_nc 3 ks_X3) (xm_c mq_30) (xm_s mq_30) 19, 0, 0))) (x_T 19 (x_L 19 (0, xi_stk xf_dup 20, 0, 0)) (x_L 20 (2, x_nof, 12, 1)))) (x_T 26 (x_T 23 (x_L 23 (0, xi_putf 11 1 2 26, 0, 0)) (x_L 26 (0, xi_load 0 2 27, 0, 0))) (x_T 27 (x_L 27 (0, xi_load 0 2 28, 0, 0)) (x_L 28 (0, xi_getf 11 1 31, 0, 0)))))) (x_T 45 (x_T 37 (x_T 31 (x_L 31 (0, xi_getf 3 0 34, 0, 0)) (x_T 34 (x_L 34 (0, xi_putf 11 2 2 37, 0, 0)) (x_L 37 (0, xi_load 0 2 38, 0, 0)))) (x_T 39 (x_T 38 (x_L 38 (0, xi_load 0 2 39, 0, 0)) (x_L 39 (0, xi_getf 11 1 42, 0, 0))) (x_T 42 (x_L 42 (0, xi_getf 3 1 45, 0, 0)) (x_L 45 (0, xi_putf 11 3 2 48, 0, 0))))) (x_T 53 (x_T 49 (x_T 48 (x_L 48 (0, xi_load 0 2 49, 0, 0)) (x_L 49 (0, xi_load 0 2 50, 0, 0))) (x_T 50 (x_L 50 (0, xi_getf 11 1 53, 0, 0)) (x_L 53 (0, xi_getf 3 2 56, 0, 0)))) (x_T 59 (x_T 56 (x_L 56 (0, xi_putf 11 4 2 59, 0, 0)) (x_L 59 (0, xi_load 0 2 60, 0, 0))) (x_T 60 (x_L 60 (0, xi_load 0 2 61, 0, 0)) (x_L 61 (0, xi_getf 11 1 64, 0, 0)))))))
set_option maxRecDepth 20000 in
set_option maxHeartbeats 4000000 in
theorem tb_30_0_ok (K : xKx) (hK : x_KP K) : ∀ pc, x_EOq cls K xJ mq_30 pc (tb_30_0 pc) :=
  (x_Tok2
  (x_Tok2
  (x_Tok2
  (x_Tok2
  (x_Lok (x_st (I := xJ) (xr_aload_n (i := 0) (x_dk dl_30_0_ok 0 rfl))))
  (x_Tok2
  (x_Lok (x_st (I := xJ) (xr_oi (ix := 1) (in_t1 (List.mem_of_getElem? (i := 26) rfl) rfl) (in_t1 (List.mem_of_getElem? (i := 27) rfl) rfl) (in_t1 (List.mem_of_getElem? (i := 28) rfl) rfl) (x_dk dl_30_0_ok 1 rfl))))
  (x_Lok (x_st (I := xJ) (xr_aload_n (i := 0) (x_dk dl_30_0_ok 2 rfl))))))
  (x_Tok2
  (x_Tok2
  (x_Lok (x_st (I := xJ) (xr_new (ci := 8) (ix := 7) (N := 17) (C := RX8) (T := TX8) (ty0 := tyX8) (ks := ks_X8) rfl in_X8 tyX8_ok (in_t1 (List.mem_of_getElem? (i := 29) rfl) rfl) (in_t1 (List.mem_of_getElem? (i := 30) rfl) rfl) (in_t1 (List.mem_of_getElem? (i := 2) rfl) rfl) rfl df_X8 (x_dk dl_30_0_ok 3 rfl))))
  (x_Lok (x_st (I := xJ) (xr_dup (x_dk dl_30_0_ok 4 rfl)))))
  (x_Tok2
  (x_Lok (x_ca (I := xJ) (q' := mq_24) rfl (xr_callIN (q' := mq_24) (ix := 9) (n := 0) (host := "RobotCellHouse") (in_t1 (List.mem_of_getElem? (i := 33) rfl) rfl) good_w (in_t1 (List.mem_of_getElem? (i := 2) rfl) rfl) (List.mem_of_getElem? (i := 0) rfl) (in_t1 (List.mem_of_getElem? (i := 32) rfl) rfl) rfl rfl (by decide +kernel) (by decide +kernel) (by decide +kernel) (x_dk dl_30_0_ok 5 rfl))))
  (x_Lok (x_st (I := xJ) (xr_putF (ci := 11) (k := 0) (ix := 10) (N := 15) (fk := 2) (C := RX11) (T := TX11) (ty0 := tyX11) (ty := .object "RobotCellHouse$Reader") rfl in_X11 tyX11_ok nmX11 (by decide) (in_t4 (List.mem_of_getElem? (i := 108) rfl) rfl) rfl rfl rfl rfl x_fit_obj (x_dk dl_30_0_ok 6 rfl)))))))
  (x_Tok2
  (x_Tok2
  (x_Tok2
  (x_Lok (x_st (I := xJ) (xr_aload_n (i := 0) (x_dk dl_30_0_ok 7 rfl))))
  (x_Lok (x_st (I := xJ) (xr_new (ci := 3) (ix := 16) (N := 12) (C := RX3) (T := TX3) (ty0 := tyX3) (ks := ks_X3) rfl in_X3 tyX3_ok (in_t1 (List.mem_of_getElem? (i := 122) rfl) rfl) (in_t1 (List.mem_of_getElem? (i := 123) rfl) rfl) (in_t1 (List.mem_of_getElem? (i := 4) rfl) rfl) rfl df_X3 (x_dk dl_30_0_ok 8 rfl)))))
  (x_Tok2
  (x_Lok (x_st (I := xJ) (xr_dup (x_dk dl_30_0_ok 9 rfl))))
  (x_Lok (x_ca (I := xJ) (q' := mq_12) rfl (xr_callI (q' := mq_12) (ix := 18) (n := 0) (in_t1 (List.mem_of_getElem? (i := 126) rfl) rfl) good_w (in_t1 (List.mem_of_getElem? (i := 4) rfl) rfl) (in_t1 (List.mem_of_getElem? (i := 124) rfl) rfl) (in_t1 (List.mem_of_getElem? (i := 125) rfl) rfl) rfl rfl (by decide +kernel) (by decide +kernel) (by decide +kernel) (x_dk dl_30_0_ok 10 rfl))))))
  (x_Tok2
  (x_Tok2
  (x_Lok (x_st (I := xJ) (xr_putF (ci := 11) (k := 1) (ix := 19) (N := 15) (fk := 2) (C := RX11) (T := TX11) (ty0 := tyX11) (ty := .object "RobotCellHouse$Doer") rfl in_X11 tyX11_ok nmX11 (by decide) (in_t4 (List.mem_of_getElem? (i := 109) rfl) rfl) rfl rfl rfl rfl x_fit_obj (x_dk dl_30_0_ok 11 rfl))))
  (x_Lok (x_st (I := xJ) (xr_aload_n (i := 0) (x_dk dl_30_0_ok 12 rfl)))))
  (x_Tok2
  (x_Lok (x_st (I := xJ) (xr_aload_n (i := 0) (x_dk dl_30_0_ok 13 rfl))))
  (x_Lok (x_st (I := xJ) (xr_getf (ci := 11) (k := 1) (ix := 19) (N := 15) (C := RX11) (T := TX11) rfl in_X11 (by decide) (in_t4 (List.mem_of_getElem? (i := 109) rfl) rfl) (x_dk dl_30_0_ok 14 rfl))))))))
  (x_Tok2
  (x_Tok2
  (x_Tok2
  (x_Lok (x_st (I := xJ) (xr_getf (ci := 3) (k := 0) (ix := 23) (N := 12) (C := RX3) (T := TX3) rfl in_X3 (by decide) (in_t3 (List.mem_of_getElem? (i := 89) rfl) rfl) (x_dk dl_30_0_ok 15 rfl))))
  (x_Tok2
  (x_Lok (x_st (I := xJ) (xr_putF (ci := 11) (k := 2) (ix := 27) (N := 15) (fk := 2) (C := RX11) (T := TX11) (ty0 := tyX11) (ty := .array (.object "RobotCellHouse$Arm")) rfl in_X11 tyX11_ok nmX11 (by decide) (in_t4 (List.mem_of_getElem? (i := 110) rfl) rfl) rfl rfl rfl rfl x_fit_arr (x_dk dl_30_0_ok 16 rfl))))
  (x_Lok (x_st (I := xJ) (xr_aload_n (i := 0) (x_dk dl_30_0_ok 17 rfl))))))
  (x_Tok2
  (x_Tok2
  (x_Lok (x_st (I := xJ) (xr_aload_n (i := 0) (x_dk dl_30_0_ok 18 rfl))))
  (x_Lok (x_st (I := xJ) (xr_getf (ci := 11) (k := 1) (ix := 19) (N := 15) (C := RX11) (T := TX11) rfl in_X11 (by decide) (in_t4 (List.mem_of_getElem? (i := 109) rfl) rfl) (x_dk dl_30_0_ok 19 rfl)))))
  (x_Tok2
  (x_Lok (x_st (I := xJ) (xr_getf (ci := 3) (k := 1) (ix := 28) (N := 12) (C := RX3) (T := TX3) rfl in_X3 (by decide) (in_t3 (List.mem_of_getElem? (i := 91) rfl) rfl) (x_dk dl_30_0_ok 20 rfl))))
  (x_Lok (x_st (I := xJ) (xr_putF (ci := 11) (k := 3) (ix := 32) (N := 15) (fk := 2) (C := RX11) (T := TX11) (ty0 := tyX11) (ty := .object "RobotCellHouse$Points") rfl in_X11 tyX11_ok nmX11 (by decide) (in_t4 (List.mem_of_getElem? (i := 111) rfl) rfl) rfl rfl rfl rfl x_fit_obj (x_dk dl_30_0_ok 21 rfl)))))))
  (x_Tok2
  (x_Tok2
  (x_Tok2
  (x_Lok (x_st (I := xJ) (xr_aload_n (i := 0) (x_dk dl_30_0_ok 22 rfl))))
  (x_Lok (x_st (I := xJ) (xr_aload_n (i := 0) (x_dk dl_30_0_ok 23 rfl)))))
  (x_Tok2
  (x_Lok (x_st (I := xJ) (xr_getf (ci := 11) (k := 1) (ix := 19) (N := 15) (C := RX11) (T := TX11) rfl in_X11 (by decide) (in_t4 (List.mem_of_getElem? (i := 109) rfl) rfl) (x_dk dl_30_0_ok 24 rfl))))
  (x_Lok (x_st (I := xJ) (xr_getf (ci := 3) (k := 2) (ix := 33) (N := 12) (C := RX3) (T := TX3) rfl in_X3 (by decide) (in_t3 (List.mem_of_getElem? (i := 93) rfl) rfl) (x_dk dl_30_0_ok 25 rfl))))))
  (x_Tok2
  (x_Tok2
  (x_Lok (x_st (I := xJ) (xr_putF (ci := 11) (k := 4) (ix := 37) (N := 15) (fk := 2) (C := RX11) (T := TX11) (ty0 := tyX11) (ty := .object "RobotCellHouse$Floor") rfl in_X11 tyX11_ok nmX11 (by decide) (in_t4 (List.mem_of_getElem? (i := 112) rfl) rfl) rfl rfl rfl rfl x_fit_obj (x_dk dl_30_0_ok 26 rfl))))
  (x_Lok (x_st (I := xJ) (xr_aload_n (i := 0) (x_dk dl_30_0_ok 27 rfl)))))
  (x_Tok2
  (x_Lok (x_st (I := xJ) (xr_aload_n (i := 0) (x_dk dl_30_0_ok 28 rfl))))
  (x_Lok (x_st (I := xJ) (xr_getf (ci := 11) (k := 1) (ix := 19) (N := 15) (C := RX11) (T := TX11) rfl in_X11 (by decide) (in_t4 (List.mem_of_getElem? (i := 109) rfl) rfl) (x_dk dl_30_0_ok 29 rfl)))))))))
def tb_30_30 : Nat → xE := (x_T 95 (x_T 78 (x_T 70 (x_T 64 (x_L 64 (0, xi_getf 3 3 67, 0, 0)) (x_T 67 (x_L 67 (0, xi_putf 11 5 2 70, 0, 0)) (x_L 70 (0, xi_load 0 2 71, 0, 0)))) (x_T 74 (x_T 71 (x_L 71 (0, xi_new (x_nc 9 ks_X9) (xm_c mq_30) (xm_s mq_30) 74, 0, 0)) (x_L 74 (0, xi_stk xf_dup 75, 0, 0))) (x_T 75 (x_L 75 (2, x_nof, 25, 1)) (x_L 78 (0, xi_putf 11 6 2 81, 0, 0))))) (x_T 86 (x_T 82 (x_T 81 (x_L 81 (0, xi_load 0 2 82, 0, 0)) (x_L 82 (0, xi_new (x_nc 6 ks_X6) (xm_c mq_30) (xm_s mq_30) 85, 0, 0))) (x_T 85 (x_L 85 (0, xi_stk xf_dup 86, 0, 0)) (x_L 86 (2, x_nof, 17, 1)))) (x_T 92 (x_T 89 (x_L 89 (0, xi_putf 11 7 2 92, 0, 0)) (x_L 92 (0, xi_load 0 2 93, 0, 0))) (x_T 93 (x_L 93 (0, xi_push (0, 6, 6) 95, 0, 0)) (x_L 95 (0, xi_newa 1 0 (0, 0, 0) (xm_c mq_30) (xm_s mq_30) 97, 0, 0)))))) (x_T 110 (x_T 101 (x_T 97 (x_L 97 (0, xi_putf 11 8 2 100, 0, 0)) (x_T 100 (x_L 100 (0, xi_load 0 2 101, 0, 0)) (x_L 101 (0, xi_push (0, 8000, 8000) 104, 0, 0)))) (x_T 106 (x_T 104 (x_L 104 (0, xi_newa 1 0 (0, 0, 0) (xm_c mq_30) (xm_s mq_30) 106, 0, 0)) (x_L 106 (0, xi_putf 11 9 2 109, 0, 0))) (x_T 109 (x_L 109 (0, xi_load 0 2 110, 0, 0)) (x_L 110 (0, xi_push (0, 4, 4) 111, 0, 0))))) (x_T 117 (x_T 113 (x_T 111 (x_L 111 (0, xi_newa 1 0 (0, 0, 0) (xm_c mq_30) (xm_s mq_30) 113, 0, 0)) (x_L 113 (0, xi_putf 11 10 2 116, 0, 0))) (x_T 116 (x_L 116 (0, xi_load 0 2 117, 0, 0)) (x_L 117 (0, xi_push (0, 1, 1) 118, 0, 0)))) (x_T 121 (x_T 118 (x_L 118 (0, xi_putf 11 14 1 121, 0, 0)) (x_L 121 (0, xi_load 0 2 122, 0, 0))) (x_T 122 (x_L 122 (2, x_nof, 31, 1)) (x_L 125 (1, x_nof, 0, 0)))))))
set_option maxRecDepth 20000 in
set_option maxHeartbeats 4000000 in
theorem tb_30_30_ok (K : xKx) (hK : x_KP K) : ∀ pc, x_EOq cls K xJ mq_30 pc (tb_30_30 pc) :=
  (x_Tok2
  (x_Tok2
  (x_Tok2
  (x_Tok2
  (x_Lok (x_st (I := xJ) (xr_getf (ci := 3) (k := 3) (ix := 38) (N := 12) (C := RX3) (T := TX3) rfl in_X3 (by decide) (in_t3 (List.mem_of_getElem? (i := 95) rfl) rfl) (x_dk dl_30_0_ok 30 rfl))))
  (x_Tok2
  (x_Lok (x_st (I := xJ) (xr_putF (ci := 11) (k := 5) (ix := 42) (N := 15) (fk := 2) (C := RX11) (T := TX11) (ty0 := tyX11) (ty := .object "RobotCellHouse$Core") rfl in_X11 tyX11_ok nmX11 (by decide) (in_t4 (List.mem_of_getElem? (i := 113) rfl) rfl) rfl rfl rfl rfl x_fit_obj (x_dk dl_30_0_ok 31 rfl))))
  (x_Lok (x_st (I := xJ) (xr_aload_n (i := 0) (x_dk dl_30_0_ok 32 rfl))))))
  (x_Tok2
  (x_Tok2
  (x_Lok (x_st (I := xJ) (xr_new (ci := 9) (ix := 43) (N := 17) (C := RX9) (T := TX9) (ty0 := tyX9) (ks := ks_X9) rfl in_X9 tyX9_ok (in_t3 (List.mem_of_getElem? (i := 131) rfl) rfl) (in_t3 (List.mem_of_getElem? (i := 132) rfl) rfl) (in_t1 (List.mem_of_getElem? (i := 11) rfl) rfl) rfl df_X9 (x_dk dl_30_0_ok 33 rfl))))
  (x_Lok (x_st (I := xJ) (xr_dup (x_dk dl_30_0_ok 34 rfl)))))
  (x_Tok2
  (x_Lok (x_ca (I := xJ) (q' := mq_25) rfl (xr_callIN (q' := mq_25) (ix := 45) (n := 0) (host := "RobotCellHouse") (in_t3 (List.mem_of_getElem? (i := 135) rfl) rfl) good_w (in_t1 (List.mem_of_getElem? (i := 11) rfl) rfl) (List.mem_of_getElem? (i := 7) rfl) (in_t3 (List.mem_of_getElem? (i := 134) rfl) rfl) rfl rfl (by decide +kernel) (by decide +kernel) (by decide +kernel) (x_dk dl_30_0_ok 35 rfl))))
  (x_Lok (x_st (I := xJ) (xr_putF (ci := 11) (k := 6) (ix := 46) (N := 15) (fk := 2) (C := RX11) (T := TX11) (ty0 := tyX11) (ty := .object "RobotCellHouse$Shapes") rfl in_X11 tyX11_ok nmX11 (by decide) (in_t4 (List.mem_of_getElem? (i := 114) rfl) rfl) rfl rfl rfl rfl x_fit_obj (x_dk dl_30_0_ok 36 rfl)))))))
  (x_Tok2
  (x_Tok2
  (x_Tok2
  (x_Lok (x_st (I := xJ) (xr_aload_n (i := 0) (x_dk dl_30_0_ok 37 rfl))))
  (x_Lok (x_st (I := xJ) (xr_new (ci := 6) (ix := 50) (N := 13) (C := RX6) (T := TX6) (ty0 := tyX6) (ks := ks_X6) rfl in_X6 tyX6_ok (in_t3 (List.mem_of_getElem? (i := 192) rfl) rfl) (in_t3 (List.mem_of_getElem? (i := 193) rfl) rfl) (in_t1 (List.mem_of_getElem? (i := 12) rfl) rfl) rfl df_X6 (x_dk dl_30_0_ok 38 rfl)))))
  (x_Tok2
  (x_Lok (x_st (I := xJ) (xr_dup (x_dk dl_30_0_ok 39 rfl))))
  (x_Lok (x_ca (I := xJ) (q' := mq_17) rfl (xr_callIN (q' := mq_17) (ix := 52) (n := 0) (host := "RobotCellHouse") (in_t3 (List.mem_of_getElem? (i := 196) rfl) rfl) good_w (in_t1 (List.mem_of_getElem? (i := 12) rfl) rfl) (List.mem_of_getElem? (i := 8) rfl) (in_t3 (List.mem_of_getElem? (i := 195) rfl) rfl) rfl rfl (by decide +kernel) (by decide +kernel) (by decide +kernel) (x_dk dl_30_0_ok 40 rfl))))))
  (x_Tok2
  (x_Tok2
  (x_Lok (x_st (I := xJ) (xr_putF (ci := 11) (k := 7) (ix := 53) (N := 15) (fk := 2) (C := RX11) (T := TX11) (ty0 := tyX11) (ty := .object "RobotCellHouse$Planner") rfl in_X11 tyX11_ok nmX11 (by decide) (in_t4 (List.mem_of_getElem? (i := 115) rfl) rfl) rfl rfl rfl rfl x_fit_obj (x_dk dl_30_0_ok 41 rfl))))
  (x_Lok (x_st (I := xJ) (xr_aload_n (i := 0) (x_dk dl_30_0_ok 42 rfl)))))
  (x_Tok2
  (x_Lok (x_st (I := xJ) (xr_bipush (n := 6) (z := 6) (v := 6) (x_dk dl_30_0_ok 43 rfl) (by decide) (by decide))))
  (x_Lok (x_st (I := xJ) (xr_newa (kd := 1) (b := false) (ty := .int) rfl rfl (in_t1 (List.mem_of_getElem? (i := 64) rfl) rfl) (x_dk dl_30_0_ok 44 rfl))))))))
  (x_Tok2
  (x_Tok2
  (x_Tok2
  (x_Lok (x_st (I := xJ) (xr_putF (ci := 11) (k := 8) (ix := 57) (N := 15) (fk := 2) (C := RX11) (T := TX11) (ty0 := tyX11) (ty := .array .int) rfl in_X11 tyX11_ok nmX11 (by decide) (in_t4 (List.mem_of_getElem? (i := 116) rfl) rfl) rfl rfl rfl rfl x_fit_arr (x_dk dl_30_0_ok 45 rfl))))
  (x_Tok2
  (x_Lok (x_st (I := xJ) (xr_aload_n (i := 0) (x_dk dl_30_0_ok 46 rfl))))
  (x_Lok (x_st (I := xJ) (xr_sipush (n := 8000) (z := 8000) (v := 8000) (x_dk dl_30_0_ok 47 rfl) (by decide) (by decide))))))
  (x_Tok2
  (x_Tok2
  (x_Lok (x_st (I := xJ) (xr_newa (kd := 1) (b := false) (ty := .int) rfl rfl (in_t1 (List.mem_of_getElem? (i := 64) rfl) rfl) (x_dk dl_30_0_ok 48 rfl))))
  (x_Lok (x_st (I := xJ) (xr_putF (ci := 11) (k := 9) (ix := 61) (N := 15) (fk := 2) (C := RX11) (T := TX11) (ty0 := tyX11) (ty := .array .int) rfl in_X11 tyX11_ok nmX11 (by decide) (in_t4 (List.mem_of_getElem? (i := 117) rfl) rfl) rfl rfl rfl rfl x_fit_arr (x_dk dl_30_0_ok 49 rfl)))))
  (x_Tok2
  (x_Lok (x_st (I := xJ) (xr_aload_n (i := 0) (x_dk dl_30_0_ok 50 rfl))))
  (x_Lok (x_st (I := xJ) (xr_iconst (n := 4) (z := 4) (v := 4) (x_dk dl_30_0_ok 51 rfl) (by decide) (by decide)))))))
  (x_Tok2
  (x_Tok2
  (x_Tok2
  (x_Lok (x_st (I := xJ) (xr_newa (kd := 1) (b := false) (ty := .int) rfl rfl (in_t1 (List.mem_of_getElem? (i := 64) rfl) rfl) (x_dk dl_30_0_ok 52 rfl))))
  (x_Lok (x_st (I := xJ) (xr_putF (ci := 11) (k := 10) (ix := 64) (N := 15) (fk := 2) (C := RX11) (T := TX11) (ty0 := tyX11) (ty := .array .int) rfl in_X11 tyX11_ok nmX11 (by decide) (in_t4 (List.mem_of_getElem? (i := 118) rfl) rfl) rfl rfl rfl rfl x_fit_arr (x_dk dl_30_0_ok 53 rfl)))))
  (x_Tok2
  (x_Lok (x_st (I := xJ) (xr_aload_n (i := 0) (x_dk dl_30_0_ok 54 rfl))))
  (x_Lok (x_st (I := xJ) (xr_iconst (n := 1) (z := 1) (v := 1) (x_dk dl_30_0_ok 55 rfl) (by decide) (by decide))))))
  (x_Tok2
  (x_Tok2
  (x_Lok (x_st (I := xJ) (xr_putf (ci := 11) (k := 14) (ix := 67) (N := 15) (fk := 1) (C := RX11) (T := TX11) (ty0 := tyX11) (ty := .boolean) rfl in_X11 tyX11_ok nmX11 (by decide) (in_t4 (List.mem_of_getElem? (i := 122) rfl) rfl) rfl rfl x_fit_bool (x_dk dl_30_0_ok 56 rfl))))
  (x_Lok (x_st (I := xJ) (xr_aload_n (i := 0) (x_dk dl_30_0_ok 57 rfl)))))
  (x_Tok2
  (x_Lok (x_ca (I := xJ) (q' := mq_31) rfl (xr_callV (q' := mq_31) (ix := 71) (n := 0) (in_t4 (List.mem_of_getElem? (i := 2) rfl) rfl) good_w (in_t1 (List.mem_of_getElem? (i := 1) rfl) rfl) (in_t3 (List.mem_of_getElem? (i := 239) rfl) rfl) (in_t4 (List.mem_of_getElem? (i := 1) rfl) rfl) (in_s1 (List.mem_of_getElem? (i := 0) rfl)) (by decide +kernel) (by decide +kernel) (by decide +kernel) (x_dk dl_30_0_ok 58 rfl))))
  (x_Lok (x_rt (I := xJ) (k := 0) ⟨(x_dk dl_30_0_ok 59 rfl), rfl⟩)))))))
def tb_30 : Nat → xE := (x_T 61 tb_30_0 tb_30_30)
theorem tb_30_ok (K : xKx) (hK : x_KP K) : ∀ pc, x_EOq cls K xJ mq_30 pc (tb_30 pc) := (x_Tok2 (tb_30_0_ok K hK) (tb_30_30_ok K hK))
def dl_31_0 : List (Nat × Instr × Nat) := [(0, .aload_n 0, 1), (1, .iconst 0, 1), (2, .putfield 94, 3), (5, .aload_n 0, 1), (6, .iconst 0, 1), (7, .putfield 246, 3), (10, .aload_n 0, 1), (11, .iconst 0, 1), (12, .putfield 91, 3), (15, .iconst 0, 1), (16, .istore_n 1, 1), (17, .iload_n 1, 1), (18, .iconst 4, 1), (19, .if_icmp .ge 22, 3), (22, .aload_n 0, 1), (23, .getfield 27, 3), (26, .iload_n 1, 1), (27, .aaload, 1), (28, .iconst 0, 1), (29, .iconst 0, 1), (30, .iconst 0, 1), (31, .iconst 0, 1), (32, .invokevirtual 97, 3), (35, .iinc 1 1, 3), (38, .goto (-21), 3), (41, .aload_n 0, 1), (42, .getfield 46, 3), (45, .iconst 0, 1), (46, .putfield 149, 3), (49, .aload_n 0, 1), (50, .getfield 46, 3), (53, .iconst 0, 1), (54, .putfield 198, 3), (57, .aload_n 0, 1), (58, .getfield 32, 3), (61, .invokevirtual 413, 3), (64, .aload_n 0, 1), (65, .getfield 37, 3), (68, .iconst 0, 1), (69, .putfield 167, 3), (72, .aload_n 0, 1), (73, .getfield 37, 3), (76, .iconst 0, 1), (77, .putfield 371, 3), (80, .aload_n 0, 1), (81, .getfield 42, 3), (84, .invokevirtual 414, 3), (87, .aload_n 0, 1), (88, .getfield 53, 3), (91, .iconst 0, 1), (92, .putfield 293, 3), (95, .aload_n 0, 1), (96, .getfield 64, 3), (99, .iconst 0, 1), (100, .invokestatic 415, 3), (103, .aload_n 0, 1), (104, .invokevirtual 249, 3), (107, .return_, 1)]
set_option maxRecDepth 20000 in
theorem dl_31_0_ok : dl_31_0.all (fun q => decide (decode prog_1_method_63_code q.1 = .ok (q.2.1, q.2.2))) = true := xa_g_ok (by decide +kernel)
def tb_31_0 : Nat → xE := (x_T 19 (x_T 10 (x_T 2 (x_T 0 (x_L 0 (0, xi_load 0 2 1, 0, 0)) (x_T 1 (x_L 1 (0, xi_push (0, 0, 0) 2, 0, 0)) (x_L 2 (0, xi_putf 11 11 0 5, 0, 0)))) (x_T 6 (x_T 5 (x_L 5 (0, xi_load 0 2 6, 0, 0)) (x_L 6 (0, xi_push (0, 0, 0) 7, 0, 0))) (x_T 7 (x_L 7 (0, xi_putf 11 12 0 10, 0, 0)) (x_L 10 (0, xi_load 0 2 11, 0, 0))))) (x_T 15 (x_T 11 (x_L 11 (0, xi_push (0, 0, 0) 12, 0, 0)) (x_T 12 (x_L 12 (0, xi_putf 11 13 1 15, 0, 0)) (x_L 15 (0, xi_push (0, 0, 0) 16, 0, 0)))) (x_T 17 (x_T 16 (x_L 16 (0, xi_stor 1 0 17, 0, 0)) (x_L 17 (0, xi_load 1 0 18, 0, 0))) (x_T 18 (x_L 18 (0, xi_push (0, 4, 4) 19, 0, 0)) (x_L 19 (0, xi_if2 3 41 22, 0, 0)))))) (x_T 30 (x_T 26 (x_T 22 (x_L 22 (0, xi_load 0 2 23, 0, 0)) (x_T 23 (x_L 23 (0, xi_getf 11 2 26, 0, 0)) (x_L 26 (0, xi_load 1 0 27, 0, 0)))) (x_T 28 (x_T 27 (x_L 27 (0, xi_aald 28, 0, 0)) (x_L 28 (0, xi_push (0, 0, 0) 29, 0, 0))) (x_T 29 (x_L 29 (0, xi_push (0, 0, 0) 30, 0, 0)) (x_L 30 (0, xi_push (0, 0, 0) 31, 0, 0))))) (x_T 38 (x_T 32 (x_T 31 (x_L 31 (0, xi_push (0, 0, 0) 32, 0, 0)) (x_L 32 (2, x_nof, 2, 5))) (x_T 35 (x_L 35 (0, xi_inc 1 1 38, 0, 0)) (x_L 38 (0, xi_goto 17, 0, 0)))) (x_T 42 (x_T 41 (x_L 41 (0, xi_load 0 2 42, 0, 0)) (x_L 42 (0, xi_getf 11 6 45, 0, 0))) (x_T 45 (x_L 45 (0, xi_push (0, 0, 0) 46, 0, 0)) (x_L 46 (0, xi_putf 9 0 0 49, 0, 0)))))))
set_option maxRecDepth 20000 in
set_option maxHeartbeats 4000000 in
theorem tb_31_0_ok (K : xKx) (hK : x_KP K) : ∀ pc, x_EOq cls K xJ mq_31 pc (tb_31_0 pc) :=
  (x_Tok2
  (x_Tok2
  (x_Tok2
  (x_Tok2
  (x_Lok (x_st (I := xJ) (xr_aload_n (i := 0) (x_dk dl_31_0_ok 0 rfl))))
  (x_Tok2
  (x_Lok (x_st (I := xJ) (xr_iconst (n := 0) (z := 0) (v := 0) (x_dk dl_31_0_ok 1 rfl) (by decide) (by decide))))
  (x_Lok (x_st (I := xJ) (xr_putf (ci := 11) (k := 11) (ix := 94) (N := 15) (fk := 0) (C := RX11) (T := TX11) (ty0 := tyX11) (ty := .int) rfl in_X11 tyX11_ok nmX11 (by decide) (in_t4 (List.mem_of_getElem? (i := 119) rfl) rfl) rfl rfl x_fit_int (x_dk dl_31_0_ok 2 rfl))))))
  (x_Tok2
  (x_Tok2
  (x_Lok (x_st (I := xJ) (xr_aload_n (i := 0) (x_dk dl_31_0_ok 3 rfl))))
  (x_Lok (x_st (I := xJ) (xr_iconst (n := 0) (z := 0) (v := 0) (x_dk dl_31_0_ok 4 rfl) (by decide) (by decide)))))
  (x_Tok2
  (x_Lok (x_st (I := xJ) (xr_putf (ci := 11) (k := 12) (ix := 246) (N := 15) (fk := 0) (C := RX11) (T := TX11) (ty0 := tyX11) (ty := .int) rfl in_X11 tyX11_ok nmX11 (by decide) (in_t4 (List.mem_of_getElem? (i := 120) rfl) rfl) rfl rfl x_fit_int (x_dk dl_31_0_ok 5 rfl))))
  (x_Lok (x_st (I := xJ) (xr_aload_n (i := 0) (x_dk dl_31_0_ok 6 rfl)))))))
  (x_Tok2
  (x_Tok2
  (x_Lok (x_st (I := xJ) (xr_iconst (n := 0) (z := 0) (v := 0) (x_dk dl_31_0_ok 7 rfl) (by decide) (by decide))))
  (x_Tok2
  (x_Lok (x_st (I := xJ) (xr_putf (ci := 11) (k := 13) (ix := 91) (N := 15) (fk := 1) (C := RX11) (T := TX11) (ty0 := tyX11) (ty := .boolean) rfl in_X11 tyX11_ok nmX11 (by decide) (in_t4 (List.mem_of_getElem? (i := 121) rfl) rfl) rfl rfl x_fit_bool (x_dk dl_31_0_ok 8 rfl))))
  (x_Lok (x_st (I := xJ) (xr_iconst (n := 0) (z := 0) (v := 0) (x_dk dl_31_0_ok 9 rfl) (by decide) (by decide))))))
  (x_Tok2
  (x_Tok2
  (x_Lok (x_st (I := xJ) (xr_istore_n (i := 1) (x_dk dl_31_0_ok 10 rfl) (by decide +kernel))))
  (x_Lok (x_st (I := xJ) (xr_iload_n (i := 1) (x_dk dl_31_0_ok 11 rfl)))))
  (x_Tok2
  (x_Lok (x_st (I := xJ) (xr_iconst (n := 4) (z := 4) (v := 4) (x_dk dl_31_0_ok 12 rfl) (by decide) (by decide))))
  (x_Lok (x_st (I := xJ) (xr_icmpge (off := 22) (tg := 41) (x_dk dl_31_0_ok 13 rfl) (by decide))))))))
  (x_Tok2
  (x_Tok2
  (x_Tok2
  (x_Lok (x_st (I := xJ) (xr_aload_n (i := 0) (x_dk dl_31_0_ok 14 rfl))))
  (x_Tok2
  (x_Lok (x_st (I := xJ) (xr_getf (ci := 11) (k := 2) (ix := 27) (N := 15) (C := RX11) (T := TX11) rfl in_X11 (by decide) (in_t4 (List.mem_of_getElem? (i := 110) rfl) rfl) (x_dk dl_31_0_ok 15 rfl))))
  (x_Lok (x_st (I := xJ) (xr_iload_n (i := 1) (x_dk dl_31_0_ok 16 rfl))))))
  (x_Tok2
  (x_Tok2
  (x_Lok (x_st (I := xJ) (xr_aaload (x_dk dl_31_0_ok 17 rfl))))
  (x_Lok (x_st (I := xJ) (xr_iconst (n := 0) (z := 0) (v := 0) (x_dk dl_31_0_ok 18 rfl) (by decide) (by decide)))))
  (x_Tok2
  (x_Lok (x_st (I := xJ) (xr_iconst (n := 0) (z := 0) (v := 0) (x_dk dl_31_0_ok 19 rfl) (by decide) (by decide))))
  (x_Lok (x_st (I := xJ) (xr_iconst (n := 0) (z := 0) (v := 0) (x_dk dl_31_0_ok 20 rfl) (by decide) (by decide)))))))
  (x_Tok2
  (x_Tok2
  (x_Tok2
  (x_Lok (x_st (I := xJ) (xr_iconst (n := 0) (z := 0) (v := 0) (x_dk dl_31_0_ok 21 rfl) (by decide) (by decide))))
  (x_Lok (x_ca (I := xJ) (q' := mq_2) rfl (xr_callV (q' := mq_2) (ix := 97) (n := 4) (in_t4 (List.mem_of_getElem? (i := 6) rfl) rfl) good_w (in_t1 (List.mem_of_getElem? (i := 8) rfl) rfl) (in_t4 (List.mem_of_getElem? (i := 3) rfl) rfl) (in_t4 (List.mem_of_getElem? (i := 4) rfl) rfl) (in_t4 (List.mem_of_getElem? (i := 5) rfl) rfl) (by decide +kernel) (by decide +kernel) (by decide +kernel) (x_dk dl_31_0_ok 22 rfl)))))
  (x_Tok2
  (x_Lok (x_st (I := xJ) (xr_iinc (i := 1) (n := 1) (x_dk dl_31_0_ok 23 rfl) (by decide +kernel) (by decide))))
  (x_Lok (x_st (I := xJ) (xr_goto (off := (-21)) (tg := 17) (x_dk dl_31_0_ok 24 rfl) (by decide))))))
  (x_Tok2
  (x_Tok2
  (x_Lok (x_st (I := xJ) (xr_aload_n (i := 0) (x_dk dl_31_0_ok 25 rfl))))
  (x_Lok (x_st (I := xJ) (xr_getf (ci := 11) (k := 6) (ix := 46) (N := 15) (C := RX11) (T := TX11) rfl in_X11 (by decide) (in_t4 (List.mem_of_getElem? (i := 114) rfl) rfl) (x_dk dl_31_0_ok 26 rfl)))))
  (x_Tok2
  (x_Lok (x_st (I := xJ) (xr_iconst (n := 0) (z := 0) (v := 0) (x_dk dl_31_0_ok 27 rfl) (by decide) (by decide))))
  (x_Lok (x_st (I := xJ) (xr_putf (ci := 9) (k := 0) (ix := 149) (N := 17) (fk := 0) (C := RX9) (T := TX9) (ty0 := tyX9) (ty := .int) rfl in_X9 tyX9_ok nmX9 (by decide) (in_t3 (List.mem_of_getElem? (i := 138) rfl) rfl) rfl rfl x_fit_int (x_dk dl_31_0_ok 28 rfl)))))))))
def tb_31_29 : Nat → xE := (x_T 76 (x_T 61 (x_T 53 (x_T 49 (x_L 49 (0, xi_load 0 2 50, 0, 0)) (x_T 50 (x_L 50 (0, xi_getf 11 6 53, 0, 0)) (x_L 53 (0, xi_push (0, 0, 0) 54, 0, 0)))) (x_T 57 (x_T 54 (x_L 54 (0, xi_putf 9 1 0 57, 0, 0)) (x_L 57 (0, xi_load 0 2 58, 0, 0))) (x_T 58 (x_L 58 (0, xi_getf 11 3 61, 0, 0)) (x_L 61 (2, x_nof, 19, 1))))) (x_T 68 (x_T 64 (x_L 64 (0, xi_load 0 2 65, 0, 0)) (x_T 65 (x_L 65 (0, xi_getf 11 4 68, 0, 0)) (x_L 68 (0, xi_push (0, 0, 0) 69, 0, 0)))) (x_T 72 (x_T 69 (x_L 69 (0, xi_putf 4 0 0 72, 0, 0)) (x_L 72 (0, xi_load 0 2 73, 0, 0))) (x_T 73 (x_L 73 (0, xi_getf 11 4 76, 0, 0)) (x_L 76 (0, xi_push (0, 0, 0) 77, 0, 0)))))) (x_T 91 (x_T 81 (x_T 77 (x_L 77 (0, xi_putf 4 1 0 80, 0, 0)) (x_T 80 (x_L 80 (0, xi_load 0 2 81, 0, 0)) (x_L 81 (0, xi_getf 11 5 84, 0, 0)))) (x_T 87 (x_T 84 (x_L 84 (2, x_nof, 10, 1)) (x_L 87 (0, xi_load 0 2 88, 0, 0))) (x_T 88 (x_L 88 (0, xi_getf 11 7 91, 0, 0)) (x_L 91 (0, xi_push (0, 0, 0) 92, 0, 0))))) (x_T 99 (x_T 95 (x_T 92 (x_L 92 (0, xi_putf 6 0 0 95, 0, 0)) (x_L 95 (0, xi_load 0 2 96, 0, 0))) (x_T 96 (x_L 96 (0, xi_getf 11 10 99, 0, 0)) (x_L 99 (0, xi_push (0, 0, 0) 100, 0, 0)))) (x_T 103 (x_T 100 (x_L 100 (2, x_nof, 40, 2)) (x_L 103 (0, xi_load 0 2 104, 0, 0))) (x_T 104 (x_L 104 (2, x_nof, 32, 1)) (x_L 107 (1, x_nof, 0, 0)))))))
set_option maxRecDepth 20000 in
set_option maxHeartbeats 4000000 in
theorem tb_31_29_ok (K : xKx) (hK : x_KP K) : ∀ pc, x_EOq cls K xJ mq_31 pc (tb_31_29 pc) :=
  (x_Tok2
  (x_Tok2
  (x_Tok2
  (x_Tok2
  (x_Lok (x_st (I := xJ) (xr_aload_n (i := 0) (x_dk dl_31_0_ok 29 rfl))))
  (x_Tok2
  (x_Lok (x_st (I := xJ) (xr_getf (ci := 11) (k := 6) (ix := 46) (N := 15) (C := RX11) (T := TX11) rfl in_X11 (by decide) (in_t4 (List.mem_of_getElem? (i := 114) rfl) rfl) (x_dk dl_31_0_ok 30 rfl))))
  (x_Lok (x_st (I := xJ) (xr_iconst (n := 0) (z := 0) (v := 0) (x_dk dl_31_0_ok 31 rfl) (by decide) (by decide))))))
  (x_Tok2
  (x_Tok2
  (x_Lok (x_st (I := xJ) (xr_putf (ci := 9) (k := 1) (ix := 198) (N := 17) (fk := 0) (C := RX9) (T := TX9) (ty0 := tyX9) (ty := .int) rfl in_X9 tyX9_ok nmX9 (by decide) (in_t3 (List.mem_of_getElem? (i := 140) rfl) rfl) rfl rfl x_fit_int (x_dk dl_31_0_ok 32 rfl))))
  (x_Lok (x_st (I := xJ) (xr_aload_n (i := 0) (x_dk dl_31_0_ok 33 rfl)))))
  (x_Tok2
  (x_Lok (x_st (I := xJ) (xr_getf (ci := 11) (k := 3) (ix := 32) (N := 15) (C := RX11) (T := TX11) rfl in_X11 (by decide) (in_t4 (List.mem_of_getElem? (i := 111) rfl) rfl) (x_dk dl_31_0_ok 34 rfl))))
  (x_Lok (x_ca (I := xJ) (q' := mq_19) rfl (xr_callV (q' := mq_19) (ix := 413) (n := 0) (in_t4 (List.mem_of_getElem? (i := 43) rfl) rfl) good_w (in_t1 (List.mem_of_getElem? (i := 5) rfl) rfl) (in_t4 (List.mem_of_getElem? (i := 40) rfl) rfl) (in_t4 (List.mem_of_getElem? (i := 41) rfl) rfl) (in_t4 (List.mem_of_getElem? (i := 42) rfl) rfl) (by decide +kernel) (by decide +kernel) (by decide +kernel) (x_dk dl_31_0_ok 35 rfl)))))))
  (x_Tok2
  (x_Tok2
  (x_Lok (x_st (I := xJ) (xr_aload_n (i := 0) (x_dk dl_31_0_ok 36 rfl))))
  (x_Tok2
  (x_Lok (x_st (I := xJ) (xr_getf (ci := 11) (k := 4) (ix := 37) (N := 15) (C := RX11) (T := TX11) rfl in_X11 (by decide) (in_t4 (List.mem_of_getElem? (i := 112) rfl) rfl) (x_dk dl_31_0_ok 37 rfl))))
  (x_Lok (x_st (I := xJ) (xr_iconst (n := 0) (z := 0) (v := 0) (x_dk dl_31_0_ok 38 rfl) (by decide) (by decide))))))
  (x_Tok2
  (x_Tok2
  (x_Lok (x_st (I := xJ) (xr_putf (ci := 4) (k := 0) (ix := 167) (N := 20) (fk := 0) (C := RX4) (T := TX4) (ty0 := tyX4) (ty := .int) rfl in_X4 tyX4_ok nmX4 (by decide) (in_t1 (List.mem_of_getElem? (i := 176) rfl) rfl) rfl rfl x_fit_int (x_dk dl_31_0_ok 39 rfl))))
  (x_Lok (x_st (I := xJ) (xr_aload_n (i := 0) (x_dk dl_31_0_ok 40 rfl)))))
  (x_Tok2
  (x_Lok (x_st (I := xJ) (xr_getf (ci := 11) (k := 4) (ix := 37) (N := 15) (C := RX11) (T := TX11) rfl in_X11 (by decide) (in_t4 (List.mem_of_getElem? (i := 112) rfl) rfl) (x_dk dl_31_0_ok 41 rfl))))
  (x_Lok (x_st (I := xJ) (xr_iconst (n := 0) (z := 0) (v := 0) (x_dk dl_31_0_ok 42 rfl) (by decide) (by decide))))))))
  (x_Tok2
  (x_Tok2
  (x_Tok2
  (x_Lok (x_st (I := xJ) (xr_putf (ci := 4) (k := 1) (ix := 371) (N := 20) (fk := 0) (C := RX4) (T := TX4) (ty0 := tyX4) (ty := .int) rfl in_X4 tyX4_ok nmX4 (by decide) (in_t1 (List.mem_of_getElem? (i := 178) rfl) rfl) rfl rfl x_fit_int (x_dk dl_31_0_ok 43 rfl))))
  (x_Tok2
  (x_Lok (x_st (I := xJ) (xr_aload_n (i := 0) (x_dk dl_31_0_ok 44 rfl))))
  (x_Lok (x_st (I := xJ) (xr_getf (ci := 11) (k := 5) (ix := 42) (N := 15) (C := RX11) (T := TX11) rfl in_X11 (by decide) (in_t4 (List.mem_of_getElem? (i := 113) rfl) rfl) (x_dk dl_31_0_ok 45 rfl))))))
  (x_Tok2
  (x_Tok2
  (x_Lok (x_ca (I := xJ) (q' := mq_10) rfl (xr_callV (q' := mq_10) (ix := 414) (n := 0) (in_t4 (List.mem_of_getElem? (i := 52) rfl) rfl) good_w (in_t1 (List.mem_of_getElem? (i := 7) rfl) rfl) (in_t4 (List.mem_of_getElem? (i := 49) rfl) rfl) (in_t4 (List.mem_of_getElem? (i := 50) rfl) rfl) (in_t4 (List.mem_of_getElem? (i := 51) rfl) rfl) (by decide +kernel) (by decide +kernel) (by decide +kernel) (x_dk dl_31_0_ok 46 rfl))))
  (x_Lok (x_st (I := xJ) (xr_aload_n (i := 0) (x_dk dl_31_0_ok 47 rfl)))))
  (x_Tok2
  (x_Lok (x_st (I := xJ) (xr_getf (ci := 11) (k := 7) (ix := 53) (N := 15) (C := RX11) (T := TX11) rfl in_X11 (by decide) (in_t4 (List.mem_of_getElem? (i := 115) rfl) rfl) (x_dk dl_31_0_ok 48 rfl))))
  (x_Lok (x_st (I := xJ) (xr_iconst (n := 0) (z := 0) (v := 0) (x_dk dl_31_0_ok 49 rfl) (by decide) (by decide)))))))
  (x_Tok2
  (x_Tok2
  (x_Tok2
  (x_Lok (x_st (I := xJ) (xr_putf (ci := 6) (k := 0) (ix := 293) (N := 13) (fk := 0) (C := RX6) (T := TX6) (ty0 := tyX6) (ty := .int) rfl in_X6 tyX6_ok nmX6 (by decide) (in_t3 (List.mem_of_getElem? (i := 199) rfl) rfl) rfl rfl x_fit_int (x_dk dl_31_0_ok 50 rfl))))
  (x_Lok (x_st (I := xJ) (xr_aload_n (i := 0) (x_dk dl_31_0_ok 51 rfl)))))
  (x_Tok2
  (x_Lok (x_st (I := xJ) (xr_getf (ci := 11) (k := 10) (ix := 64) (N := 15) (C := RX11) (T := TX11) rfl in_X11 (by decide) (in_t4 (List.mem_of_getElem? (i := 118) rfl) rfl) (x_dk dl_31_0_ok 52 rfl))))
  (x_Lok (x_st (I := xJ) (xr_iconst (n := 0) (z := 0) (v := 0) (x_dk dl_31_0_ok 53 rfl) (by decide) (by decide))))))
  (x_Tok2
  (x_Tok2
  (x_Lok (x_ca (I := xJ) (q' := mq_40) rfl (xr_callS (q' := mq_40) (ix := 415) (n := 2) (in_t4 (List.mem_of_getElem? (i := 9) rfl) rfl) good_w (in_t1 (List.mem_of_getElem? (i := 13) rfl) rfl) (in_t4 (List.mem_of_getElem? (i := 53) rfl) rfl) (in_t4 (List.mem_of_getElem? (i := 8) rfl) rfl) (by decide +kernel) (by decide +kernel) (x_dk dl_31_0_ok 54 rfl))))
  (x_Lok (x_st (I := xJ) (xr_aload_n (i := 0) (x_dk dl_31_0_ok 55 rfl)))))
  (x_Tok2
  (x_Lok (x_ca (I := xJ) (q' := mq_32) rfl (xr_callV (q' := mq_32) (ix := 249) (n := 0) (in_t4 (List.mem_of_getElem? (i := 57) rfl) rfl) good_w (in_t1 (List.mem_of_getElem? (i := 1) rfl) rfl) (in_t4 (List.mem_of_getElem? (i := 54) rfl) rfl) (in_t4 (List.mem_of_getElem? (i := 56) rfl) rfl) (in_s1 (List.mem_of_getElem? (i := 2) rfl)) (by decide +kernel) (by decide +kernel) (by decide +kernel) (x_dk dl_31_0_ok 56 rfl))))
  (x_Lok (x_rt (I := xJ) (k := 0) ⟨(x_dk dl_31_0_ok 57 rfl), rfl⟩)))))))
def tb_31 : Nat → xE := (x_T 46 tb_31_0 tb_31_29)
theorem tb_31_ok (K : xKx) (hK : x_KP K) : ∀ pc, x_EOq cls K xJ mq_31 pc (tb_31 pc) := (x_Tok2 (tb_31_0_ok K hK) (tb_31_29_ok K hK))
def dl_32_0 : List (Nat × Instr × Nat) := [(0, .iconst 0, 1), (1, .istore_n 1, 1), (2, .iload_n 1, 1), (3, .iconst 4, 1), (4, .if_icmp .ge 18, 3), (7, .aload_n 0, 1), (8, .getfield 27, 3), (11, .iload_n 1, 1), (12, .aaload, 1), (13, .invokevirtual 421, 3), (16, .iinc 1 1, 3), (19, .goto (-17), 3), (22, .aload_n 0, 1), (23, .getfield 32, 3), (26, .invokevirtual 422, 3), (29, .aload_n 0, 1), (30, .getfield 37, 3), (33, .invokevirtual 423, 3), (36, .aload_n 0, 1), (37, .getfield 42, 3), (40, .invokevirtual 424, 3), (43, .aload_n 0, 1), (44, .getfield 19, 3), (47, .invokevirtual 425, 3), (50, .aload_n 0, 1), (51, .getfield 57, 3), (54, .iconst 0, 1), (55, .invokestatic 415, 3), (58, .return_, 1)]
set_option maxRecDepth 20000 in
theorem dl_32_0_ok : dl_32_0.all (fun q => decide (decode prog_1_method_64_code q.1 = .ok (q.2.1, q.2.2))) = true := xa_g_ok (by decide +kernel)
def tb_32_0 : Nat → xE := (x_T 23 (x_T 8 (x_T 2 (x_T 0 (x_L 0 (0, xi_push (0, 0, 0) 1, 0, 0)) (x_T 1 (x_L 1 (0, xi_stor 1 0 2, 0, 0)) (x_L 2 (0, xi_load 1 0 3, 0, 0)))) (x_T 4 (x_T 3 (x_L 3 (0, xi_push (0, 4, 4) 4, 0, 0)) (x_L 4 (0, xi_if2 3 22 7, 0, 0))) (x_T 7 (x_L 7 (0, xi_load 0 2 8, 0, 0)) (x_L 8 (0, xi_getf 11 2 11, 0, 0))))) (x_T 13 (x_T 11 (x_L 11 (0, xi_load 1 0 12, 0, 0)) (x_T 12 (x_L 12 (0, xi_aald 13, 0, 0)) (x_L 13 (2, x_nof, 3, 1)))) (x_T 19 (x_T 16 (x_L 16 (0, xi_inc 1 1 19, 0, 0)) (x_L 19 (0, xi_goto 2, 0, 0))) (x_T 22 (x_L 22 (0, xi_load 0 2 23, 0, 0)) (x_L 23 (0, xi_getf 11 3 26, 0, 0)))))) (x_T 40 (x_T 30 (x_T 26 (x_L 26 (2, x_nof, 20, 1)) (x_T 29 (x_L 29 (0, xi_load 0 2 30, 0, 0)) (x_L 30 (0, xi_getf 11 4 33, 0, 0)))) (x_T 36 (x_T 33 (x_L 33 (2, x_nof, 15, 1)) (x_L 36 (0, xi_load 0 2 37, 0, 0))) (x_T 37 (x_L 37 (0, xi_getf 11 5 40, 0, 0)) (x_L 40 (2, x_nof, 11, 1))))) (x_T 50 (x_T 44 (x_T 43 (x_L 43 (0, xi_load 0 2 44, 0, 0)) (x_L 44 (0, xi_getf 11 1 47, 0, 0))) (x_T 47 (x_L 47 (2, x_nof, 13, 1)) (x_L 50 (0, xi_load 0 2 51, 0, 0)))) (x_T 54 (x_T 51 (x_L 51 (0, xi_getf 11 8 54, 0, 0)) (x_L 54 (0, xi_push (0, 0, 0) 55, 0, 0))) (x_T 55 (x_L 55 (2, x_nof, 40, 2)) (x_L 58 (1, x_nof, 0, 0)))))))
set_option maxRecDepth 20000 in
set_option maxHeartbeats 4000000 in
theorem tb_32_0_ok (K : xKx) (hK : x_KP K) : ∀ pc, x_EOq cls K xJ mq_32 pc (tb_32_0 pc) :=
  (x_Tok2
  (x_Tok2
  (x_Tok2
  (x_Tok2
  (x_Lok (x_st (I := xJ) (xr_iconst (n := 0) (z := 0) (v := 0) (x_dk dl_32_0_ok 0 rfl) (by decide) (by decide))))
  (x_Tok2
  (x_Lok (x_st (I := xJ) (xr_istore_n (i := 1) (x_dk dl_32_0_ok 1 rfl) (by decide +kernel))))
  (x_Lok (x_st (I := xJ) (xr_iload_n (i := 1) (x_dk dl_32_0_ok 2 rfl))))))
  (x_Tok2
  (x_Tok2
  (x_Lok (x_st (I := xJ) (xr_iconst (n := 4) (z := 4) (v := 4) (x_dk dl_32_0_ok 3 rfl) (by decide) (by decide))))
  (x_Lok (x_st (I := xJ) (xr_icmpge (off := 18) (tg := 22) (x_dk dl_32_0_ok 4 rfl) (by decide)))))
  (x_Tok2
  (x_Lok (x_st (I := xJ) (xr_aload_n (i := 0) (x_dk dl_32_0_ok 5 rfl))))
  (x_Lok (x_st (I := xJ) (xr_getf (ci := 11) (k := 2) (ix := 27) (N := 15) (C := RX11) (T := TX11) rfl in_X11 (by decide) (in_t4 (List.mem_of_getElem? (i := 110) rfl) rfl) (x_dk dl_32_0_ok 6 rfl)))))))
  (x_Tok2
  (x_Tok2
  (x_Lok (x_st (I := xJ) (xr_iload_n (i := 1) (x_dk dl_32_0_ok 7 rfl))))
  (x_Tok2
  (x_Lok (x_st (I := xJ) (xr_aaload (x_dk dl_32_0_ok 8 rfl))))
  (x_Lok (x_ca (I := xJ) (q' := mq_3) rfl (xr_callV (q' := mq_3) (ix := 421) (n := 0) (in_t4 (List.mem_of_getElem? (i := 17) rfl) rfl) good_w (in_t1 (List.mem_of_getElem? (i := 8) rfl) rfl) (in_t4 (List.mem_of_getElem? (i := 58) rfl) rfl) (in_t4 (List.mem_of_getElem? (i := 15) rfl) rfl) (in_t4 (List.mem_of_getElem? (i := 16) rfl) rfl) (by decide +kernel) (by decide +kernel) (by decide +kernel) (x_dk dl_32_0_ok 9 rfl))))))
  (x_Tok2
  (x_Tok2
  (x_Lok (x_st (I := xJ) (xr_iinc (i := 1) (n := 1) (x_dk dl_32_0_ok 10 rfl) (by decide +kernel) (by decide))))
  (x_Lok (x_st (I := xJ) (xr_goto (off := (-17)) (tg := 2) (x_dk dl_32_0_ok 11 rfl) (by decide)))))
  (x_Tok2
  (x_Lok (x_st (I := xJ) (xr_aload_n (i := 0) (x_dk dl_32_0_ok 12 rfl))))
  (x_Lok (x_st (I := xJ) (xr_getf (ci := 11) (k := 3) (ix := 32) (N := 15) (C := RX11) (T := TX11) rfl in_X11 (by decide) (in_t4 (List.mem_of_getElem? (i := 111) rfl) rfl) (x_dk dl_32_0_ok 13 rfl))))))))
  (x_Tok2
  (x_Tok2
  (x_Tok2
  (x_Lok (x_ca (I := xJ) (q' := mq_20) rfl (xr_callV (q' := mq_20) (ix := 422) (n := 0) (in_t4 (List.mem_of_getElem? (i := 62) rfl) rfl) good_w (in_t1 (List.mem_of_getElem? (i := 5) rfl) rfl) (in_t4 (List.mem_of_getElem? (i := 59) rfl) rfl) (in_t4 (List.mem_of_getElem? (i := 60) rfl) rfl) (in_t4 (List.mem_of_getElem? (i := 61) rfl) rfl) (by decide +kernel) (by decide +kernel) (by decide +kernel) (x_dk dl_32_0_ok 14 rfl))))
  (x_Tok2
  (x_Lok (x_st (I := xJ) (xr_aload_n (i := 0) (x_dk dl_32_0_ok 15 rfl))))
  (x_Lok (x_st (I := xJ) (xr_getf (ci := 11) (k := 4) (ix := 37) (N := 15) (C := RX11) (T := TX11) rfl in_X11 (by decide) (in_t4 (List.mem_of_getElem? (i := 112) rfl) rfl) (x_dk dl_32_0_ok 16 rfl))))))
  (x_Tok2
  (x_Tok2
  (x_Lok (x_ca (I := xJ) (q' := mq_15) rfl (xr_callV (q' := mq_15) (ix := 423) (n := 0) (in_t4 (List.mem_of_getElem? (i := 74) rfl) rfl) good_w (in_t1 (List.mem_of_getElem? (i := 6) rfl) rfl) (in_t4 (List.mem_of_getElem? (i := 71) rfl) rfl) (in_t4 (List.mem_of_getElem? (i := 72) rfl) rfl) (in_t4 (List.mem_of_getElem? (i := 73) rfl) rfl) (by decide +kernel) (by decide +kernel) (by decide +kernel) (x_dk dl_32_0_ok 17 rfl))))
  (x_Lok (x_st (I := xJ) (xr_aload_n (i := 0) (x_dk dl_32_0_ok 18 rfl)))))
  (x_Tok2
  (x_Lok (x_st (I := xJ) (xr_getf (ci := 11) (k := 5) (ix := 42) (N := 15) (C := RX11) (T := TX11) rfl in_X11 (by decide) (in_t4 (List.mem_of_getElem? (i := 113) rfl) rfl) (x_dk dl_32_0_ok 19 rfl))))
  (x_Lok (x_ca (I := xJ) (q' := mq_11) rfl (xr_callV (q' := mq_11) (ix := 424) (n := 0) (in_t4 (List.mem_of_getElem? (i := 90) rfl) rfl) good_w (in_t1 (List.mem_of_getElem? (i := 7) rfl) rfl) (in_t4 (List.mem_of_getElem? (i := 87) rfl) rfl) (in_t4 (List.mem_of_getElem? (i := 88) rfl) rfl) (in_t4 (List.mem_of_getElem? (i := 89) rfl) rfl) (by decide +kernel) (by decide +kernel) (by decide +kernel) (x_dk dl_32_0_ok 20 rfl)))))))
  (x_Tok2
  (x_Tok2
  (x_Tok2
  (x_Lok (x_st (I := xJ) (xr_aload_n (i := 0) (x_dk dl_32_0_ok 21 rfl))))
  (x_Lok (x_st (I := xJ) (xr_getf (ci := 11) (k := 1) (ix := 19) (N := 15) (C := RX11) (T := TX11) rfl in_X11 (by decide) (in_t4 (List.mem_of_getElem? (i := 109) rfl) rfl) (x_dk dl_32_0_ok 22 rfl)))))
  (x_Tok2
  (x_Lok (x_ca (I := xJ) (q' := mq_13) rfl (xr_callV (q' := mq_13) (ix := 425) (n := 0) (in_t4 (List.mem_of_getElem? (i := 94) rfl) rfl) good_w (in_t1 (List.mem_of_getElem? (i := 4) rfl) rfl) (in_t4 (List.mem_of_getElem? (i := 91) rfl) rfl) (in_t4 (List.mem_of_getElem? (i := 92) rfl) rfl) (in_t4 (List.mem_of_getElem? (i := 93) rfl) rfl) (by decide +kernel) (by decide +kernel) (by decide +kernel) (x_dk dl_32_0_ok 23 rfl))))
  (x_Lok (x_st (I := xJ) (xr_aload_n (i := 0) (x_dk dl_32_0_ok 24 rfl))))))
  (x_Tok2
  (x_Tok2
  (x_Lok (x_st (I := xJ) (xr_getf (ci := 11) (k := 8) (ix := 57) (N := 15) (C := RX11) (T := TX11) rfl in_X11 (by decide) (in_t4 (List.mem_of_getElem? (i := 116) rfl) rfl) (x_dk dl_32_0_ok 25 rfl))))
  (x_Lok (x_st (I := xJ) (xr_iconst (n := 0) (z := 0) (v := 0) (x_dk dl_32_0_ok 26 rfl) (by decide) (by decide)))))
  (x_Tok2
  (x_Lok (x_ca (I := xJ) (q' := mq_40) rfl (xr_callS (q' := mq_40) (ix := 415) (n := 2) (in_t4 (List.mem_of_getElem? (i := 9) rfl) rfl) good_w (in_t1 (List.mem_of_getElem? (i := 13) rfl) rfl) (in_t4 (List.mem_of_getElem? (i := 53) rfl) rfl) (in_t4 (List.mem_of_getElem? (i := 8) rfl) rfl) (by decide +kernel) (by decide +kernel) (x_dk dl_32_0_ok 27 rfl))))
  (x_Lok (x_rt (I := xJ) (k := 0) ⟨(x_dk dl_32_0_ok 28 rfl), rfl⟩)))))))
def tb_32 : Nat → xE := tb_32_0
theorem tb_32_ok (K : xKx) (hK : x_KP K) : ∀ pc, x_EOq cls K xJ mq_32 pc (tb_32 pc) := tb_32_0_ok K hK
def dl_33_0 : List (Nat × Instr × Nat) := [(0, .aload_n 0, 1), (1, .invokespecial 1, 3), (4, .aload_n 0, 1), (5, .ldc 7, 2), (7, .newarray .int, 2), (9, .putfield 8, 3), (12, .aload_n 0, 1), (13, .ldc 7, 2), (15, .newarray .int, 2), (17, .putfield 14, 3), (20, .aload_n 0, 1), (21, .ldc 17, 2), (23, .newarray .int, 2), (25, .putfield 18, 3), (28, .aload_n 0, 1), (29, .sipush 8000, 3), (32, .newarray .int, 2), (34, .putfield 21, 3), (37, .aload_n 0, 1), (38, .iconst 4, 1), (39, .newarray .int, 2), (41, .putfield 24, 3), (44, .aload_n 0, 1), (45, .sipush 4000, 3), (48, .newarray .byte, 2), (50, .putfield 27, 3), (53, .aload_n 0, 1), (54, .iconst 4, 1), (55, .newarray .int, 2), (57, .putfield 31, 3), (60, .aload_n 0, 1), (61, .iconst 4, 1), (62, .newarray .int, 2), (64, .putfield 34, 3), (67, .aload_n 0, 1), (68, .iconst 4, 1), (69, .newarray .int, 2), (71, .putfield 37, 3), (74, .aload_n 0, 1), (75, .iconst 4, 1), (76, .newarray .int, 2), (78, .putfield 40, 3), (81, .aload_n 0, 1), (82, .iconst 4, 1), (83, .newarray .int, 2), (85, .putfield 43, 3), (88, .aload_n 0, 1), (89, .bipush 24, 2), (91, .newarray .int, 2), (93, .putfield 46, 3), (96, .aload_n 0, 1), (97, .bipush 24, 2), (99, .newarray .int, 2), (101, .putfield 49, 3), (104, .aload_n 0, 1), (105, .bipush 24, 2), (107, .newarray .int, 2), (109, .putfield 52, 3), (112, .aload_n 0, 1), (113, .bipush 24, 2), (115, .newarray .int, 2), (117, .putfield 55, 3), (120, .aload_n 0, 1), (121, .bipush 24, 2), (123, .newarray .int, 2), (125, .putfield 58, 3), (128, .aload_n 0, 1), (129, .bipush 24, 2), (131, .newarray .int, 2), (133, .putfield 61, 3), (136, .aload_n 0, 1), (137, .bipush 24, 2), (139, .newarray .int, 2), (141, .putfield 64, 3), (144, .aload_n 0, 1), (145, .bipush 16, 2), (147, .newarray .boolean, 2), (149, .putfield 67, 3), (152, .aload_n 0, 1), (153, .bipush 16, 2), (155, .newarray .int, 2), (157, .putfield 71, 3), (160, .aload_n 0, 1), (161, .bipush 16, 2), (163, .newarray .int, 2), (165, .putfield 74, 3), (168, .aload_n 0, 1), (169, .bipush 16, 2), (171, .newarray .int, 2), (173, .putfield 77, 3), (176, .aload_n 0, 1), (177, .bipush 16, 2), (179, .newarray .int, 2), (181, .putfield 80, 3), (184, .aload_n 0, 1), (185, .sipush 448, 3), (188, .newarray .boolean, 2), (190, .putfield 83, 3), (193, .aload_n 0, 1), (194, .iconst 4, 1)]
set_option maxRecDepth 20000 in
theorem dl_33_0_ok : dl_33_0.all (fun q => decide (decode prog_14_method_1_code q.1 = .ok (q.2.1, q.2.2))) = true := xa_g_ok (by decide +kernel)
def dl_33_1 : List (Nat × Instr × Nat) := [(195, .newarray .int, 2), (197, .putfield 86, 3), (200, .aload_n 0, 1), (201, .iconst 4, 1), (202, .newarray .int, 2), (204, .putfield 89, 3), (207, .aload_n 0, 1), (208, .iconst 4, 1), (209, .newarray .int, 2), (211, .putfield 92, 3), (214, .aload_n 0, 1), (215, .iconst 4, 1), (216, .newarray .int, 2), (218, .putfield 95, 3), (221, .aload_n 0, 1), (222, .iconst 4, 1), (223, .newarray .int, 2), (225, .putfield 98, 3), (228, .aload_n 0, 1), (229, .iconst 4, 1), (230, .newarray .int, 2), (232, .putfield 101, 3), (235, .aload_n 0, 1), (236, .iconst 4, 1), (237, .newarray .int, 2), (239, .putfield 104, 3), (242, .aload_n 0, 1), (243, .iconst 4, 1), (244, .newarray .int, 2), (246, .putfield 107, 3), (249, .aload_n 0, 1), (250, .iconst 4, 1), (251, .newarray .int, 2), (253, .putfield 110, 3), (256, .aload_n 0, 1), (257, .bipush 32, 2), (259, .newarray .int, 2), (261, .putfield 113, 3), (264, .aload_n 0, 1), (265, .bipush 8, 2), (267, .newarray .int, 2), (269, .putfield 116, 3), (272, .aload_n 0, 1), (273, .bipush 8, 2), (275, .newarray .int, 2), (277, .putfield 119, 3), (280, .aload_n 0, 1), (281, .bipush 8, 2), (283, .newarray .int, 2), (285, .putfield 122, 3), (288, .aload_n 0, 1), (289, .bipush 8, 2), (291, .newarray .int, 2), (293, .putfield 125, 3), (296, .aload_n 0, 1), (297, .bipush 8, 2), (299, .newarray .int, 2), (301, .putfield 128, 3), (304, .aload_n 0, 1), (305, .bipush 8, 2), (307, .newarray .int, 2), (309, .putfield 131, 3), (312, .aload_n 0, 1), (313, .bipush 8, 2), (315, .newarray .int, 2), (317, .putfield 134, 3), (320, .aload_n 0, 1), (321, .bipush 8, 2), (323, .newarray .boolean, 2), (325, .putfield 137, 3), (328, .aload_n 0, 1), (329, .bipush 64, 2), (331, .newarray .int, 2), (333, .putfield 140, 3), (336, .aload_n 0, 1), (337, .bipush 64, 2), (339, .newarray .boolean, 2), (341, .putfield 143, 3), (344, .aload_n 0, 1), (345, .sipush 1025, 3), (348, .newarray .int, 2), (350, .putfield 146, 3), (353, .aload_n 0, 1), (354, .bipush 35, 2), (356, .newarray .int, 2), (358, .putfield 149, 3), (361, .aload_n 0, 1), (362, .bipush 35, 2), (364, .newarray .int, 2), (366, .putfield 152, 3), (369, .aload_n 0, 1), (370, .bipush 6, 2), (372, .newarray .int, 2), (374, .putfield 155, 3), (377, .aload_n 0, 1), (378, .iconst 4, 1), (379, .newarray .int, 2), (381, .putfield 158, 3), (384, .aload_n 0, 1), (385, .iconst 4, 1)]
set_option maxRecDepth 20000 in
theorem dl_33_1_ok : dl_33_1.all (fun q => decide (decode prog_14_method_1_code q.1 = .ok (q.2.1, q.2.2))) = true := xa_g_ok (by decide +kernel)
def dl_33_2 : List (Nat × Instr × Nat) := [(386, .newarray .int, 2), (388, .putfield 161, 3), (391, .aload_n 0, 1), (392, .bipush 65, 2), (394, .newarray .int, 2), (396, .putfield 164, 3), (399, .aload_n 0, 1), (400, .bipush 64, 2), (402, .newarray .boolean, 2), (404, .putfield 167, 3), (407, .aload_n 0, 1), (408, .ldc 170, 2), (410, .newarray .int, 2), (412, .putfield 171, 3), (415, .aload_n 0, 1), (416, .ldc 170, 2), (418, .newarray .int, 2), (420, .putfield 174, 3), (423, .aload_n 0, 1), (424, .ldc 170, 2), (426, .newarray .int, 2), (428, .putfield 177, 3), (431, .aload_n 0, 1), (432, .sipush 4500, 3), (435, .newarray .int, 2), (437, .putfield 180, 3), (440, .aload_n 0, 1), (441, .sipush 4500, 3), (444, .newarray .int, 2), (446, .putfield 183, 3), (449, .aload_n 0, 1), (450, .sipush 4500, 3), (453, .newarray .int, 2), (455, .putfield 186, 3), (458, .aload_n 0, 1), (459, .sipush 4500, 3), (462, .newarray .int, 2), (464, .putfield 189, 3), (467, .aload_n 0, 1), (468, .sipush 4500, 3), (471, .newarray .int, 2), (473, .putfield 192, 3), (476, .aload_n 0, 1), (477, .sipush 4500, 3), (480, .newarray .int, 2), (482, .putfield 195, 3), (485, .aload_n 0, 1), (486, .sipush 160, 3), (489, .newarray .int, 2), (491, .putfield 198, 3), (494, .aload_n 0, 1), (495, .iconst 5, 1), (496, .newarray .int, 2), (498, .putfield 201, 3), (501, .aload_n 0, 1), (502, .iconst 5, 1), (503, .newarray .int, 2), (505, .putfield 204, 3), (508, .aload_n 0, 1), (509, .iconst 5, 1), (510, .newarray .boolean, 2), (512, .putfield 207, 3), (515, .aload_n 0, 1), (516, .sipush 4100, 3), (519, .newarray .int, 2), (521, .putfield 210, 3), (524, .aload_n 0, 1), (525, .sipush 4100, 3), (528, .newarray .int, 2), (530, .putfield 213, 3), (533, .aload_n 0, 1), (534, .sipush 4100, 3), (537, .newarray .int, 2), (539, .putfield 216, 3), (542, .aload_n 0, 1), (543, .sipush 4100, 3), (546, .newarray .int, 2), (548, .putfield 219, 3), (551, .aload_n 0, 1), (552, .sipush 4200, 3), (555, .newarray .int, 2), (557, .putfield 222, 3), (560, .aload_n 0, 1), (561, .bipush 24, 2), (563, .newarray .int, 2), (565, .putfield 225, 3), (568, .aload_n 0, 1), (569, .bipush 6, 2), (571, .newarray .int, 2), (573, .putfield 228, 3), (576, .aload_n 0, 1), (577, .bipush 6, 2), (579, .newarray .int, 2), (581, .putfield 231, 3), (584, .aload_n 0, 1), (585, .sipush 1000, 3), (588, .newarray .int, 2), (590, .putfield 234, 3), (593, .aload_n 0, 1), (594, .sipush 1000, 3)]
set_option maxRecDepth 20000 in
theorem dl_33_2_ok : dl_33_2.all (fun q => decide (decode prog_14_method_1_code q.1 = .ok (q.2.1, q.2.2))) = true := xa_g_ok (by decide +kernel)
def dl_33_3 : List (Nat × Instr × Nat) := [(597, .newarray .int, 2), (599, .putfield 237, 3), (602, .aload_n 0, 1), (603, .sipush 1000, 3), (606, .newarray .int, 2), (608, .putfield 240, 3), (611, .aload_n 0, 1), (612, .sipush 6000, 3), (615, .newarray .int, 2), (617, .putfield 243, 3), (620, .aload_n 0, 1), (621, .sipush 1000, 3), (624, .newarray .int, 2), (626, .putfield 246, 3), (629, .aload_n 0, 1), (630, .ldc 249, 2), (632, .newarray .int, 2), (634, .putfield 250, 3), (637, .aload_n 0, 1), (638, .sipush 2000, 3), (641, .newarray .int, 2), (643, .putfield 253, 3), (646, .aload_n 0, 1), (647, .sipush 2000, 3), (650, .newarray .int, 2), (652, .putfield 256, 3), (655, .aload_n 0, 1), (656, .invokevirtual 259, 3), (659, .aload_n 0, 1), (660, .invokevirtual 262, 3), (663, .return_, 1)]
set_option maxRecDepth 20000 in
theorem dl_33_3_ok : dl_33_3.all (fun q => decide (decode prog_14_method_1_code q.1 = .ok (q.2.1, q.2.2))) = true := xa_g_ok (by decide +kernel)
def tb_33_0 : Nat → xE := (x_T 17 (x_T 7 (x_T 1 (x_T 0 (x_L 0 (0, xi_load 0 2 1, 0, 0)) (x_L 1 (0, xi_oi 4, 0, 0))) (x_T 4 (x_L 4 (0, xi_load 0 2 5, 0, 0)) (x_T 5 (x_L 5 (0, xi_push (0, 33060, 33060) 7, 0, 0)) (x_L 7 (0, xi_newa 1 0 (0, 0, 0) (xm_c mq_33) (xm_s mq_33) 9, 0, 0))))) (x_T 12 (x_T 9 (x_L 9 (0, xi_putf 12 0 2 12, 0, 0)) (x_L 12 (0, xi_load 0 2 13, 0, 0))) (x_T 13 (x_L 13 (0, xi_push (0, 33060, 33060) 15, 0, 0)) (x_T 15 (x_L 15 (0, xi_newa 1 0 (0, 0, 0) (xm_c mq_33) (xm_s mq_33) 17, 0, 0)) (x_L 17 (0, xi_putf 12 1 2 20, 0, 0)))))) (x_T 28 (x_T 21 (x_T 20 (x_L 20 (0, xi_load 0 2 21, 0, 0)) (x_L 21 (0, xi_push (0, 661200, 661200) 23, 0, 0))) (x_T 23 (x_L 23 (0, xi_newa 1 0 (0, 0, 0) (xm_c mq_33) (xm_s mq_33) 25, 0, 0)) (x_T 25 (x_L 25 (0, xi_putf 12 2 2 28, 0, 0)) (x_L 28 (0, xi_load 0 2 29, 0, 0))))) (x_T 32 (x_T 29 (x_L 29 (0, xi_push (0, 8000, 8000) 32, 0, 0)) (x_L 32 (0, xi_newa 1 0 (0, 0, 0) (xm_c mq_33) (xm_s mq_33) 34, 0, 0))) (x_T 34 (x_L 34 (0, xi_putf 12 4 2 37, 0, 0)) (x_T 37 (x_L 37 (0, xi_load 0 2 38, 0, 0)) (x_L 38 (0, xi_push (0, 4, 4) 39, 0, 0)))))))
set_option maxRecDepth 20000 in
set_option maxHeartbeats 4000000 in
theorem tb_33_0_ok (K : xKx) (hK : x_KP K) : ∀ pc, x_EOq cls K xJ mq_33 pc (tb_33_0 pc) :=
  (x_Tok2
  (x_Tok2
  (x_Tok2
  (x_Tok2
  (x_Lok (x_st (I := xJ) (xr_aload_n (i := 0) (x_dk dl_33_0_ok 0 rfl))))
  (x_Lok (x_st (I := xJ) (xr_oi (ix := 1) (in_t9 (List.mem_of_getElem? (i := 85) rfl) rfl) (in_t1 (List.mem_of_getElem? (i := 27) rfl) rfl) (in_t1 (List.mem_of_getElem? (i := 28) rfl) rfl) (x_dk dl_33_0_ok 1 rfl)))))
  (x_Tok2
  (x_Lok (x_st (I := xJ) (xr_aload_n (i := 0) (x_dk dl_33_0_ok 2 rfl))))
  (x_Tok2
  (x_Lok (x_st (I := xJ) (xr_ldc (ix := 7) (z := 33060) (v := 33060) (x_dk dl_33_0_ok 3 rfl) (in_t9 (List.mem_of_getElem? (i := 86) rfl) rfl) (by decide))))
  (x_Lok (x_st (I := xJ) (xr_newa (kd := 1) (b := false) (ty := .int) rfl rfl (in_t1 (List.mem_of_getElem? (i := 64) rfl) rfl) (x_dk dl_33_0_ok 4 rfl)))))))
  (x_Tok2
  (x_Tok2
  (x_Lok (x_st (I := xJ) (xr_putF (ci := 12) (k := 0) (ix := 8) (N := 119) (fk := 2) (C := RX12) (T := TX12) (ty0 := tyX12) (ty := .array .int) rfl in_X12 tyX12_ok nmX12 (by decide) (in_t9 (List.mem_of_getElem? (i := 115) rfl) rfl) rfl rfl rfl rfl x_fit_arr (x_dk dl_33_0_ok 5 rfl))))
  (x_Lok (x_st (I := xJ) (xr_aload_n (i := 0) (x_dk dl_33_0_ok 6 rfl)))))
  (x_Tok2
  (x_Lok (x_st (I := xJ) (xr_ldc (ix := 7) (z := 33060) (v := 33060) (x_dk dl_33_0_ok 7 rfl) (in_t9 (List.mem_of_getElem? (i := 86) rfl) rfl) (by decide))))
  (x_Tok2
  (x_Lok (x_st (I := xJ) (xr_newa (kd := 1) (b := false) (ty := .int) rfl rfl (in_t1 (List.mem_of_getElem? (i := 64) rfl) rfl) (x_dk dl_33_0_ok 8 rfl))))
  (x_Lok (x_st (I := xJ) (xr_putF (ci := 12) (k := 1) (ix := 14) (N := 119) (fk := 2) (C := RX12) (T := TX12) (ty0 := tyX12) (ty := .array .int) rfl in_X12 tyX12_ok nmX12 (by decide) (in_t9 (List.mem_of_getElem? (i := 116) rfl) rfl) rfl rfl rfl rfl x_fit_arr (x_dk dl_33_0_ok 9 rfl))))))))
  (x_Tok2
  (x_Tok2
  (x_Tok2
  (x_Lok (x_st (I := xJ) (xr_aload_n (i := 0) (x_dk dl_33_0_ok 10 rfl))))
  (x_Lok (x_st (I := xJ) (xr_ldc (ix := 17) (z := 661200) (v := 661200) (x_dk dl_33_0_ok 11 rfl) (in_t9 (List.mem_of_getElem? (i := 87) rfl) rfl) (by decide)))))
  (x_Tok2
  (x_Lok (x_st (I := xJ) (xr_newa (kd := 1) (b := false) (ty := .int) rfl rfl (in_t1 (List.mem_of_getElem? (i := 64) rfl) rfl) (x_dk dl_33_0_ok 12 rfl))))
  (x_Tok2
  (x_Lok (x_st (I := xJ) (xr_putF (ci := 12) (k := 2) (ix := 18) (N := 119) (fk := 2) (C := RX12) (T := TX12) (ty0 := tyX12) (ty := .array .int) rfl in_X12 tyX12_ok nmX12 (by decide) (in_t9 (List.mem_of_getElem? (i := 117) rfl) rfl) rfl rfl rfl rfl x_fit_arr (x_dk dl_33_0_ok 13 rfl))))
  (x_Lok (x_st (I := xJ) (xr_aload_n (i := 0) (x_dk dl_33_0_ok 14 rfl)))))))
  (x_Tok2
  (x_Tok2
  (x_Lok (x_st (I := xJ) (xr_sipush (n := 8000) (z := 8000) (v := 8000) (x_dk dl_33_0_ok 15 rfl) (by decide) (by decide))))
  (x_Lok (x_st (I := xJ) (xr_newa (kd := 1) (b := false) (ty := .int) rfl rfl (in_t1 (List.mem_of_getElem? (i := 64) rfl) rfl) (x_dk dl_33_0_ok 16 rfl)))))
  (x_Tok2
  (x_Lok (x_st (I := xJ) (xr_putF (ci := 12) (k := 4) (ix := 21) (N := 119) (fk := 2) (C := RX12) (T := TX12) (ty0 := tyX12) (ty := .array .int) rfl in_X12 tyX12_ok nmX12 (by decide) (in_t9 (List.mem_of_getElem? (i := 119) rfl) rfl) rfl rfl rfl rfl x_fit_arr (x_dk dl_33_0_ok 17 rfl))))
  (x_Tok2
  (x_Lok (x_st (I := xJ) (xr_aload_n (i := 0) (x_dk dl_33_0_ok 18 rfl))))
  (x_Lok (x_st (I := xJ) (xr_iconst (n := 4) (z := 4) (v := 4) (x_dk dl_33_0_ok 19 rfl) (by decide) (by decide)))))))))
def tb_33_20 : Nat → xE := (x_T 57 (x_T 48 (x_T 41 (x_T 39 (x_L 39 (0, xi_newa 1 0 (0, 0, 0) (xm_c mq_33) (xm_s mq_33) 41, 0, 0)) (x_L 41 (0, xi_putf 12 7 2 44, 0, 0))) (x_T 44 (x_L 44 (0, xi_load 0 2 45, 0, 0)) (x_T 45 (x_L 45 (0, xi_push (0, 4000, 4000) 48, 0, 0)) (x_L 48 (0, xi_newa 2 0 (0, 0, 0) (xm_c mq_33) (xm_s mq_33) 50, 0, 0))))) (x_T 53 (x_T 50 (x_L 50 (0, xi_putf 12 8 2 53, 0, 0)) (x_L 53 (0, xi_load 0 2 54, 0, 0))) (x_T 54 (x_L 54 (0, xi_push (0, 4, 4) 55, 0, 0)) (x_T 55 (x_L 55 (0, xi_newa 1 0 (0, 0, 0) (xm_c mq_33) (xm_s mq_33) 57, 0, 0)) (x_L 57 (0, xi_putf 12 11 2 60, 0, 0)))))) (x_T 67 (x_T 61 (x_T 60 (x_L 60 (0, xi_load 0 2 61, 0, 0)) (x_L 61 (0, xi_push (0, 4, 4) 62, 0, 0))) (x_T 62 (x_L 62 (0, xi_newa 1 0 (0, 0, 0) (xm_c mq_33) (xm_s mq_33) 64, 0, 0)) (x_T 64 (x_L 64 (0, xi_putf 12 12 2 67, 0, 0)) (x_L 67 (0, xi_load 0 2 68, 0, 0))))) (x_T 71 (x_T 68 (x_L 68 (0, xi_push (0, 4, 4) 69, 0, 0)) (x_T 69 (x_L 69 (0, xi_newa 1 0 (0, 0, 0) (xm_c mq_33) (xm_s mq_33) 71, 0, 0)) (x_L 71 (0, xi_putf 12 13 2 74, 0, 0)))) (x_T 74 (x_L 74 (0, xi_load 0 2 75, 0, 0)) (x_T 75 (x_L 75 (0, xi_push (0, 4, 4) 76, 0, 0)) (x_L 76 (0, xi_newa 1 0 (0, 0, 0) (xm_c mq_33) (xm_s mq_33) 78, 0, 0)))))))
set_option maxRecDepth 20000 in
set_option maxHeartbeats 4000000 in
theorem tb_33_20_ok (K : xKx) (hK : x_KP K) : ∀ pc, x_EOq cls K xJ mq_33 pc (tb_33_20 pc) :=
  (x_Tok2
  (x_Tok2
  (x_Tok2
  (x_Tok2
  (x_Lok (x_st (I := xJ) (xr_newa (kd := 1) (b := false) (ty := .int) rfl rfl (in_t1 (List.mem_of_getElem? (i := 64) rfl) rfl) (x_dk dl_33_0_ok 20 rfl))))
  (x_Lok (x_st (I := xJ) (xr_putF (ci := 12) (k := 7) (ix := 24) (N := 119) (fk := 2) (C := RX12) (T := TX12) (ty0 := tyX12) (ty := .array .int) rfl in_X12 tyX12_ok nmX12 (by decide) (in_t9 (List.mem_of_getElem? (i := 122) rfl) rfl) rfl rfl rfl rfl x_fit_arr (x_dk dl_33_0_ok 21 rfl)))))
  (x_Tok2
  (x_Lok (x_st (I := xJ) (xr_aload_n (i := 0) (x_dk dl_33_0_ok 22 rfl))))
  (x_Tok2
  (x_Lok (x_st (I := xJ) (xr_sipush (n := 4000) (z := 4000) (v := 4000) (x_dk dl_33_0_ok 23 rfl) (by decide) (by decide))))
  (x_Lok (x_st (I := xJ) (xr_newa (kd := 2) (b := true) (ty := .byte) rfl rfl (in_t1 (List.mem_of_getElem? (i := 121) rfl) rfl) (x_dk dl_33_0_ok 24 rfl)))))))
  (x_Tok2
  (x_Tok2
  (x_Lok (x_st (I := xJ) (xr_putF (ci := 12) (k := 8) (ix := 27) (N := 119) (fk := 2) (C := RX12) (T := TX12) (ty0 := tyX12) (ty := .array .byte) rfl in_X12 tyX12_ok nmX12 (by decide) (in_t9 (List.mem_of_getElem? (i := 123) rfl) rfl) rfl rfl rfl rfl x_fit_arr (x_dk dl_33_0_ok 25 rfl))))
  (x_Lok (x_st (I := xJ) (xr_aload_n (i := 0) (x_dk dl_33_0_ok 26 rfl)))))
  (x_Tok2
  (x_Lok (x_st (I := xJ) (xr_iconst (n := 4) (z := 4) (v := 4) (x_dk dl_33_0_ok 27 rfl) (by decide) (by decide))))
  (x_Tok2
  (x_Lok (x_st (I := xJ) (xr_newa (kd := 1) (b := false) (ty := .int) rfl rfl (in_t1 (List.mem_of_getElem? (i := 64) rfl) rfl) (x_dk dl_33_0_ok 28 rfl))))
  (x_Lok (x_st (I := xJ) (xr_putF (ci := 12) (k := 11) (ix := 31) (N := 119) (fk := 2) (C := RX12) (T := TX12) (ty0 := tyX12) (ty := .array .int) rfl in_X12 tyX12_ok nmX12 (by decide) (in_t9 (List.mem_of_getElem? (i := 126) rfl) rfl) rfl rfl rfl rfl x_fit_arr (x_dk dl_33_0_ok 29 rfl))))))))
  (x_Tok2
  (x_Tok2
  (x_Tok2
  (x_Lok (x_st (I := xJ) (xr_aload_n (i := 0) (x_dk dl_33_0_ok 30 rfl))))
  (x_Lok (x_st (I := xJ) (xr_iconst (n := 4) (z := 4) (v := 4) (x_dk dl_33_0_ok 31 rfl) (by decide) (by decide)))))
  (x_Tok2
  (x_Lok (x_st (I := xJ) (xr_newa (kd := 1) (b := false) (ty := .int) rfl rfl (in_t1 (List.mem_of_getElem? (i := 64) rfl) rfl) (x_dk dl_33_0_ok 32 rfl))))
  (x_Tok2
  (x_Lok (x_st (I := xJ) (xr_putF (ci := 12) (k := 12) (ix := 34) (N := 119) (fk := 2) (C := RX12) (T := TX12) (ty0 := tyX12) (ty := .array .int) rfl in_X12 tyX12_ok nmX12 (by decide) (in_t9 (List.mem_of_getElem? (i := 127) rfl) rfl) rfl rfl rfl rfl x_fit_arr (x_dk dl_33_0_ok 33 rfl))))
  (x_Lok (x_st (I := xJ) (xr_aload_n (i := 0) (x_dk dl_33_0_ok 34 rfl)))))))
  (x_Tok2
  (x_Tok2
  (x_Lok (x_st (I := xJ) (xr_iconst (n := 4) (z := 4) (v := 4) (x_dk dl_33_0_ok 35 rfl) (by decide) (by decide))))
  (x_Tok2
  (x_Lok (x_st (I := xJ) (xr_newa (kd := 1) (b := false) (ty := .int) rfl rfl (in_t1 (List.mem_of_getElem? (i := 64) rfl) rfl) (x_dk dl_33_0_ok 36 rfl))))
  (x_Lok (x_st (I := xJ) (xr_putF (ci := 12) (k := 13) (ix := 37) (N := 119) (fk := 2) (C := RX12) (T := TX12) (ty0 := tyX12) (ty := .array .int) rfl in_X12 tyX12_ok nmX12 (by decide) (in_t9 (List.mem_of_getElem? (i := 128) rfl) rfl) rfl rfl rfl rfl x_fit_arr (x_dk dl_33_0_ok 37 rfl))))))
  (x_Tok2
  (x_Lok (x_st (I := xJ) (xr_aload_n (i := 0) (x_dk dl_33_0_ok 38 rfl))))
  (x_Tok2
  (x_Lok (x_st (I := xJ) (xr_iconst (n := 4) (z := 4) (v := 4) (x_dk dl_33_0_ok 39 rfl) (by decide) (by decide))))
  (x_Lok (x_st (I := xJ) (xr_newa (kd := 1) (b := false) (ty := .int) rfl rfl (in_t1 (List.mem_of_getElem? (i := 64) rfl) rfl) (x_dk dl_33_0_ok 40 rfl)))))))))
def tb_33_41 : Nat → xE := (x_T 96 (x_T 85 (x_T 81 (x_T 78 (x_L 78 (0, xi_putf 12 14 2 81, 0, 0)) (x_L 81 (0, xi_load 0 2 82, 0, 0))) (x_T 82 (x_L 82 (0, xi_push (0, 4, 4) 83, 0, 0)) (x_T 83 (x_L 83 (0, xi_newa 1 0 (0, 0, 0) (xm_c mq_33) (xm_s mq_33) 85, 0, 0)) (x_L 85 (0, xi_putf 12 15 2 88, 0, 0))))) (x_T 89 (x_T 88 (x_L 88 (0, xi_load 0 2 89, 0, 0)) (x_L 89 (0, xi_push (0, 24, 24) 91, 0, 0))) (x_T 91 (x_L 91 (0, xi_newa 1 0 (0, 0, 0) (xm_c mq_33) (xm_s mq_33) 93, 0, 0)) (x_T 93 (x_L 93 (0, xi_putf 12 16 2 96, 0, 0)) (x_L 96 (0, xi_load 0 2 97, 0, 0)))))) (x_T 105 (x_T 99 (x_T 97 (x_L 97 (0, xi_push (0, 24, 24) 99, 0, 0)) (x_L 99 (0, xi_newa 1 0 (0, 0, 0) (xm_c mq_33) (xm_s mq_33) 101, 0, 0))) (x_T 101 (x_L 101 (0, xi_putf 12 17 2 104, 0, 0)) (x_T 104 (x_L 104 (0, xi_load 0 2 105, 0, 0)) (x_L 105 (0, xi_push (0, 24, 24) 107, 0, 0))))) (x_T 109 (x_T 107 (x_L 107 (0, xi_newa 1 0 (0, 0, 0) (xm_c mq_33) (xm_s mq_33) 109, 0, 0)) (x_L 109 (0, xi_putf 12 18 2 112, 0, 0))) (x_T 112 (x_L 112 (0, xi_load 0 2 113, 0, 0)) (x_T 113 (x_L 113 (0, xi_push (0, 24, 24) 115, 0, 0)) (x_L 115 (0, xi_newa 1 0 (0, 0, 0) (xm_c mq_33) (xm_s mq_33) 117, 0, 0)))))))
set_option maxRecDepth 20000 in
set_option maxHeartbeats 4000000 in
theorem tb_33_41_ok (K : xKx) (hK : x_KP K) : ∀ pc, x_EOq cls K xJ mq_33 pc (tb_33_41 pc) :=
  (x_Tok2
  (x_Tok2
  (x_Tok2
  (x_Tok2
  (x_Lok (x_st (I := xJ) (xr_putF (ci := 12) (k := 14) (ix := 40) (N := 119) (fk := 2) (C := RX12) (T := TX12) (ty0 := tyX12) (ty := .array .int) rfl in_X12 tyX12_ok nmX12 (by decide) (in_t9 (List.mem_of_getElem? (i := 129) rfl) rfl) rfl rfl rfl rfl x_fit_arr (x_dk dl_33_0_ok 41 rfl))))
  (x_Lok (x_st (I := xJ) (xr_aload_n (i := 0) (x_dk dl_33_0_ok 42 rfl)))))
  (x_Tok2
  (x_Lok (x_st (I := xJ) (xr_iconst (n := 4) (z := 4) (v := 4) (x_dk dl_33_0_ok 43 rfl) (by decide) (by decide))))
  (x_Tok2
  (x_Lok (x_st (I := xJ) (xr_newa (kd := 1) (b := false) (ty := .int) rfl rfl (in_t1 (List.mem_of_getElem? (i := 64) rfl) rfl) (x_dk dl_33_0_ok 44 rfl))))
  (x_Lok (x_st (I := xJ) (xr_putF (ci := 12) (k := 15) (ix := 43) (N := 119) (fk := 2) (C := RX12) (T := TX12) (ty0 := tyX12) (ty := .array .int) rfl in_X12 tyX12_ok nmX12 (by decide) (in_t9 (List.mem_of_getElem? (i := 130) rfl) rfl) rfl rfl rfl rfl x_fit_arr (x_dk dl_33_0_ok 45 rfl)))))))
  (x_Tok2
  (x_Tok2
  (x_Lok (x_st (I := xJ) (xr_aload_n (i := 0) (x_dk dl_33_0_ok 46 rfl))))
  (x_Lok (x_st (I := xJ) (xr_bipush (n := 24) (z := 24) (v := 24) (x_dk dl_33_0_ok 47 rfl) (by decide) (by decide)))))
  (x_Tok2
  (x_Lok (x_st (I := xJ) (xr_newa (kd := 1) (b := false) (ty := .int) rfl rfl (in_t1 (List.mem_of_getElem? (i := 64) rfl) rfl) (x_dk dl_33_0_ok 48 rfl))))
  (x_Tok2
  (x_Lok (x_st (I := xJ) (xr_putF (ci := 12) (k := 16) (ix := 46) (N := 119) (fk := 2) (C := RX12) (T := TX12) (ty0 := tyX12) (ty := .array .int) rfl in_X12 tyX12_ok nmX12 (by decide) (in_t9 (List.mem_of_getElem? (i := 131) rfl) rfl) rfl rfl rfl rfl x_fit_arr (x_dk dl_33_0_ok 49 rfl))))
  (x_Lok (x_st (I := xJ) (xr_aload_n (i := 0) (x_dk dl_33_0_ok 50 rfl))))))))
  (x_Tok2
  (x_Tok2
  (x_Tok2
  (x_Lok (x_st (I := xJ) (xr_bipush (n := 24) (z := 24) (v := 24) (x_dk dl_33_0_ok 51 rfl) (by decide) (by decide))))
  (x_Lok (x_st (I := xJ) (xr_newa (kd := 1) (b := false) (ty := .int) rfl rfl (in_t1 (List.mem_of_getElem? (i := 64) rfl) rfl) (x_dk dl_33_0_ok 52 rfl)))))
  (x_Tok2
  (x_Lok (x_st (I := xJ) (xr_putF (ci := 12) (k := 17) (ix := 49) (N := 119) (fk := 2) (C := RX12) (T := TX12) (ty0 := tyX12) (ty := .array .int) rfl in_X12 tyX12_ok nmX12 (by decide) (in_t9 (List.mem_of_getElem? (i := 132) rfl) rfl) rfl rfl rfl rfl x_fit_arr (x_dk dl_33_0_ok 53 rfl))))
  (x_Tok2
  (x_Lok (x_st (I := xJ) (xr_aload_n (i := 0) (x_dk dl_33_0_ok 54 rfl))))
  (x_Lok (x_st (I := xJ) (xr_bipush (n := 24) (z := 24) (v := 24) (x_dk dl_33_0_ok 55 rfl) (by decide) (by decide)))))))
  (x_Tok2
  (x_Tok2
  (x_Lok (x_st (I := xJ) (xr_newa (kd := 1) (b := false) (ty := .int) rfl rfl (in_t1 (List.mem_of_getElem? (i := 64) rfl) rfl) (x_dk dl_33_0_ok 56 rfl))))
  (x_Lok (x_st (I := xJ) (xr_putF (ci := 12) (k := 18) (ix := 52) (N := 119) (fk := 2) (C := RX12) (T := TX12) (ty0 := tyX12) (ty := .array .int) rfl in_X12 tyX12_ok nmX12 (by decide) (in_t9 (List.mem_of_getElem? (i := 133) rfl) rfl) rfl rfl rfl rfl x_fit_arr (x_dk dl_33_0_ok 57 rfl)))))
  (x_Tok2
  (x_Lok (x_st (I := xJ) (xr_aload_n (i := 0) (x_dk dl_33_0_ok 58 rfl))))
  (x_Tok2
  (x_Lok (x_st (I := xJ) (xr_bipush (n := 24) (z := 24) (v := 24) (x_dk dl_33_0_ok 59 rfl) (by decide) (by decide))))
  (x_Lok (x_st (I := xJ) (xr_newa (kd := 1) (b := false) (ty := .int) rfl rfl (in_t1 (List.mem_of_getElem? (i := 64) rfl) rfl) (x_dk dl_33_0_ok 60 rfl)))))))))
def tb_33_61 : Nat → xE := (x_T 136 (x_T 125 (x_T 120 (x_T 117 (x_L 117 (0, xi_putf 12 19 2 120, 0, 0)) (x_L 120 (0, xi_load 0 2 121, 0, 0))) (x_T 121 (x_L 121 (0, xi_push (0, 24, 24) 123, 0, 0)) (x_T 123 (x_L 123 (0, xi_newa 1 0 (0, 0, 0) (xm_c mq_33) (xm_s mq_33) 125, 0, 0)) (x_L 125 (0, xi_putf 12 20 2 128, 0, 0))))) (x_T 129 (x_T 128 (x_L 128 (0, xi_load 0 2 129, 0, 0)) (x_L 129 (0, xi_push (0, 24, 24) 131, 0, 0))) (x_T 131 (x_L 131 (0, xi_newa 1 0 (0, 0, 0) (xm_c mq_33) (xm_s mq_33) 133, 0, 0)) (x_T 133 (x_L 133 (0, xi_putf 12 21 2 136, 0, 0)) (x_L 136 (0, xi_load 0 2 137, 0, 0)))))) (x_T 145 (x_T 139 (x_T 137 (x_L 137 (0, xi_push (0, 24, 24) 139, 0, 0)) (x_L 139 (0, xi_newa 1 0 (0, 0, 0) (xm_c mq_33) (xm_s mq_33) 141, 0, 0))) (x_T 141 (x_L 141 (0, xi_putf 12 22 2 144, 0, 0)) (x_T 144 (x_L 144 (0, xi_load 0 2 145, 0, 0)) (x_L 145 (0, xi_push (0, 16, 16) 147, 0, 0))))) (x_T 152 (x_T 147 (x_L 147 (0, xi_newa 3 0 (0, 0, 0) (xm_c mq_33) (xm_s mq_33) 149, 0, 0)) (x_T 149 (x_L 149 (0, xi_putf 12 24 2 152, 0, 0)) (x_L 152 (0, xi_load 0 2 153, 0, 0)))) (x_T 153 (x_L 153 (0, xi_push (0, 16, 16) 155, 0, 0)) (x_T 155 (x_L 155 (0, xi_newa 1 0 (0, 0, 0) (xm_c mq_33) (xm_s mq_33) 157, 0, 0)) (x_L 157 (0, xi_putf 12 25 2 160, 0, 0)))))))
set_option maxRecDepth 20000 in
set_option maxHeartbeats 4000000 in
theorem tb_33_61_ok (K : xKx) (hK : x_KP K) : ∀ pc, x_EOq cls K xJ mq_33 pc (tb_33_61 pc) :=
  (x_Tok2
  (x_Tok2
  (x_Tok2
  (x_Tok2
  (x_Lok (x_st (I := xJ) (xr_putF (ci := 12) (k := 19) (ix := 55) (N := 119) (fk := 2) (C := RX12) (T := TX12) (ty0 := tyX12) (ty := .array .int) rfl in_X12 tyX12_ok nmX12 (by decide) (in_t9 (List.mem_of_getElem? (i := 134) rfl) rfl) rfl rfl rfl rfl x_fit_arr (x_dk dl_33_0_ok 61 rfl))))
  (x_Lok (x_st (I := xJ) (xr_aload_n (i := 0) (x_dk dl_33_0_ok 62 rfl)))))
  (x_Tok2
  (x_Lok (x_st (I := xJ) (xr_bipush (n := 24) (z := 24) (v := 24) (x_dk dl_33_0_ok 63 rfl) (by decide) (by decide))))
  (x_Tok2
  (x_Lok (x_st (I := xJ) (xr_newa (kd := 1) (b := false) (ty := .int) rfl rfl (in_t1 (List.mem_of_getElem? (i := 64) rfl) rfl) (x_dk dl_33_0_ok 64 rfl))))
  (x_Lok (x_st (I := xJ) (xr_putF (ci := 12) (k := 20) (ix := 58) (N := 119) (fk := 2) (C := RX12) (T := TX12) (ty0 := tyX12) (ty := .array .int) rfl in_X12 tyX12_ok nmX12 (by decide) (in_t9 (List.mem_of_getElem? (i := 135) rfl) rfl) rfl rfl rfl rfl x_fit_arr (x_dk dl_33_0_ok 65 rfl)))))))
  (x_Tok2
  (x_Tok2
  (x_Lok (x_st (I := xJ) (xr_aload_n (i := 0) (x_dk dl_33_0_ok 66 rfl))))
  (x_Lok (x_st (I := xJ) (xr_bipush (n := 24) (z := 24) (v := 24) (x_dk dl_33_0_ok 67 rfl) (by decide) (by decide)))))
  (x_Tok2
  (x_Lok (x_st (I := xJ) (xr_newa (kd := 1) (b := false) (ty := .int) rfl rfl (in_t1 (List.mem_of_getElem? (i := 64) rfl) rfl) (x_dk dl_33_0_ok 68 rfl))))
  (x_Tok2
  (x_Lok (x_st (I := xJ) (xr_putF (ci := 12) (k := 21) (ix := 61) (N := 119) (fk := 2) (C := RX12) (T := TX12) (ty0 := tyX12) (ty := .array .int) rfl in_X12 tyX12_ok nmX12 (by decide) (in_t9 (List.mem_of_getElem? (i := 136) rfl) rfl) rfl rfl rfl rfl x_fit_arr (x_dk dl_33_0_ok 69 rfl))))
  (x_Lok (x_st (I := xJ) (xr_aload_n (i := 0) (x_dk dl_33_0_ok 70 rfl))))))))
  (x_Tok2
  (x_Tok2
  (x_Tok2
  (x_Lok (x_st (I := xJ) (xr_bipush (n := 24) (z := 24) (v := 24) (x_dk dl_33_0_ok 71 rfl) (by decide) (by decide))))
  (x_Lok (x_st (I := xJ) (xr_newa (kd := 1) (b := false) (ty := .int) rfl rfl (in_t1 (List.mem_of_getElem? (i := 64) rfl) rfl) (x_dk dl_33_0_ok 72 rfl)))))
  (x_Tok2
  (x_Lok (x_st (I := xJ) (xr_putF (ci := 12) (k := 22) (ix := 64) (N := 119) (fk := 2) (C := RX12) (T := TX12) (ty0 := tyX12) (ty := .array .int) rfl in_X12 tyX12_ok nmX12 (by decide) (in_t9 (List.mem_of_getElem? (i := 137) rfl) rfl) rfl rfl rfl rfl x_fit_arr (x_dk dl_33_0_ok 73 rfl))))
  (x_Tok2
  (x_Lok (x_st (I := xJ) (xr_aload_n (i := 0) (x_dk dl_33_0_ok 74 rfl))))
  (x_Lok (x_st (I := xJ) (xr_bipush (n := 16) (z := 16) (v := 16) (x_dk dl_33_0_ok 75 rfl) (by decide) (by decide)))))))
  (x_Tok2
  (x_Tok2
  (x_Lok (x_st (I := xJ) (xr_newa (kd := 3) (b := true) (ty := .boolean) rfl rfl (in_t1 (List.mem_of_getElem? (i := 166) rfl) rfl) (x_dk dl_33_0_ok 76 rfl))))
  (x_Tok2
  (x_Lok (x_st (I := xJ) (xr_putF (ci := 12) (k := 24) (ix := 67) (N := 119) (fk := 2) (C := RX12) (T := TX12) (ty0 := tyX12) (ty := .array .boolean) rfl in_X12 tyX12_ok nmX12 (by decide) (in_t9 (List.mem_of_getElem? (i := 139) rfl) rfl) rfl rfl rfl rfl x_fit_arr (x_dk dl_33_0_ok 77 rfl))))
  (x_Lok (x_st (I := xJ) (xr_aload_n (i := 0) (x_dk dl_33_0_ok 78 rfl))))))
  (x_Tok2
  (x_Lok (x_st (I := xJ) (xr_bipush (n := 16) (z := 16) (v := 16) (x_dk dl_33_0_ok 79 rfl) (by decide) (by decide))))
  (x_Tok2
  (x_Lok (x_st (I := xJ) (xr_newa (kd := 1) (b := false) (ty := .int) rfl rfl (in_t1 (List.mem_of_getElem? (i := 64) rfl) rfl) (x_dk dl_33_0_ok 80 rfl))))
  (x_Lok (x_st (I := xJ) (xr_putF (ci := 12) (k := 25) (ix := 71) (N := 119) (fk := 2) (C := RX12) (T := TX12) (ty0 := tyX12) (ty := .array .int) rfl in_X12 tyX12_ok nmX12 (by decide) (in_t9 (List.mem_of_getElem? (i := 140) rfl) rfl) rfl rfl rfl rfl x_fit_arr (x_dk dl_33_0_ok 81 rfl)))))))))
def tb_33_82 : Nat → xE := (x_T 177 (x_T 168 (x_T 161 (x_T 160 (x_L 160 (0, xi_load 0 2 161, 0, 0)) (x_L 161 (0, xi_push (0, 16, 16) 163, 0, 0))) (x_T 163 (x_L 163 (0, xi_newa 1 0 (0, 0, 0) (xm_c mq_33) (xm_s mq_33) 165, 0, 0)) (x_T 165 (x_L 165 (0, xi_putf 12 26 2 168, 0, 0)) (x_L 168 (0, xi_load 0 2 169, 0, 0))))) (x_T 171 (x_T 169 (x_L 169 (0, xi_push (0, 16, 16) 171, 0, 0)) (x_L 171 (0, xi_newa 1 0 (0, 0, 0) (xm_c mq_33) (xm_s mq_33) 173, 0, 0))) (x_T 173 (x_L 173 (0, xi_putf 12 27 2 176, 0, 0)) (x_T 176 (x_L 176 (0, xi_load 0 2 177, 0, 0)) (x_L 177 (0, xi_push (0, 16, 16) 179, 0, 0)))))) (x_T 188 (x_T 181 (x_T 179 (x_L 179 (0, xi_newa 1 0 (0, 0, 0) (xm_c mq_33) (xm_s mq_33) 181, 0, 0)) (x_L 181 (0, xi_putf 12 28 2 184, 0, 0))) (x_T 184 (x_L 184 (0, xi_load 0 2 185, 0, 0)) (x_T 185 (x_L 185 (0, xi_push (0, 448, 448) 188, 0, 0)) (x_L 188 (0, xi_newa 3 0 (0, 0, 0) (xm_c mq_33) (xm_s mq_33) 190, 0, 0))))) (x_T 193 (x_T 190 (x_L 190 (0, xi_putf 12 29 2 193, 0, 0)) (x_L 193 (0, xi_load 0 2 194, 0, 0))) (x_T 194 (x_L 194 (0, xi_push (0, 4, 4) 195, 0, 0)) (x_T 195 (x_L 195 (0, xi_newa 1 0 (0, 0, 0) (xm_c mq_33) (xm_s mq_33) 197, 0, 0)) (x_L 197 (0, xi_putf 12 31 2 200, 0, 0)))))))
set_option maxRecDepth 20000 in
set_option maxHeartbeats 4000000 in
theorem tb_33_82_ok (K : xKx) (hK : x_KP K) : ∀ pc, x_EOq cls K xJ mq_33 pc (tb_33_82 pc) :=
  (x_Tok2
  (x_Tok2
  (x_Tok2
  (x_Tok2
  (x_Lok (x_st (I := xJ) (xr_aload_n (i := 0) (x_dk dl_33_0_ok 82 rfl))))
  (x_Lok (x_st (I := xJ) (xr_bipush (n := 16) (z := 16) (v := 16) (x_dk dl_33_0_ok 83 rfl) (by decide) (by decide)))))
  (x_Tok2
  (x_Lok (x_st (I := xJ) (xr_newa (kd := 1) (b := false) (ty := .int) rfl rfl (in_t1 (List.mem_of_getElem? (i := 64) rfl) rfl) (x_dk dl_33_0_ok 84 rfl))))
  (x_Tok2
  (x_Lok (x_st (I := xJ) (xr_putF (ci := 12) (k := 26) (ix := 74) (N := 119) (fk := 2) (C := RX12) (T := TX12) (ty0 := tyX12) (ty := .array .int) rfl in_X12 tyX12_ok nmX12 (by decide) (in_t9 (List.mem_of_getElem? (i := 141) rfl) rfl) rfl rfl rfl rfl x_fit_arr (x_dk dl_33_0_ok 85 rfl))))
  (x_Lok (x_st (I := xJ) (xr_aload_n (i := 0) (x_dk dl_33_0_ok 86 rfl)))))))
  (x_Tok2
  (x_Tok2
  (x_Lok (x_st (I := xJ) (xr_bipush (n := 16) (z := 16) (v := 16) (x_dk dl_33_0_ok 87 rfl) (by decide) (by decide))))
  (x_Lok (x_st (I := xJ) (xr_newa (kd := 1) (b := false) (ty := .int) rfl rfl (in_t1 (List.mem_of_getElem? (i := 64) rfl) rfl) (x_dk dl_33_0_ok 88 rfl)))))
  (x_Tok2
  (x_Lok (x_st (I := xJ) (xr_putF (ci := 12) (k := 27) (ix := 77) (N := 119) (fk := 2) (C := RX12) (T := TX12) (ty0 := tyX12) (ty := .array .int) rfl in_X12 tyX12_ok nmX12 (by decide) (in_t9 (List.mem_of_getElem? (i := 142) rfl) rfl) rfl rfl rfl rfl x_fit_arr (x_dk dl_33_0_ok 89 rfl))))
  (x_Tok2
  (x_Lok (x_st (I := xJ) (xr_aload_n (i := 0) (x_dk dl_33_0_ok 90 rfl))))
  (x_Lok (x_st (I := xJ) (xr_bipush (n := 16) (z := 16) (v := 16) (x_dk dl_33_0_ok 91 rfl) (by decide) (by decide))))))))
  (x_Tok2
  (x_Tok2
  (x_Tok2
  (x_Lok (x_st (I := xJ) (xr_newa (kd := 1) (b := false) (ty := .int) rfl rfl (in_t1 (List.mem_of_getElem? (i := 64) rfl) rfl) (x_dk dl_33_0_ok 92 rfl))))
  (x_Lok (x_st (I := xJ) (xr_putF (ci := 12) (k := 28) (ix := 80) (N := 119) (fk := 2) (C := RX12) (T := TX12) (ty0 := tyX12) (ty := .array .int) rfl in_X12 tyX12_ok nmX12 (by decide) (in_t9 (List.mem_of_getElem? (i := 143) rfl) rfl) rfl rfl rfl rfl x_fit_arr (x_dk dl_33_0_ok 93 rfl)))))
  (x_Tok2
  (x_Lok (x_st (I := xJ) (xr_aload_n (i := 0) (x_dk dl_33_0_ok 94 rfl))))
  (x_Tok2
  (x_Lok (x_st (I := xJ) (xr_sipush (n := 448) (z := 448) (v := 448) (x_dk dl_33_0_ok 95 rfl) (by decide) (by decide))))
  (x_Lok (x_st (I := xJ) (xr_newa (kd := 3) (b := true) (ty := .boolean) rfl rfl (in_t1 (List.mem_of_getElem? (i := 166) rfl) rfl) (x_dk dl_33_0_ok 96 rfl)))))))
  (x_Tok2
  (x_Tok2
  (x_Lok (x_st (I := xJ) (xr_putF (ci := 12) (k := 29) (ix := 83) (N := 119) (fk := 2) (C := RX12) (T := TX12) (ty0 := tyX12) (ty := .array .boolean) rfl in_X12 tyX12_ok nmX12 (by decide) (in_t9 (List.mem_of_getElem? (i := 144) rfl) rfl) rfl rfl rfl rfl x_fit_arr (x_dk dl_33_0_ok 97 rfl))))
  (x_Lok (x_st (I := xJ) (xr_aload_n (i := 0) (x_dk dl_33_0_ok 98 rfl)))))
  (x_Tok2
  (x_Lok (x_st (I := xJ) (xr_iconst (n := 4) (z := 4) (v := 4) (x_dk dl_33_0_ok 99 rfl) (by decide) (by decide))))
  (x_Tok2
  (x_Lok (x_st (I := xJ) (xr_newa (kd := 1) (b := false) (ty := .int) rfl rfl (in_t1 (List.mem_of_getElem? (i := 64) rfl) rfl) (x_dk dl_33_1_ok 0 rfl))))
  (x_Lok (x_st (I := xJ) (xr_putF (ci := 12) (k := 31) (ix := 86) (N := 119) (fk := 2) (C := RX12) (T := TX12) (ty0 := tyX12) (ty := .array .int) rfl in_X12 tyX12_ok nmX12 (by decide) (in_t9 (List.mem_of_getElem? (i := 146) rfl) rfl) rfl rfl rfl rfl x_fit_arr (x_dk dl_33_1_ok 1 rfl)))))))))
def tb_33_102 : Nat → xE := (x_T 215 (x_T 207 (x_T 201 (x_T 200 (x_L 200 (0, xi_load 0 2 201, 0, 0)) (x_L 201 (0, xi_push (0, 4, 4) 202, 0, 0))) (x_T 202 (x_L 202 (0, xi_newa 1 0 (0, 0, 0) (xm_c mq_33) (xm_s mq_33) 204, 0, 0)) (x_T 204 (x_L 204 (0, xi_putf 12 32 2 207, 0, 0)) (x_L 207 (0, xi_load 0 2 208, 0, 0))))) (x_T 209 (x_T 208 (x_L 208 (0, xi_push (0, 4, 4) 209, 0, 0)) (x_L 209 (0, xi_newa 1 0 (0, 0, 0) (xm_c mq_33) (xm_s mq_33) 211, 0, 0))) (x_T 211 (x_L 211 (0, xi_putf 12 33 2 214, 0, 0)) (x_T 214 (x_L 214 (0, xi_load 0 2 215, 0, 0)) (x_L 215 (0, xi_push (0, 4, 4) 216, 0, 0)))))) (x_T 223 (x_T 218 (x_T 216 (x_L 216 (0, xi_newa 1 0 (0, 0, 0) (xm_c mq_33) (xm_s mq_33) 218, 0, 0)) (x_L 218 (0, xi_putf 12 34 2 221, 0, 0))) (x_T 221 (x_L 221 (0, xi_load 0 2 222, 0, 0)) (x_T 222 (x_L 222 (0, xi_push (0, 4, 4) 223, 0, 0)) (x_L 223 (0, xi_newa 1 0 (0, 0, 0) (xm_c mq_33) (xm_s mq_33) 225, 0, 0))))) (x_T 229 (x_T 225 (x_L 225 (0, xi_putf 12 35 2 228, 0, 0)) (x_T 228 (x_L 228 (0, xi_load 0 2 229, 0, 0)) (x_L 229 (0, xi_push (0, 4, 4) 230, 0, 0)))) (x_T 230 (x_L 230 (0, xi_newa 1 0 (0, 0, 0) (xm_c mq_33) (xm_s mq_33) 232, 0, 0)) (x_T 232 (x_L 232 (0, xi_putf 12 36 2 235, 0, 0)) (x_L 235 (0, xi_load 0 2 236, 0, 0)))))))
set_option maxRecDepth 20000 in
set_option maxHeartbeats 4000000 in
theorem tb_33_102_ok (K : xKx) (hK : x_KP K) : ∀ pc, x_EOq cls K xJ mq_33 pc (tb_33_102 pc) :=
  (x_Tok2
  (x_Tok2
  (x_Tok2
  (x_Tok2
  (x_Lok (x_st (I := xJ) (xr_aload_n (i := 0) (x_dk dl_33_1_ok 2 rfl))))
  (x_Lok (x_st (I := xJ) (xr_iconst (n := 4) (z := 4) (v := 4) (x_dk dl_33_1_ok 3 rfl) (by decide) (by decide)))))
  (x_Tok2
  (x_Lok (x_st (I := xJ) (xr_newa (kd := 1) (b := false) (ty := .int) rfl rfl (in_t1 (List.mem_of_getElem? (i := 64) rfl) rfl) (x_dk dl_33_1_ok 4 rfl))))
  (x_Tok2
  (x_Lok (x_st (I := xJ) (xr_putF (ci := 12) (k := 32) (ix := 89) (N := 119) (fk := 2) (C := RX12) (T := TX12) (ty0 := tyX12) (ty := .array .int) rfl in_X12 tyX12_ok nmX12 (by decide) (in_t9 (List.mem_of_getElem? (i := 147) rfl) rfl) rfl rfl rfl rfl x_fit_arr (x_dk dl_33_1_ok 5 rfl))))
  (x_Lok (x_st (I := xJ) (xr_aload_n (i := 0) (x_dk dl_33_1_ok 6 rfl)))))))
  (x_Tok2
  (x_Tok2
  (x_Lok (x_st (I := xJ) (xr_iconst (n := 4) (z := 4) (v := 4) (x_dk dl_33_1_ok 7 rfl) (by decide) (by decide))))
  (x_Lok (x_st (I := xJ) (xr_newa (kd := 1) (b := false) (ty := .int) rfl rfl (in_t1 (List.mem_of_getElem? (i := 64) rfl) rfl) (x_dk dl_33_1_ok 8 rfl)))))
  (x_Tok2
  (x_Lok (x_st (I := xJ) (xr_putF (ci := 12) (k := 33) (ix := 92) (N := 119) (fk := 2) (C := RX12) (T := TX12) (ty0 := tyX12) (ty := .array .int) rfl in_X12 tyX12_ok nmX12 (by decide) (in_t9 (List.mem_of_getElem? (i := 148) rfl) rfl) rfl rfl rfl rfl x_fit_arr (x_dk dl_33_1_ok 9 rfl))))
  (x_Tok2
  (x_Lok (x_st (I := xJ) (xr_aload_n (i := 0) (x_dk dl_33_1_ok 10 rfl))))
  (x_Lok (x_st (I := xJ) (xr_iconst (n := 4) (z := 4) (v := 4) (x_dk dl_33_1_ok 11 rfl) (by decide) (by decide))))))))
  (x_Tok2
  (x_Tok2
  (x_Tok2
  (x_Lok (x_st (I := xJ) (xr_newa (kd := 1) (b := false) (ty := .int) rfl rfl (in_t1 (List.mem_of_getElem? (i := 64) rfl) rfl) (x_dk dl_33_1_ok 12 rfl))))
  (x_Lok (x_st (I := xJ) (xr_putF (ci := 12) (k := 34) (ix := 95) (N := 119) (fk := 2) (C := RX12) (T := TX12) (ty0 := tyX12) (ty := .array .int) rfl in_X12 tyX12_ok nmX12 (by decide) (in_t9 (List.mem_of_getElem? (i := 149) rfl) rfl) rfl rfl rfl rfl x_fit_arr (x_dk dl_33_1_ok 13 rfl)))))
  (x_Tok2
  (x_Lok (x_st (I := xJ) (xr_aload_n (i := 0) (x_dk dl_33_1_ok 14 rfl))))
  (x_Tok2
  (x_Lok (x_st (I := xJ) (xr_iconst (n := 4) (z := 4) (v := 4) (x_dk dl_33_1_ok 15 rfl) (by decide) (by decide))))
  (x_Lok (x_st (I := xJ) (xr_newa (kd := 1) (b := false) (ty := .int) rfl rfl (in_t1 (List.mem_of_getElem? (i := 64) rfl) rfl) (x_dk dl_33_1_ok 16 rfl)))))))
  (x_Tok2
  (x_Tok2
  (x_Lok (x_st (I := xJ) (xr_putF (ci := 12) (k := 35) (ix := 98) (N := 119) (fk := 2) (C := RX12) (T := TX12) (ty0 := tyX12) (ty := .array .int) rfl in_X12 tyX12_ok nmX12 (by decide) (in_t9 (List.mem_of_getElem? (i := 150) rfl) rfl) rfl rfl rfl rfl x_fit_arr (x_dk dl_33_1_ok 17 rfl))))
  (x_Tok2
  (x_Lok (x_st (I := xJ) (xr_aload_n (i := 0) (x_dk dl_33_1_ok 18 rfl))))
  (x_Lok (x_st (I := xJ) (xr_iconst (n := 4) (z := 4) (v := 4) (x_dk dl_33_1_ok 19 rfl) (by decide) (by decide))))))
  (x_Tok2
  (x_Lok (x_st (I := xJ) (xr_newa (kd := 1) (b := false) (ty := .int) rfl rfl (in_t1 (List.mem_of_getElem? (i := 64) rfl) rfl) (x_dk dl_33_1_ok 20 rfl))))
  (x_Tok2
  (x_Lok (x_st (I := xJ) (xr_putF (ci := 12) (k := 36) (ix := 101) (N := 119) (fk := 2) (C := RX12) (T := TX12) (ty0 := tyX12) (ty := .array .int) rfl in_X12 tyX12_ok nmX12 (by decide) (in_t9 (List.mem_of_getElem? (i := 151) rfl) rfl) rfl rfl rfl rfl x_fit_arr (x_dk dl_33_1_ok 21 rfl))))
  (x_Lok (x_st (I := xJ) (xr_aload_n (i := 0) (x_dk dl_33_1_ok 22 rfl)))))))))
def tb_33_123 : Nat → xE := (x_T 251 (x_T 243 (x_T 237 (x_T 236 (x_L 236 (0, xi_push (0, 4, 4) 237, 0, 0)) (x_L 237 (0, xi_newa 1 0 (0, 0, 0) (xm_c mq_33) (xm_s mq_33) 239, 0, 0))) (x_T 239 (x_L 239 (0, xi_putf 12 37 2 242, 0, 0)) (x_T 242 (x_L 242 (0, xi_load 0 2 243, 0, 0)) (x_L 243 (0, xi_push (0, 4, 4) 244, 0, 0))))) (x_T 246 (x_T 244 (x_L 244 (0, xi_newa 1 0 (0, 0, 0) (xm_c mq_33) (xm_s mq_33) 246, 0, 0)) (x_L 246 (0, xi_putf 12 38 2 249, 0, 0))) (x_T 249 (x_L 249 (0, xi_load 0 2 250, 0, 0)) (x_T 250 (x_L 250 (0, xi_push (0, 4, 4) 251, 0, 0)) (x_L 251 (0, xi_newa 1 0 (0, 0, 0) (xm_c mq_33) (xm_s mq_33) 253, 0, 0)))))) (x_T 261 (x_T 256 (x_T 253 (x_L 253 (0, xi_putf 12 39 2 256, 0, 0)) (x_L 256 (0, xi_load 0 2 257, 0, 0))) (x_T 257 (x_L 257 (0, xi_push (0, 32, 32) 259, 0, 0)) (x_T 259 (x_L 259 (0, xi_newa 1 0 (0, 0, 0) (xm_c mq_33) (xm_s mq_33) 261, 0, 0)) (x_L 261 (0, xi_putf 12 41 2 264, 0, 0))))) (x_T 267 (x_T 264 (x_L 264 (0, xi_load 0 2 265, 0, 0)) (x_T 265 (x_L 265 (0, xi_push (0, 8, 8) 267, 0, 0)) (x_L 267 (0, xi_newa 1 0 (0, 0, 0) (xm_c mq_33) (xm_s mq_33) 269, 0, 0)))) (x_T 269 (x_L 269 (0, xi_putf 12 43 2 272, 0, 0)) (x_T 272 (x_L 272 (0, xi_load 0 2 273, 0, 0)) (x_L 273 (0, xi_push (0, 8, 8) 275, 0, 0)))))))
set_option maxRecDepth 20000 in
set_option maxHeartbeats 4000000 in
theorem tb_33_123_ok (K : xKx) (hK : x_KP K) : ∀ pc, x_EOq cls K xJ mq_33 pc (tb_33_123 pc) :=
  (x_Tok2
  (x_Tok2
  (x_Tok2
  (x_Tok2
  (x_Lok (x_st (I := xJ) (xr_iconst (n := 4) (z := 4) (v := 4) (x_dk dl_33_1_ok 23 rfl) (by decide) (by decide))))
  (x_Lok (x_st (I := xJ) (xr_newa (kd := 1) (b := false) (ty := .int) rfl rfl (in_t1 (List.mem_of_getElem? (i := 64) rfl) rfl) (x_dk dl_33_1_ok 24 rfl)))))
  (x_Tok2
  (x_Lok (x_st (I := xJ) (xr_putF (ci := 12) (k := 37) (ix := 104) (N := 119) (fk := 2) (C := RX12) (T := TX12) (ty0 := tyX12) (ty := .array .int) rfl in_X12 tyX12_ok nmX12 (by decide) (in_t9 (List.mem_of_getElem? (i := 152) rfl) rfl) rfl rfl rfl rfl x_fit_arr (x_dk dl_33_1_ok 25 rfl))))
  (x_Tok2
  (x_Lok (x_st (I := xJ) (xr_aload_n (i := 0) (x_dk dl_33_1_ok 26 rfl))))
  (x_Lok (x_st (I := xJ) (xr_iconst (n := 4) (z := 4) (v := 4) (x_dk dl_33_1_ok 27 rfl) (by decide) (by decide)))))))
  (x_Tok2
  (x_Tok2
  (x_Lok (x_st (I := xJ) (xr_newa (kd := 1) (b := false) (ty := .int) rfl rfl (in_t1 (List.mem_of_getElem? (i := 64) rfl) rfl) (x_dk dl_33_1_ok 28 rfl))))
  (x_Lok (x_st (I := xJ) (xr_putF (ci := 12) (k := 38) (ix := 107) (N := 119) (fk := 2) (C := RX12) (T := TX12) (ty0 := tyX12) (ty := .array .int) rfl in_X12 tyX12_ok nmX12 (by decide) (in_t9 (List.mem_of_getElem? (i := 153) rfl) rfl) rfl rfl rfl rfl x_fit_arr (x_dk dl_33_1_ok 29 rfl)))))
  (x_Tok2
  (x_Lok (x_st (I := xJ) (xr_aload_n (i := 0) (x_dk dl_33_1_ok 30 rfl))))
  (x_Tok2
  (x_Lok (x_st (I := xJ) (xr_iconst (n := 4) (z := 4) (v := 4) (x_dk dl_33_1_ok 31 rfl) (by decide) (by decide))))
  (x_Lok (x_st (I := xJ) (xr_newa (kd := 1) (b := false) (ty := .int) rfl rfl (in_t1 (List.mem_of_getElem? (i := 64) rfl) rfl) (x_dk dl_33_1_ok 32 rfl))))))))
  (x_Tok2
  (x_Tok2
  (x_Tok2
  (x_Lok (x_st (I := xJ) (xr_putF (ci := 12) (k := 39) (ix := 110) (N := 119) (fk := 2) (C := RX12) (T := TX12) (ty0 := tyX12) (ty := .array .int) rfl in_X12 tyX12_ok nmX12 (by decide) (in_t9 (List.mem_of_getElem? (i := 154) rfl) rfl) rfl rfl rfl rfl x_fit_arr (x_dk dl_33_1_ok 33 rfl))))
  (x_Lok (x_st (I := xJ) (xr_aload_n (i := 0) (x_dk dl_33_1_ok 34 rfl)))))
  (x_Tok2
  (x_Lok (x_st (I := xJ) (xr_bipush (n := 32) (z := 32) (v := 32) (x_dk dl_33_1_ok 35 rfl) (by decide) (by decide))))
  (x_Tok2
  (x_Lok (x_st (I := xJ) (xr_newa (kd := 1) (b := false) (ty := .int) rfl rfl (in_t1 (List.mem_of_getElem? (i := 64) rfl) rfl) (x_dk dl_33_1_ok 36 rfl))))
  (x_Lok (x_st (I := xJ) (xr_putF (ci := 12) (k := 41) (ix := 113) (N := 119) (fk := 2) (C := RX12) (T := TX12) (ty0 := tyX12) (ty := .array .int) rfl in_X12 tyX12_ok nmX12 (by decide) (in_t9 (List.mem_of_getElem? (i := 156) rfl) rfl) rfl rfl rfl rfl x_fit_arr (x_dk dl_33_1_ok 37 rfl)))))))
  (x_Tok2
  (x_Tok2
  (x_Lok (x_st (I := xJ) (xr_aload_n (i := 0) (x_dk dl_33_1_ok 38 rfl))))
  (x_Tok2
  (x_Lok (x_st (I := xJ) (xr_bipush (n := 8) (z := 8) (v := 8) (x_dk dl_33_1_ok 39 rfl) (by decide) (by decide))))
  (x_Lok (x_st (I := xJ) (xr_newa (kd := 1) (b := false) (ty := .int) rfl rfl (in_t1 (List.mem_of_getElem? (i := 64) rfl) rfl) (x_dk dl_33_1_ok 40 rfl))))))
  (x_Tok2
  (x_Lok (x_st (I := xJ) (xr_putF (ci := 12) (k := 43) (ix := 116) (N := 119) (fk := 2) (C := RX12) (T := TX12) (ty0 := tyX12) (ty := .array .int) rfl in_X12 tyX12_ok nmX12 (by decide) (in_t9 (List.mem_of_getElem? (i := 158) rfl) rfl) rfl rfl rfl rfl x_fit_arr (x_dk dl_33_1_ok 41 rfl))))
  (x_Tok2
  (x_Lok (x_st (I := xJ) (xr_aload_n (i := 0) (x_dk dl_33_1_ok 42 rfl))))
  (x_Lok (x_st (I := xJ) (xr_bipush (n := 8) (z := 8) (v := 8) (x_dk dl_33_1_ok 43 rfl) (by decide) (by decide)))))))))
def tb_33_144 : Nat → xE := (x_T 293 (x_T 283 (x_T 277 (x_T 275 (x_L 275 (0, xi_newa 1 0 (0, 0, 0) (xm_c mq_33) (xm_s mq_33) 277, 0, 0)) (x_L 277 (0, xi_putf 12 44 2 280, 0, 0))) (x_T 280 (x_L 280 (0, xi_load 0 2 281, 0, 0)) (x_T 281 (x_L 281 (0, xi_push (0, 8, 8) 283, 0, 0)) (x_L 283 (0, xi_newa 1 0 (0, 0, 0) (xm_c mq_33) (xm_s mq_33) 285, 0, 0))))) (x_T 288 (x_T 285 (x_L 285 (0, xi_putf 12 45 2 288, 0, 0)) (x_L 288 (0, xi_load 0 2 289, 0, 0))) (x_T 289 (x_L 289 (0, xi_push (0, 8, 8) 291, 0, 0)) (x_T 291 (x_L 291 (0, xi_newa 1 0 (0, 0, 0) (xm_c mq_33) (xm_s mq_33) 293, 0, 0)) (x_L 293 (0, xi_putf 12 46 2 296, 0, 0)))))) (x_T 304 (x_T 297 (x_T 296 (x_L 296 (0, xi_load 0 2 297, 0, 0)) (x_L 297 (0, xi_push (0, 8, 8) 299, 0, 0))) (x_T 299 (x_L 299 (0, xi_newa 1 0 (0, 0, 0) (xm_c mq_33) (xm_s mq_33) 301, 0, 0)) (x_T 301 (x_L 301 (0, xi_putf 12 47 2 304, 0, 0)) (x_L 304 (0, xi_load 0 2 305, 0, 0))))) (x_T 309 (x_T 305 (x_L 305 (0, xi_push (0, 8, 8) 307, 0, 0)) (x_T 307 (x_L 307 (0, xi_newa 1 0 (0, 0, 0) (xm_c mq_33) (xm_s mq_33) 309, 0, 0)) (x_L 309 (0, xi_putf 12 48 2 312, 0, 0)))) (x_T 312 (x_L 312 (0, xi_load 0 2 313, 0, 0)) (x_T 313 (x_L 313 (0, xi_push (0, 8, 8) 315, 0, 0)) (x_L 315 (0, xi_newa 1 0 (0, 0, 0) (xm_c mq_33) (xm_s mq_33) 317, 0, 0)))))))
set_option maxRecDepth 20000 in
set_option maxHeartbeats 4000000 in
theorem tb_33_144_ok (K : xKx) (hK : x_KP K) : ∀ pc, x_EOq cls K xJ mq_33 pc (tb_33_144 pc) :=
  (x_Tok2
  (x_Tok2
  (x_Tok2
  (x_Tok2
  (x_Lok (x_st (I := xJ) (xr_newa (kd := 1) (b := false) (ty := .int) rfl rfl (in_t1 (List.mem_of_getElem? (i := 64) rfl) rfl) (x_dk dl_33_1_ok 44 rfl))))
  (x_Lok (x_st (I := xJ) (xr_putF (ci := 12) (k := 44) (ix := 119) (N := 119) (fk := 2) (C := RX12) (T := TX12) (ty0 := tyX12) (ty := .array .int) rfl in_X12 tyX12_ok nmX12 (by decide) (in_t9 (List.mem_of_getElem? (i := 159) rfl) rfl) rfl rfl rfl rfl x_fit_arr (x_dk dl_33_1_ok 45 rfl)))))
  (x_Tok2
  (x_Lok (x_st (I := xJ) (xr_aload_n (i := 0) (x_dk dl_33_1_ok 46 rfl))))
  (x_Tok2
  (x_Lok (x_st (I := xJ) (xr_bipush (n := 8) (z := 8) (v := 8) (x_dk dl_33_1_ok 47 rfl) (by decide) (by decide))))
  (x_Lok (x_st (I := xJ) (xr_newa (kd := 1) (b := false) (ty := .int) rfl rfl (in_t1 (List.mem_of_getElem? (i := 64) rfl) rfl) (x_dk dl_33_1_ok 48 rfl)))))))
  (x_Tok2
  (x_Tok2
  (x_Lok (x_st (I := xJ) (xr_putF (ci := 12) (k := 45) (ix := 122) (N := 119) (fk := 2) (C := RX12) (T := TX12) (ty0 := tyX12) (ty := .array .int) rfl in_X12 tyX12_ok nmX12 (by decide) (in_t9 (List.mem_of_getElem? (i := 160) rfl) rfl) rfl rfl rfl rfl x_fit_arr (x_dk dl_33_1_ok 49 rfl))))
  (x_Lok (x_st (I := xJ) (xr_aload_n (i := 0) (x_dk dl_33_1_ok 50 rfl)))))
  (x_Tok2
  (x_Lok (x_st (I := xJ) (xr_bipush (n := 8) (z := 8) (v := 8) (x_dk dl_33_1_ok 51 rfl) (by decide) (by decide))))
  (x_Tok2
  (x_Lok (x_st (I := xJ) (xr_newa (kd := 1) (b := false) (ty := .int) rfl rfl (in_t1 (List.mem_of_getElem? (i := 64) rfl) rfl) (x_dk dl_33_1_ok 52 rfl))))
  (x_Lok (x_st (I := xJ) (xr_putF (ci := 12) (k := 46) (ix := 125) (N := 119) (fk := 2) (C := RX12) (T := TX12) (ty0 := tyX12) (ty := .array .int) rfl in_X12 tyX12_ok nmX12 (by decide) (in_t9 (List.mem_of_getElem? (i := 161) rfl) rfl) rfl rfl rfl rfl x_fit_arr (x_dk dl_33_1_ok 53 rfl))))))))
  (x_Tok2
  (x_Tok2
  (x_Tok2
  (x_Lok (x_st (I := xJ) (xr_aload_n (i := 0) (x_dk dl_33_1_ok 54 rfl))))
  (x_Lok (x_st (I := xJ) (xr_bipush (n := 8) (z := 8) (v := 8) (x_dk dl_33_1_ok 55 rfl) (by decide) (by decide)))))
  (x_Tok2
  (x_Lok (x_st (I := xJ) (xr_newa (kd := 1) (b := false) (ty := .int) rfl rfl (in_t1 (List.mem_of_getElem? (i := 64) rfl) rfl) (x_dk dl_33_1_ok 56 rfl))))
  (x_Tok2
  (x_Lok (x_st (I := xJ) (xr_putF (ci := 12) (k := 47) (ix := 128) (N := 119) (fk := 2) (C := RX12) (T := TX12) (ty0 := tyX12) (ty := .array .int) rfl in_X12 tyX12_ok nmX12 (by decide) (in_t9 (List.mem_of_getElem? (i := 162) rfl) rfl) rfl rfl rfl rfl x_fit_arr (x_dk dl_33_1_ok 57 rfl))))
  (x_Lok (x_st (I := xJ) (xr_aload_n (i := 0) (x_dk dl_33_1_ok 58 rfl)))))))
  (x_Tok2
  (x_Tok2
  (x_Lok (x_st (I := xJ) (xr_bipush (n := 8) (z := 8) (v := 8) (x_dk dl_33_1_ok 59 rfl) (by decide) (by decide))))
  (x_Tok2
  (x_Lok (x_st (I := xJ) (xr_newa (kd := 1) (b := false) (ty := .int) rfl rfl (in_t1 (List.mem_of_getElem? (i := 64) rfl) rfl) (x_dk dl_33_1_ok 60 rfl))))
  (x_Lok (x_st (I := xJ) (xr_putF (ci := 12) (k := 48) (ix := 131) (N := 119) (fk := 2) (C := RX12) (T := TX12) (ty0 := tyX12) (ty := .array .int) rfl in_X12 tyX12_ok nmX12 (by decide) (in_t9 (List.mem_of_getElem? (i := 163) rfl) rfl) rfl rfl rfl rfl x_fit_arr (x_dk dl_33_1_ok 61 rfl))))))
  (x_Tok2
  (x_Lok (x_st (I := xJ) (xr_aload_n (i := 0) (x_dk dl_33_1_ok 62 rfl))))
  (x_Tok2
  (x_Lok (x_st (I := xJ) (xr_bipush (n := 8) (z := 8) (v := 8) (x_dk dl_33_1_ok 63 rfl) (by decide) (by decide))))
  (x_Lok (x_st (I := xJ) (xr_newa (kd := 1) (b := false) (ty := .int) rfl rfl (in_t1 (List.mem_of_getElem? (i := 64) rfl) rfl) (x_dk dl_33_1_ok 64 rfl)))))))))
def tb_33_165 : Nat → xE := (x_T 336 (x_T 325 (x_T 320 (x_T 317 (x_L 317 (0, xi_putf 12 50 2 320, 0, 0)) (x_L 320 (0, xi_load 0 2 321, 0, 0))) (x_T 321 (x_L 321 (0, xi_push (0, 8, 8) 323, 0, 0)) (x_T 323 (x_L 323 (0, xi_newa 3 0 (0, 0, 0) (xm_c mq_33) (xm_s mq_33) 325, 0, 0)) (x_L 325 (0, xi_putf 12 51 2 328, 0, 0))))) (x_T 329 (x_T 328 (x_L 328 (0, xi_load 0 2 329, 0, 0)) (x_L 329 (0, xi_push (0, 64, 64) 331, 0, 0))) (x_T 331 (x_L 331 (0, xi_newa 1 0 (0, 0, 0) (xm_c mq_33) (xm_s mq_33) 333, 0, 0)) (x_T 333 (x_L 333 (0, xi_putf 12 52 2 336, 0, 0)) (x_L 336 (0, xi_load 0 2 337, 0, 0)))))) (x_T 345 (x_T 339 (x_T 337 (x_L 337 (0, xi_push (0, 64, 64) 339, 0, 0)) (x_L 339 (0, xi_newa 3 0 (0, 0, 0) (xm_c mq_33) (xm_s mq_33) 341, 0, 0))) (x_T 341 (x_L 341 (0, xi_putf 12 53 2 344, 0, 0)) (x_T 344 (x_L 344 (0, xi_load 0 2 345, 0, 0)) (x_L 345 (0, xi_push (0, 1025, 1025) 348, 0, 0))))) (x_T 350 (x_T 348 (x_L 348 (0, xi_newa 1 0 (0, 0, 0) (xm_c mq_33) (xm_s mq_33) 350, 0, 0)) (x_L 350 (0, xi_putf 12 54 2 353, 0, 0))) (x_T 353 (x_L 353 (0, xi_load 0 2 354, 0, 0)) (x_T 354 (x_L 354 (0, xi_push (0, 35, 35) 356, 0, 0)) (x_L 356 (0, xi_newa 1 0 (0, 0, 0) (xm_c mq_33) (xm_s mq_33) 358, 0, 0)))))))
set_option maxRecDepth 20000 in
set_option maxHeartbeats 4000000 in
theorem tb_33_165_ok (K : xKx) (hK : x_KP K) : ∀ pc, x_EOq cls K xJ mq_33 pc (tb_33_165 pc) :=
  (x_Tok2
  (x_Tok2
  (x_Tok2
  (x_Tok2
  (x_Lok (x_st (I := xJ) (xr_putF (ci := 12) (k := 50) (ix := 134) (N := 119) (fk := 2) (C := RX12) (T := TX12) (ty0 := tyX12) (ty := .array .int) rfl in_X12 tyX12_ok nmX12 (by decide) (in_t9 (List.mem_of_getElem? (i := 165) rfl) rfl) rfl rfl rfl rfl x_fit_arr (x_dk dl_33_1_ok 65 rfl))))
  (x_Lok (x_st (I := xJ) (xr_aload_n (i := 0) (x_dk dl_33_1_ok 66 rfl)))))
  (x_Tok2
  (x_Lok (x_st (I := xJ) (xr_bipush (n := 8) (z := 8) (v := 8) (x_dk dl_33_1_ok 67 rfl) (by decide) (by decide))))
  (x_Tok2
  (x_Lok (x_st (I := xJ) (xr_newa (kd := 3) (b := true) (ty := .boolean) rfl rfl (in_t1 (List.mem_of_getElem? (i := 166) rfl) rfl) (x_dk dl_33_1_ok 68 rfl))))
  (x_Lok (x_st (I := xJ) (xr_putF (ci := 12) (k := 51) (ix := 137) (N := 119) (fk := 2) (C := RX12) (T := TX12) (ty0 := tyX12) (ty := .array .boolean) rfl in_X12 tyX12_ok nmX12 (by decide) (in_t9 (List.mem_of_getElem? (i := 166) rfl) rfl) rfl rfl rfl rfl x_fit_arr (x_dk dl_33_1_ok 69 rfl)))))))
  (x_Tok2
  (x_Tok2
  (x_Lok (x_st (I := xJ) (xr_aload_n (i := 0) (x_dk dl_33_1_ok 70 rfl))))
  (x_Lok (x_st (I := xJ) (xr_bipush (n := 64) (z := 64) (v := 64) (x_dk dl_33_1_ok 71 rfl) (by decide) (by decide)))))
  (x_Tok2
  (x_Lok (x_st (I := xJ) (xr_newa (kd := 1) (b := false) (ty := .int) rfl rfl (in_t1 (List.mem_of_getElem? (i := 64) rfl) rfl) (x_dk dl_33_1_ok 72 rfl))))
  (x_Tok2
  (x_Lok (x_st (I := xJ) (xr_putF (ci := 12) (k := 52) (ix := 140) (N := 119) (fk := 2) (C := RX12) (T := TX12) (ty0 := tyX12) (ty := .array .int) rfl in_X12 tyX12_ok nmX12 (by decide) (in_t9 (List.mem_of_getElem? (i := 167) rfl) rfl) rfl rfl rfl rfl x_fit_arr (x_dk dl_33_1_ok 73 rfl))))
  (x_Lok (x_st (I := xJ) (xr_aload_n (i := 0) (x_dk dl_33_1_ok 74 rfl))))))))
  (x_Tok2
  (x_Tok2
  (x_Tok2
  (x_Lok (x_st (I := xJ) (xr_bipush (n := 64) (z := 64) (v := 64) (x_dk dl_33_1_ok 75 rfl) (by decide) (by decide))))
  (x_Lok (x_st (I := xJ) (xr_newa (kd := 3) (b := true) (ty := .boolean) rfl rfl (in_t1 (List.mem_of_getElem? (i := 166) rfl) rfl) (x_dk dl_33_1_ok 76 rfl)))))
  (x_Tok2
  (x_Lok (x_st (I := xJ) (xr_putF (ci := 12) (k := 53) (ix := 143) (N := 119) (fk := 2) (C := RX12) (T := TX12) (ty0 := tyX12) (ty := .array .boolean) rfl in_X12 tyX12_ok nmX12 (by decide) (in_t9 (List.mem_of_getElem? (i := 168) rfl) rfl) rfl rfl rfl rfl x_fit_arr (x_dk dl_33_1_ok 77 rfl))))
  (x_Tok2
  (x_Lok (x_st (I := xJ) (xr_aload_n (i := 0) (x_dk dl_33_1_ok 78 rfl))))
  (x_Lok (x_st (I := xJ) (xr_sipush (n := 1025) (z := 1025) (v := 1025) (x_dk dl_33_1_ok 79 rfl) (by decide) (by decide)))))))
  (x_Tok2
  (x_Tok2
  (x_Lok (x_st (I := xJ) (xr_newa (kd := 1) (b := false) (ty := .int) rfl rfl (in_t1 (List.mem_of_getElem? (i := 64) rfl) rfl) (x_dk dl_33_1_ok 80 rfl))))
  (x_Lok (x_st (I := xJ) (xr_putF (ci := 12) (k := 54) (ix := 146) (N := 119) (fk := 2) (C := RX12) (T := TX12) (ty0 := tyX12) (ty := .array .int) rfl in_X12 tyX12_ok nmX12 (by decide) (in_t9 (List.mem_of_getElem? (i := 169) rfl) rfl) rfl rfl rfl rfl x_fit_arr (x_dk dl_33_1_ok 81 rfl)))))
  (x_Tok2
  (x_Lok (x_st (I := xJ) (xr_aload_n (i := 0) (x_dk dl_33_1_ok 82 rfl))))
  (x_Tok2
  (x_Lok (x_st (I := xJ) (xr_bipush (n := 35) (z := 35) (v := 35) (x_dk dl_33_1_ok 83 rfl) (by decide) (by decide))))
  (x_Lok (x_st (I := xJ) (xr_newa (kd := 1) (b := false) (ty := .int) rfl rfl (in_t1 (List.mem_of_getElem? (i := 64) rfl) rfl) (x_dk dl_33_1_ok 84 rfl)))))))))
def tb_33_185 : Nat → xE := (x_T 377 (x_T 366 (x_T 361 (x_T 358 (x_L 358 (0, xi_putf 12 55 2 361, 0, 0)) (x_L 361 (0, xi_load 0 2 362, 0, 0))) (x_T 362 (x_L 362 (0, xi_push (0, 35, 35) 364, 0, 0)) (x_T 364 (x_L 364 (0, xi_newa 1 0 (0, 0, 0) (xm_c mq_33) (xm_s mq_33) 366, 0, 0)) (x_L 366 (0, xi_putf 12 56 2 369, 0, 0))))) (x_T 370 (x_T 369 (x_L 369 (0, xi_load 0 2 370, 0, 0)) (x_L 370 (0, xi_push (0, 6, 6) 372, 0, 0))) (x_T 372 (x_L 372 (0, xi_newa 1 0 (0, 0, 0) (xm_c mq_33) (xm_s mq_33) 374, 0, 0)) (x_T 374 (x_L 374 (0, xi_putf 12 57 2 377, 0, 0)) (x_L 377 (0, xi_load 0 2 378, 0, 0)))))) (x_T 385 (x_T 379 (x_T 378 (x_L 378 (0, xi_push (0, 4, 4) 379, 0, 0)) (x_L 379 (0, xi_newa 1 0 (0, 0, 0) (xm_c mq_33) (xm_s mq_33) 381, 0, 0))) (x_T 381 (x_L 381 (0, xi_putf 12 61 2 384, 0, 0)) (x_T 384 (x_L 384 (0, xi_load 0 2 385, 0, 0)) (x_L 385 (0, xi_push (0, 4, 4) 386, 0, 0))))) (x_T 391 (x_T 386 (x_L 386 (0, xi_newa 1 0 (0, 0, 0) (xm_c mq_33) (xm_s mq_33) 388, 0, 0)) (x_T 388 (x_L 388 (0, xi_putf 12 62 2 391, 0, 0)) (x_L 391 (0, xi_load 0 2 392, 0, 0)))) (x_T 392 (x_L 392 (0, xi_push (0, 65, 65) 394, 0, 0)) (x_T 394 (x_L 394 (0, xi_newa 1 0 (0, 0, 0) (xm_c mq_33) (xm_s mq_33) 396, 0, 0)) (x_L 396 (0, xi_putf 12 63 2 399, 0, 0)))))))
set_option maxRecDepth 20000 in
set_option maxHeartbeats 4000000 in
theorem tb_33_185_ok (K : xKx) (hK : x_KP K) : ∀ pc, x_EOq cls K xJ mq_33 pc (tb_33_185 pc) :=
  (x_Tok2
  (x_Tok2
  (x_Tok2
  (x_Tok2
  (x_Lok (x_st (I := xJ) (xr_putF (ci := 12) (k := 55) (ix := 149) (N := 119) (fk := 2) (C := RX12) (T := TX12) (ty0 := tyX12) (ty := .array .int) rfl in_X12 tyX12_ok nmX12 (by decide) (in_t9 (List.mem_of_getElem? (i := 170) rfl) rfl) rfl rfl rfl rfl x_fit_arr (x_dk dl_33_1_ok 85 rfl))))
  (x_Lok (x_st (I := xJ) (xr_aload_n (i := 0) (x_dk dl_33_1_ok 86 rfl)))))
  (x_Tok2
  (x_Lok (x_st (I := xJ) (xr_bipush (n := 35) (z := 35) (v := 35) (x_dk dl_33_1_ok 87 rfl) (by decide) (by decide))))
  (x_Tok2
  (x_Lok (x_st (I := xJ) (xr_newa (kd := 1) (b := false) (ty := .int) rfl rfl (in_t1 (List.mem_of_getElem? (i := 64) rfl) rfl) (x_dk dl_33_1_ok 88 rfl))))
  (x_Lok (x_st (I := xJ) (xr_putF (ci := 12) (k := 56) (ix := 152) (N := 119) (fk := 2) (C := RX12) (T := TX12) (ty0 := tyX12) (ty := .array .int) rfl in_X12 tyX12_ok nmX12 (by decide) (in_t9 (List.mem_of_getElem? (i := 171) rfl) rfl) rfl rfl rfl rfl x_fit_arr (x_dk dl_33_1_ok 89 rfl)))))))
  (x_Tok2
  (x_Tok2
  (x_Lok (x_st (I := xJ) (xr_aload_n (i := 0) (x_dk dl_33_1_ok 90 rfl))))
  (x_Lok (x_st (I := xJ) (xr_bipush (n := 6) (z := 6) (v := 6) (x_dk dl_33_1_ok 91 rfl) (by decide) (by decide)))))
  (x_Tok2
  (x_Lok (x_st (I := xJ) (xr_newa (kd := 1) (b := false) (ty := .int) rfl rfl (in_t1 (List.mem_of_getElem? (i := 64) rfl) rfl) (x_dk dl_33_1_ok 92 rfl))))
  (x_Tok2
  (x_Lok (x_st (I := xJ) (xr_putF (ci := 12) (k := 57) (ix := 155) (N := 119) (fk := 2) (C := RX12) (T := TX12) (ty0 := tyX12) (ty := .array .int) rfl in_X12 tyX12_ok nmX12 (by decide) (in_t9 (List.mem_of_getElem? (i := 172) rfl) rfl) rfl rfl rfl rfl x_fit_arr (x_dk dl_33_1_ok 93 rfl))))
  (x_Lok (x_st (I := xJ) (xr_aload_n (i := 0) (x_dk dl_33_1_ok 94 rfl))))))))
  (x_Tok2
  (x_Tok2
  (x_Tok2
  (x_Lok (x_st (I := xJ) (xr_iconst (n := 4) (z := 4) (v := 4) (x_dk dl_33_1_ok 95 rfl) (by decide) (by decide))))
  (x_Lok (x_st (I := xJ) (xr_newa (kd := 1) (b := false) (ty := .int) rfl rfl (in_t1 (List.mem_of_getElem? (i := 64) rfl) rfl) (x_dk dl_33_1_ok 96 rfl)))))
  (x_Tok2
  (x_Lok (x_st (I := xJ) (xr_putF (ci := 12) (k := 61) (ix := 158) (N := 119) (fk := 2) (C := RX12) (T := TX12) (ty0 := tyX12) (ty := .array .int) rfl in_X12 tyX12_ok nmX12 (by decide) (in_t9 (List.mem_of_getElem? (i := 176) rfl) rfl) rfl rfl rfl rfl x_fit_arr (x_dk dl_33_1_ok 97 rfl))))
  (x_Tok2
  (x_Lok (x_st (I := xJ) (xr_aload_n (i := 0) (x_dk dl_33_1_ok 98 rfl))))
  (x_Lok (x_st (I := xJ) (xr_iconst (n := 4) (z := 4) (v := 4) (x_dk dl_33_1_ok 99 rfl) (by decide) (by decide)))))))
  (x_Tok2
  (x_Tok2
  (x_Lok (x_st (I := xJ) (xr_newa (kd := 1) (b := false) (ty := .int) rfl rfl (in_t1 (List.mem_of_getElem? (i := 64) rfl) rfl) (x_dk dl_33_2_ok 0 rfl))))
  (x_Tok2
  (x_Lok (x_st (I := xJ) (xr_putF (ci := 12) (k := 62) (ix := 161) (N := 119) (fk := 2) (C := RX12) (T := TX12) (ty0 := tyX12) (ty := .array .int) rfl in_X12 tyX12_ok nmX12 (by decide) (in_t9 (List.mem_of_getElem? (i := 177) rfl) rfl) rfl rfl rfl rfl x_fit_arr (x_dk dl_33_2_ok 1 rfl))))
  (x_Lok (x_st (I := xJ) (xr_aload_n (i := 0) (x_dk dl_33_2_ok 2 rfl))))))
  (x_Tok2
  (x_Lok (x_st (I := xJ) (xr_bipush (n := 65) (z := 65) (v := 65) (x_dk dl_33_2_ok 3 rfl) (by decide) (by decide))))
  (x_Tok2
  (x_Lok (x_st (I := xJ) (xr_newa (kd := 1) (b := false) (ty := .int) rfl rfl (in_t1 (List.mem_of_getElem? (i := 64) rfl) rfl) (x_dk dl_33_2_ok 4 rfl))))
  (x_Lok (x_st (I := xJ) (xr_putF (ci := 12) (k := 63) (ix := 164) (N := 119) (fk := 2) (C := RX12) (T := TX12) (ty0 := tyX12) (ty := .array .int) rfl in_X12 tyX12_ok nmX12 (by decide) (in_t9 (List.mem_of_getElem? (i := 178) rfl) rfl) rfl rfl rfl rfl x_fit_arr (x_dk dl_33_2_ok 5 rfl)))))))))
def tb_33_206 : Nat → xE := (x_T 416 (x_T 407 (x_T 400 (x_T 399 (x_L 399 (0, xi_load 0 2 400, 0, 0)) (x_L 400 (0, xi_push (0, 64, 64) 402, 0, 0))) (x_T 402 (x_L 402 (0, xi_newa 3 0 (0, 0, 0) (xm_c mq_33) (xm_s mq_33) 404, 0, 0)) (x_T 404 (x_L 404 (0, xi_putf 12 64 2 407, 0, 0)) (x_L 407 (0, xi_load 0 2 408, 0, 0))))) (x_T 410 (x_T 408 (x_L 408 (0, xi_push (0, 50000, 50000) 410, 0, 0)) (x_L 410 (0, xi_newa 1 0 (0, 0, 0) (xm_c mq_33) (xm_s mq_33) 412, 0, 0))) (x_T 412 (x_L 412 (0, xi_putf 12 65 2 415, 0, 0)) (x_T 415 (x_L 415 (0, xi_load 0 2 416, 0, 0)) (x_L 416 (0, xi_push (0, 50000, 50000) 418, 0, 0)))))) (x_T 426 (x_T 420 (x_T 418 (x_L 418 (0, xi_newa 1 0 (0, 0, 0) (xm_c mq_33) (xm_s mq_33) 420, 0, 0)) (x_L 420 (0, xi_putf 12 66 2 423, 0, 0))) (x_T 423 (x_L 423 (0, xi_load 0 2 424, 0, 0)) (x_T 424 (x_L 424 (0, xi_push (0, 50000, 50000) 426, 0, 0)) (x_L 426 (0, xi_newa 1 0 (0, 0, 0) (xm_c mq_33) (xm_s mq_33) 428, 0, 0))))) (x_T 432 (x_T 428 (x_L 428 (0, xi_putf 12 67 2 431, 0, 0)) (x_T 431 (x_L 431 (0, xi_load 0 2 432, 0, 0)) (x_L 432 (0, xi_push (0, 4500, 4500) 435, 0, 0)))) (x_T 435 (x_L 435 (0, xi_newa 1 0 (0, 0, 0) (xm_c mq_33) (xm_s mq_33) 437, 0, 0)) (x_T 437 (x_L 437 (0, xi_putf 12 68 2 440, 0, 0)) (x_L 440 (0, xi_load 0 2 441, 0, 0)))))))
set_option maxRecDepth 20000 in
set_option maxHeartbeats 4000000 in
theorem tb_33_206_ok (K : xKx) (hK : x_KP K) : ∀ pc, x_EOq cls K xJ mq_33 pc (tb_33_206 pc) :=
  (x_Tok2
  (x_Tok2
  (x_Tok2
  (x_Tok2
  (x_Lok (x_st (I := xJ) (xr_aload_n (i := 0) (x_dk dl_33_2_ok 6 rfl))))
  (x_Lok (x_st (I := xJ) (xr_bipush (n := 64) (z := 64) (v := 64) (x_dk dl_33_2_ok 7 rfl) (by decide) (by decide)))))
  (x_Tok2
  (x_Lok (x_st (I := xJ) (xr_newa (kd := 3) (b := true) (ty := .boolean) rfl rfl (in_t1 (List.mem_of_getElem? (i := 166) rfl) rfl) (x_dk dl_33_2_ok 8 rfl))))
  (x_Tok2
  (x_Lok (x_st (I := xJ) (xr_putF (ci := 12) (k := 64) (ix := 167) (N := 119) (fk := 2) (C := RX12) (T := TX12) (ty0 := tyX12) (ty := .array .boolean) rfl in_X12 tyX12_ok nmX12 (by decide) (in_t9 (List.mem_of_getElem? (i := 179) rfl) rfl) rfl rfl rfl rfl x_fit_arr (x_dk dl_33_2_ok 9 rfl))))
  (x_Lok (x_st (I := xJ) (xr_aload_n (i := 0) (x_dk dl_33_2_ok 10 rfl)))))))
  (x_Tok2
  (x_Tok2
  (x_Lok (x_st (I := xJ) (xr_ldc (ix := 170) (z := 50000) (v := 50000) (x_dk dl_33_2_ok 11 rfl) (in_t9 (List.mem_of_getElem? (i := 88) rfl) rfl) (by decide))))
  (x_Lok (x_st (I := xJ) (xr_newa (kd := 1) (b := false) (ty := .int) rfl rfl (in_t1 (List.mem_of_getElem? (i := 64) rfl) rfl) (x_dk dl_33_2_ok 12 rfl)))))
  (x_Tok2
  (x_Lok (x_st (I := xJ) (xr_putF (ci := 12) (k := 65) (ix := 171) (N := 119) (fk := 2) (C := RX12) (T := TX12) (ty0 := tyX12) (ty := .array .int) rfl in_X12 tyX12_ok nmX12 (by decide) (in_t9 (List.mem_of_getElem? (i := 180) rfl) rfl) rfl rfl rfl rfl x_fit_arr (x_dk dl_33_2_ok 13 rfl))))
  (x_Tok2
  (x_Lok (x_st (I := xJ) (xr_aload_n (i := 0) (x_dk dl_33_2_ok 14 rfl))))
  (x_Lok (x_st (I := xJ) (xr_ldc (ix := 170) (z := 50000) (v := 50000) (x_dk dl_33_2_ok 15 rfl) (in_t9 (List.mem_of_getElem? (i := 88) rfl) rfl) (by decide))))))))
  (x_Tok2
  (x_Tok2
  (x_Tok2
  (x_Lok (x_st (I := xJ) (xr_newa (kd := 1) (b := false) (ty := .int) rfl rfl (in_t1 (List.mem_of_getElem? (i := 64) rfl) rfl) (x_dk dl_33_2_ok 16 rfl))))
  (x_Lok (x_st (I := xJ) (xr_putF (ci := 12) (k := 66) (ix := 174) (N := 119) (fk := 2) (C := RX12) (T := TX12) (ty0 := tyX12) (ty := .array .int) rfl in_X12 tyX12_ok nmX12 (by decide) (in_t9 (List.mem_of_getElem? (i := 181) rfl) rfl) rfl rfl rfl rfl x_fit_arr (x_dk dl_33_2_ok 17 rfl)))))
  (x_Tok2
  (x_Lok (x_st (I := xJ) (xr_aload_n (i := 0) (x_dk dl_33_2_ok 18 rfl))))
  (x_Tok2
  (x_Lok (x_st (I := xJ) (xr_ldc (ix := 170) (z := 50000) (v := 50000) (x_dk dl_33_2_ok 19 rfl) (in_t9 (List.mem_of_getElem? (i := 88) rfl) rfl) (by decide))))
  (x_Lok (x_st (I := xJ) (xr_newa (kd := 1) (b := false) (ty := .int) rfl rfl (in_t1 (List.mem_of_getElem? (i := 64) rfl) rfl) (x_dk dl_33_2_ok 20 rfl)))))))
  (x_Tok2
  (x_Tok2
  (x_Lok (x_st (I := xJ) (xr_putF (ci := 12) (k := 67) (ix := 177) (N := 119) (fk := 2) (C := RX12) (T := TX12) (ty0 := tyX12) (ty := .array .int) rfl in_X12 tyX12_ok nmX12 (by decide) (in_t9 (List.mem_of_getElem? (i := 182) rfl) rfl) rfl rfl rfl rfl x_fit_arr (x_dk dl_33_2_ok 21 rfl))))
  (x_Tok2
  (x_Lok (x_st (I := xJ) (xr_aload_n (i := 0) (x_dk dl_33_2_ok 22 rfl))))
  (x_Lok (x_st (I := xJ) (xr_sipush (n := 4500) (z := 4500) (v := 4500) (x_dk dl_33_2_ok 23 rfl) (by decide) (by decide))))))
  (x_Tok2
  (x_Lok (x_st (I := xJ) (xr_newa (kd := 1) (b := false) (ty := .int) rfl rfl (in_t1 (List.mem_of_getElem? (i := 64) rfl) rfl) (x_dk dl_33_2_ok 24 rfl))))
  (x_Tok2
  (x_Lok (x_st (I := xJ) (xr_putF (ci := 12) (k := 68) (ix := 180) (N := 119) (fk := 2) (C := RX12) (T := TX12) (ty0 := tyX12) (ty := .array .int) rfl in_X12 tyX12_ok nmX12 (by decide) (in_t9 (List.mem_of_getElem? (i := 183) rfl) rfl) rfl rfl rfl rfl x_fit_arr (x_dk dl_33_2_ok 25 rfl))))
  (x_Lok (x_st (I := xJ) (xr_aload_n (i := 0) (x_dk dl_33_2_ok 26 rfl)))))))))
def tb_33_227 : Nat → xE := (x_T 462 (x_T 450 (x_T 444 (x_T 441 (x_L 441 (0, xi_push (0, 4500, 4500) 444, 0, 0)) (x_L 444 (0, xi_newa 1 0 (0, 0, 0) (xm_c mq_33) (xm_s mq_33) 446, 0, 0))) (x_T 446 (x_L 446 (0, xi_putf 12 69 2 449, 0, 0)) (x_T 449 (x_L 449 (0, xi_load 0 2 450, 0, 0)) (x_L 450 (0, xi_push (0, 4500, 4500) 453, 0, 0))))) (x_T 455 (x_T 453 (x_L 453 (0, xi_newa 1 0 (0, 0, 0) (xm_c mq_33) (xm_s mq_33) 455, 0, 0)) (x_L 455 (0, xi_putf 12 70 2 458, 0, 0))) (x_T 458 (x_L 458 (0, xi_load 0 2 459, 0, 0)) (x_T 459 (x_L 459 (0, xi_push (0, 4500, 4500) 462, 0, 0)) (x_L 462 (0, xi_newa 1 0 (0, 0, 0) (xm_c mq_33) (xm_s mq_33) 464, 0, 0)))))) (x_T 473 (x_T 467 (x_T 464 (x_L 464 (0, xi_putf 12 71 2 467, 0, 0)) (x_L 467 (0, xi_load 0 2 468, 0, 0))) (x_T 468 (x_L 468 (0, xi_push (0, 4500, 4500) 471, 0, 0)) (x_T 471 (x_L 471 (0, xi_newa 1 0 (0, 0, 0) (xm_c mq_33) (xm_s mq_33) 473, 0, 0)) (x_L 473 (0, xi_putf 12 72 2 476, 0, 0))))) (x_T 480 (x_T 476 (x_L 476 (0, xi_load 0 2 477, 0, 0)) (x_T 477 (x_L 477 (0, xi_push (0, 4500, 4500) 480, 0, 0)) (x_L 480 (0, xi_newa 1 0 (0, 0, 0) (xm_c mq_33) (xm_s mq_33) 482, 0, 0)))) (x_T 482 (x_L 482 (0, xi_putf 12 73 2 485, 0, 0)) (x_T 485 (x_L 485 (0, xi_load 0 2 486, 0, 0)) (x_L 486 (0, xi_push (0, 160, 160) 489, 0, 0)))))))
set_option maxRecDepth 20000 in
set_option maxHeartbeats 4000000 in
theorem tb_33_227_ok (K : xKx) (hK : x_KP K) : ∀ pc, x_EOq cls K xJ mq_33 pc (tb_33_227 pc) :=
  (x_Tok2
  (x_Tok2
  (x_Tok2
  (x_Tok2
  (x_Lok (x_st (I := xJ) (xr_sipush (n := 4500) (z := 4500) (v := 4500) (x_dk dl_33_2_ok 27 rfl) (by decide) (by decide))))
  (x_Lok (x_st (I := xJ) (xr_newa (kd := 1) (b := false) (ty := .int) rfl rfl (in_t1 (List.mem_of_getElem? (i := 64) rfl) rfl) (x_dk dl_33_2_ok 28 rfl)))))
  (x_Tok2
  (x_Lok (x_st (I := xJ) (xr_putF (ci := 12) (k := 69) (ix := 183) (N := 119) (fk := 2) (C := RX12) (T := TX12) (ty0 := tyX12) (ty := .array .int) rfl in_X12 tyX12_ok nmX12 (by decide) (in_t9 (List.mem_of_getElem? (i := 184) rfl) rfl) rfl rfl rfl rfl x_fit_arr (x_dk dl_33_2_ok 29 rfl))))
  (x_Tok2
  (x_Lok (x_st (I := xJ) (xr_aload_n (i := 0) (x_dk dl_33_2_ok 30 rfl))))
  (x_Lok (x_st (I := xJ) (xr_sipush (n := 4500) (z := 4500) (v := 4500) (x_dk dl_33_2_ok 31 rfl) (by decide) (by decide)))))))
  (x_Tok2
  (x_Tok2
  (x_Lok (x_st (I := xJ) (xr_newa (kd := 1) (b := false) (ty := .int) rfl rfl (in_t1 (List.mem_of_getElem? (i := 64) rfl) rfl) (x_dk dl_33_2_ok 32 rfl))))
  (x_Lok (x_st (I := xJ) (xr_putF (ci := 12) (k := 70) (ix := 186) (N := 119) (fk := 2) (C := RX12) (T := TX12) (ty0 := tyX12) (ty := .array .int) rfl in_X12 tyX12_ok nmX12 (by decide) (in_t9 (List.mem_of_getElem? (i := 185) rfl) rfl) rfl rfl rfl rfl x_fit_arr (x_dk dl_33_2_ok 33 rfl)))))
  (x_Tok2
  (x_Lok (x_st (I := xJ) (xr_aload_n (i := 0) (x_dk dl_33_2_ok 34 rfl))))
  (x_Tok2
  (x_Lok (x_st (I := xJ) (xr_sipush (n := 4500) (z := 4500) (v := 4500) (x_dk dl_33_2_ok 35 rfl) (by decide) (by decide))))
  (x_Lok (x_st (I := xJ) (xr_newa (kd := 1) (b := false) (ty := .int) rfl rfl (in_t1 (List.mem_of_getElem? (i := 64) rfl) rfl) (x_dk dl_33_2_ok 36 rfl))))))))
  (x_Tok2
  (x_Tok2
  (x_Tok2
  (x_Lok (x_st (I := xJ) (xr_putF (ci := 12) (k := 71) (ix := 189) (N := 119) (fk := 2) (C := RX12) (T := TX12) (ty0 := tyX12) (ty := .array .int) rfl in_X12 tyX12_ok nmX12 (by decide) (in_t9 (List.mem_of_getElem? (i := 186) rfl) rfl) rfl rfl rfl rfl x_fit_arr (x_dk dl_33_2_ok 37 rfl))))
  (x_Lok (x_st (I := xJ) (xr_aload_n (i := 0) (x_dk dl_33_2_ok 38 rfl)))))
  (x_Tok2
  (x_Lok (x_st (I := xJ) (xr_sipush (n := 4500) (z := 4500) (v := 4500) (x_dk dl_33_2_ok 39 rfl) (by decide) (by decide))))
  (x_Tok2
  (x_Lok (x_st (I := xJ) (xr_newa (kd := 1) (b := false) (ty := .int) rfl rfl (in_t1 (List.mem_of_getElem? (i := 64) rfl) rfl) (x_dk dl_33_2_ok 40 rfl))))
  (x_Lok (x_st (I := xJ) (xr_putF (ci := 12) (k := 72) (ix := 192) (N := 119) (fk := 2) (C := RX12) (T := TX12) (ty0 := tyX12) (ty := .array .int) rfl in_X12 tyX12_ok nmX12 (by decide) (in_t9 (List.mem_of_getElem? (i := 187) rfl) rfl) rfl rfl rfl rfl x_fit_arr (x_dk dl_33_2_ok 41 rfl)))))))
  (x_Tok2
  (x_Tok2
  (x_Lok (x_st (I := xJ) (xr_aload_n (i := 0) (x_dk dl_33_2_ok 42 rfl))))
  (x_Tok2
  (x_Lok (x_st (I := xJ) (xr_sipush (n := 4500) (z := 4500) (v := 4500) (x_dk dl_33_2_ok 43 rfl) (by decide) (by decide))))
  (x_Lok (x_st (I := xJ) (xr_newa (kd := 1) (b := false) (ty := .int) rfl rfl (in_t1 (List.mem_of_getElem? (i := 64) rfl) rfl) (x_dk dl_33_2_ok 44 rfl))))))
  (x_Tok2
  (x_Lok (x_st (I := xJ) (xr_putF (ci := 12) (k := 73) (ix := 195) (N := 119) (fk := 2) (C := RX12) (T := TX12) (ty0 := tyX12) (ty := .array .int) rfl in_X12 tyX12_ok nmX12 (by decide) (in_t9 (List.mem_of_getElem? (i := 188) rfl) rfl) rfl rfl rfl rfl x_fit_arr (x_dk dl_33_2_ok 45 rfl))))
  (x_Tok2
  (x_Lok (x_st (I := xJ) (xr_aload_n (i := 0) (x_dk dl_33_2_ok 46 rfl))))
  (x_Lok (x_st (I := xJ) (xr_sipush (n := 160) (z := 160) (v := 160) (x_dk dl_33_2_ok 47 rfl) (by decide) (by decide)))))))))
def tb_33_248 : Nat → xE := (x_T 505 (x_T 496 (x_T 491 (x_T 489 (x_L 489 (0, xi_newa 1 0 (0, 0, 0) (xm_c mq_33) (xm_s mq_33) 491, 0, 0)) (x_L 491 (0, xi_putf 12 74 2 494, 0, 0))) (x_T 494 (x_L 494 (0, xi_load 0 2 495, 0, 0)) (x_T 495 (x_L 495 (0, xi_push (0, 5, 5) 496, 0, 0)) (x_L 496 (0, xi_newa 1 0 (0, 0, 0) (xm_c mq_33) (xm_s mq_33) 498, 0, 0))))) (x_T 501 (x_T 498 (x_L 498 (0, xi_putf 12 75 2 501, 0, 0)) (x_L 501 (0, xi_load 0 2 502, 0, 0))) (x_T 502 (x_L 502 (0, xi_push (0, 5, 5) 503, 0, 0)) (x_T 503 (x_L 503 (0, xi_newa 1 0 (0, 0, 0) (xm_c mq_33) (xm_s mq_33) 505, 0, 0)) (x_L 505 (0, xi_putf 12 76 2 508, 0, 0)))))) (x_T 515 (x_T 509 (x_T 508 (x_L 508 (0, xi_load 0 2 509, 0, 0)) (x_L 509 (0, xi_push (0, 5, 5) 510, 0, 0))) (x_T 510 (x_L 510 (0, xi_newa 3 0 (0, 0, 0) (xm_c mq_33) (xm_s mq_33) 512, 0, 0)) (x_T 512 (x_L 512 (0, xi_putf 12 77 2 515, 0, 0)) (x_L 515 (0, xi_load 0 2 516, 0, 0))))) (x_T 519 (x_T 516 (x_L 516 (0, xi_push (0, 4100, 4100) 519, 0, 0)) (x_L 519 (0, xi_newa 1 0 (0, 0, 0) (xm_c mq_33) (xm_s mq_33) 521, 0, 0))) (x_T 521 (x_L 521 (0, xi_putf 12 90 2 524, 0, 0)) (x_T 524 (x_L 524 (0, xi_load 0 2 525, 0, 0)) (x_L 525 (0, xi_push (0, 4100, 4100) 528, 0, 0)))))))
set_option maxRecDepth 20000 in
set_option maxHeartbeats 4000000 in
theorem tb_33_248_ok (K : xKx) (hK : x_KP K) : ∀ pc, x_EOq cls K xJ mq_33 pc (tb_33_248 pc) :=
  (x_Tok2
  (x_Tok2
  (x_Tok2
  (x_Tok2
  (x_Lok (x_st (I := xJ) (xr_newa (kd := 1) (b := false) (ty := .int) rfl rfl (in_t1 (List.mem_of_getElem? (i := 64) rfl) rfl) (x_dk dl_33_2_ok 48 rfl))))
  (x_Lok (x_st (I := xJ) (xr_putF (ci := 12) (k := 74) (ix := 198) (N := 119) (fk := 2) (C := RX12) (T := TX12) (ty0 := tyX12) (ty := .array .int) rfl in_X12 tyX12_ok nmX12 (by decide) (in_t9 (List.mem_of_getElem? (i := 189) rfl) rfl) rfl rfl rfl rfl x_fit_arr (x_dk dl_33_2_ok 49 rfl)))))
  (x_Tok2
  (x_Lok (x_st (I := xJ) (xr_aload_n (i := 0) (x_dk dl_33_2_ok 50 rfl))))
  (x_Tok2
  (x_Lok (x_st (I := xJ) (xr_iconst (n := 5) (z := 5) (v := 5) (x_dk dl_33_2_ok 51 rfl) (by decide) (by decide))))
  (x_Lok (x_st (I := xJ) (xr_newa (kd := 1) (b := false) (ty := .int) rfl rfl (in_t1 (List.mem_of_getElem? (i := 64) rfl) rfl) (x_dk dl_33_2_ok 52 rfl)))))))
  (x_Tok2
  (x_Tok2
  (x_Lok (x_st (I := xJ) (xr_putF (ci := 12) (k := 75) (ix := 201) (N := 119) (fk := 2) (C := RX12) (T := TX12) (ty0 := tyX12) (ty := .array .int) rfl in_X12 tyX12_ok nmX12 (by decide) (in_t9 (List.mem_of_getElem? (i := 190) rfl) rfl) rfl rfl rfl rfl x_fit_arr (x_dk dl_33_2_ok 53 rfl))))
  (x_Lok (x_st (I := xJ) (xr_aload_n (i := 0) (x_dk dl_33_2_ok 54 rfl)))))
  (x_Tok2
  (x_Lok (x_st (I := xJ) (xr_iconst (n := 5) (z := 5) (v := 5) (x_dk dl_33_2_ok 55 rfl) (by decide) (by decide))))
  (x_Tok2
  (x_Lok (x_st (I := xJ) (xr_newa (kd := 1) (b := false) (ty := .int) rfl rfl (in_t1 (List.mem_of_getElem? (i := 64) rfl) rfl) (x_dk dl_33_2_ok 56 rfl))))
  (x_Lok (x_st (I := xJ) (xr_putF (ci := 12) (k := 76) (ix := 204) (N := 119) (fk := 2) (C := RX12) (T := TX12) (ty0 := tyX12) (ty := .array .int) rfl in_X12 tyX12_ok nmX12 (by decide) (in_t9 (List.mem_of_getElem? (i := 191) rfl) rfl) rfl rfl rfl rfl x_fit_arr (x_dk dl_33_2_ok 57 rfl))))))))
  (x_Tok2
  (x_Tok2
  (x_Tok2
  (x_Lok (x_st (I := xJ) (xr_aload_n (i := 0) (x_dk dl_33_2_ok 58 rfl))))
  (x_Lok (x_st (I := xJ) (xr_iconst (n := 5) (z := 5) (v := 5) (x_dk dl_33_2_ok 59 rfl) (by decide) (by decide)))))
  (x_Tok2
  (x_Lok (x_st (I := xJ) (xr_newa (kd := 3) (b := true) (ty := .boolean) rfl rfl (in_t1 (List.mem_of_getElem? (i := 166) rfl) rfl) (x_dk dl_33_2_ok 60 rfl))))
  (x_Tok2
  (x_Lok (x_st (I := xJ) (xr_putF (ci := 12) (k := 77) (ix := 207) (N := 119) (fk := 2) (C := RX12) (T := TX12) (ty0 := tyX12) (ty := .array .boolean) rfl in_X12 tyX12_ok nmX12 (by decide) (in_t9 (List.mem_of_getElem? (i := 192) rfl) rfl) rfl rfl rfl rfl x_fit_arr (x_dk dl_33_2_ok 61 rfl))))
  (x_Lok (x_st (I := xJ) (xr_aload_n (i := 0) (x_dk dl_33_2_ok 62 rfl)))))))
  (x_Tok2
  (x_Tok2
  (x_Lok (x_st (I := xJ) (xr_sipush (n := 4100) (z := 4100) (v := 4100) (x_dk dl_33_2_ok 63 rfl) (by decide) (by decide))))
  (x_Lok (x_st (I := xJ) (xr_newa (kd := 1) (b := false) (ty := .int) rfl rfl (in_t1 (List.mem_of_getElem? (i := 64) rfl) rfl) (x_dk dl_33_2_ok 64 rfl)))))
  (x_Tok2
  (x_Lok (x_st (I := xJ) (xr_putF (ci := 12) (k := 90) (ix := 210) (N := 119) (fk := 2) (C := RX12) (T := TX12) (ty0 := tyX12) (ty := .array .int) rfl in_X12 tyX12_ok nmX12 (by decide) (in_t9 (List.mem_of_getElem? (i := 205) rfl) rfl) rfl rfl rfl rfl x_fit_arr (x_dk dl_33_2_ok 65 rfl))))
  (x_Tok2
  (x_Lok (x_st (I := xJ) (xr_aload_n (i := 0) (x_dk dl_33_2_ok 66 rfl))))
  (x_Lok (x_st (I := xJ) (xr_sipush (n := 4100) (z := 4100) (v := 4100) (x_dk dl_33_2_ok 67 rfl) (by decide) (by decide)))))))))
def tb_33_268 : Nat → xE := (x_T 548 (x_T 537 (x_T 530 (x_T 528 (x_L 528 (0, xi_newa 1 0 (0, 0, 0) (xm_c mq_33) (xm_s mq_33) 530, 0, 0)) (x_L 530 (0, xi_putf 12 91 2 533, 0, 0))) (x_T 533 (x_L 533 (0, xi_load 0 2 534, 0, 0)) (x_T 534 (x_L 534 (0, xi_push (0, 4100, 4100) 537, 0, 0)) (x_L 537 (0, xi_newa 1 0 (0, 0, 0) (xm_c mq_33) (xm_s mq_33) 539, 0, 0))))) (x_T 542 (x_T 539 (x_L 539 (0, xi_putf 12 92 2 542, 0, 0)) (x_L 542 (0, xi_load 0 2 543, 0, 0))) (x_T 543 (x_L 543 (0, xi_push (0, 4100, 4100) 546, 0, 0)) (x_T 546 (x_L 546 (0, xi_newa 1 0 (0, 0, 0) (xm_c mq_33) (xm_s mq_33) 548, 0, 0)) (x_L 548 (0, xi_putf 12 93 2 551, 0, 0)))))) (x_T 560 (x_T 552 (x_T 551 (x_L 551 (0, xi_load 0 2 552, 0, 0)) (x_L 552 (0, xi_push (0, 4200, 4200) 555, 0, 0))) (x_T 555 (x_L 555 (0, xi_newa 1 0 (0, 0, 0) (xm_c mq_33) (xm_s mq_33) 557, 0, 0)) (x_T 557 (x_L 557 (0, xi_putf 12 101 2 560, 0, 0)) (x_L 560 (0, xi_load 0 2 561, 0, 0))))) (x_T 565 (x_T 561 (x_L 561 (0, xi_push (0, 24, 24) 563, 0, 0)) (x_T 563 (x_L 563 (0, xi_newa 1 0 (0, 0, 0) (xm_c mq_33) (xm_s mq_33) 565, 0, 0)) (x_L 565 (0, xi_putf 12 103 2 568, 0, 0)))) (x_T 568 (x_L 568 (0, xi_load 0 2 569, 0, 0)) (x_T 569 (x_L 569 (0, xi_push (0, 6, 6) 571, 0, 0)) (x_L 571 (0, xi_newa 1 0 (0, 0, 0) (xm_c mq_33) (xm_s mq_33) 573, 0, 0)))))))
set_option maxRecDepth 20000 in
set_option maxHeartbeats 4000000 in
theorem tb_33_268_ok (K : xKx) (hK : x_KP K) : ∀ pc, x_EOq cls K xJ mq_33 pc (tb_33_268 pc) :=
  (x_Tok2
  (x_Tok2
  (x_Tok2
  (x_Tok2
  (x_Lok (x_st (I := xJ) (xr_newa (kd := 1) (b := false) (ty := .int) rfl rfl (in_t1 (List.mem_of_getElem? (i := 64) rfl) rfl) (x_dk dl_33_2_ok 68 rfl))))
  (x_Lok (x_st (I := xJ) (xr_putF (ci := 12) (k := 91) (ix := 213) (N := 119) (fk := 2) (C := RX12) (T := TX12) (ty0 := tyX12) (ty := .array .int) rfl in_X12 tyX12_ok nmX12 (by decide) (in_t9 (List.mem_of_getElem? (i := 206) rfl) rfl) rfl rfl rfl rfl x_fit_arr (x_dk dl_33_2_ok 69 rfl)))))
  (x_Tok2
  (x_Lok (x_st (I := xJ) (xr_aload_n (i := 0) (x_dk dl_33_2_ok 70 rfl))))
  (x_Tok2
  (x_Lok (x_st (I := xJ) (xr_sipush (n := 4100) (z := 4100) (v := 4100) (x_dk dl_33_2_ok 71 rfl) (by decide) (by decide))))
  (x_Lok (x_st (I := xJ) (xr_newa (kd := 1) (b := false) (ty := .int) rfl rfl (in_t1 (List.mem_of_getElem? (i := 64) rfl) rfl) (x_dk dl_33_2_ok 72 rfl)))))))
  (x_Tok2
  (x_Tok2
  (x_Lok (x_st (I := xJ) (xr_putF (ci := 12) (k := 92) (ix := 216) (N := 119) (fk := 2) (C := RX12) (T := TX12) (ty0 := tyX12) (ty := .array .int) rfl in_X12 tyX12_ok nmX12 (by decide) (in_t9 (List.mem_of_getElem? (i := 207) rfl) rfl) rfl rfl rfl rfl x_fit_arr (x_dk dl_33_2_ok 73 rfl))))
  (x_Lok (x_st (I := xJ) (xr_aload_n (i := 0) (x_dk dl_33_2_ok 74 rfl)))))
  (x_Tok2
  (x_Lok (x_st (I := xJ) (xr_sipush (n := 4100) (z := 4100) (v := 4100) (x_dk dl_33_2_ok 75 rfl) (by decide) (by decide))))
  (x_Tok2
  (x_Lok (x_st (I := xJ) (xr_newa (kd := 1) (b := false) (ty := .int) rfl rfl (in_t1 (List.mem_of_getElem? (i := 64) rfl) rfl) (x_dk dl_33_2_ok 76 rfl))))
  (x_Lok (x_st (I := xJ) (xr_putF (ci := 12) (k := 93) (ix := 219) (N := 119) (fk := 2) (C := RX12) (T := TX12) (ty0 := tyX12) (ty := .array .int) rfl in_X12 tyX12_ok nmX12 (by decide) (in_t9 (List.mem_of_getElem? (i := 208) rfl) rfl) rfl rfl rfl rfl x_fit_arr (x_dk dl_33_2_ok 77 rfl))))))))
  (x_Tok2
  (x_Tok2
  (x_Tok2
  (x_Lok (x_st (I := xJ) (xr_aload_n (i := 0) (x_dk dl_33_2_ok 78 rfl))))
  (x_Lok (x_st (I := xJ) (xr_sipush (n := 4200) (z := 4200) (v := 4200) (x_dk dl_33_2_ok 79 rfl) (by decide) (by decide)))))
  (x_Tok2
  (x_Lok (x_st (I := xJ) (xr_newa (kd := 1) (b := false) (ty := .int) rfl rfl (in_t1 (List.mem_of_getElem? (i := 64) rfl) rfl) (x_dk dl_33_2_ok 80 rfl))))
  (x_Tok2
  (x_Lok (x_st (I := xJ) (xr_putF (ci := 12) (k := 101) (ix := 222) (N := 119) (fk := 2) (C := RX12) (T := TX12) (ty0 := tyX12) (ty := .array .int) rfl in_X12 tyX12_ok nmX12 (by decide) (in_t9 (List.mem_of_getElem? (i := 216) rfl) rfl) rfl rfl rfl rfl x_fit_arr (x_dk dl_33_2_ok 81 rfl))))
  (x_Lok (x_st (I := xJ) (xr_aload_n (i := 0) (x_dk dl_33_2_ok 82 rfl)))))))
  (x_Tok2
  (x_Tok2
  (x_Lok (x_st (I := xJ) (xr_bipush (n := 24) (z := 24) (v := 24) (x_dk dl_33_2_ok 83 rfl) (by decide) (by decide))))
  (x_Tok2
  (x_Lok (x_st (I := xJ) (xr_newa (kd := 1) (b := false) (ty := .int) rfl rfl (in_t1 (List.mem_of_getElem? (i := 64) rfl) rfl) (x_dk dl_33_2_ok 84 rfl))))
  (x_Lok (x_st (I := xJ) (xr_putF (ci := 12) (k := 103) (ix := 225) (N := 119) (fk := 2) (C := RX12) (T := TX12) (ty0 := tyX12) (ty := .array .int) rfl in_X12 tyX12_ok nmX12 (by decide) (in_t9 (List.mem_of_getElem? (i := 218) rfl) rfl) rfl rfl rfl rfl x_fit_arr (x_dk dl_33_2_ok 85 rfl))))))
  (x_Tok2
  (x_Lok (x_st (I := xJ) (xr_aload_n (i := 0) (x_dk dl_33_2_ok 86 rfl))))
  (x_Tok2
  (x_Lok (x_st (I := xJ) (xr_bipush (n := 6) (z := 6) (v := 6) (x_dk dl_33_2_ok 87 rfl) (by decide) (by decide))))
  (x_Lok (x_st (I := xJ) (xr_newa (kd := 1) (b := false) (ty := .int) rfl rfl (in_t1 (List.mem_of_getElem? (i := 64) rfl) rfl) (x_dk dl_33_2_ok 88 rfl)))))))))
def tb_33_289 : Nat → xE := (x_T 593 (x_T 581 (x_T 576 (x_T 573 (x_L 573 (0, xi_putf 12 104 2 576, 0, 0)) (x_L 576 (0, xi_load 0 2 577, 0, 0))) (x_T 577 (x_L 577 (0, xi_push (0, 6, 6) 579, 0, 0)) (x_T 579 (x_L 579 (0, xi_newa 1 0 (0, 0, 0) (xm_c mq_33) (xm_s mq_33) 581, 0, 0)) (x_L 581 (0, xi_putf 12 105 2 584, 0, 0))))) (x_T 585 (x_T 584 (x_L 584 (0, xi_load 0 2 585, 0, 0)) (x_L 585 (0, xi_push (0, 1000, 1000) 588, 0, 0))) (x_T 588 (x_L 588 (0, xi_newa 1 0 (0, 0, 0) (xm_c mq_33) (xm_s mq_33) 590, 0, 0)) (x_T 590 (x_L 590 (0, xi_putf 12 106 2 593, 0, 0)) (x_L 593 (0, xi_load 0 2 594, 0, 0)))))) (x_T 603 (x_T 597 (x_T 594 (x_L 594 (0, xi_push (0, 1000, 1000) 597, 0, 0)) (x_L 597 (0, xi_newa 1 0 (0, 0, 0) (xm_c mq_33) (xm_s mq_33) 599, 0, 0))) (x_T 599 (x_L 599 (0, xi_putf 12 107 2 602, 0, 0)) (x_T 602 (x_L 602 (0, xi_load 0 2 603, 0, 0)) (x_L 603 (0, xi_push (0, 1000, 1000) 606, 0, 0))))) (x_T 611 (x_T 606 (x_L 606 (0, xi_newa 1 0 (0, 0, 0) (xm_c mq_33) (xm_s mq_33) 608, 0, 0)) (x_T 608 (x_L 608 (0, xi_putf 12 108 2 611, 0, 0)) (x_L 611 (0, xi_load 0 2 612, 0, 0)))) (x_T 612 (x_L 612 (0, xi_push (0, 6000, 6000) 615, 0, 0)) (x_T 615 (x_L 615 (0, xi_newa 1 0 (0, 0, 0) (xm_c mq_33) (xm_s mq_33) 617, 0, 0)) (x_L 617 (0, xi_putf 12 109 2 620, 0, 0)))))))
set_option maxRecDepth 20000 in
set_option maxHeartbeats 4000000 in
theorem tb_33_289_ok (K : xKx) (hK : x_KP K) : ∀ pc, x_EOq cls K xJ mq_33 pc (tb_33_289 pc) :=
  (x_Tok2
  (x_Tok2
  (x_Tok2
  (x_Tok2
  (x_Lok (x_st (I := xJ) (xr_putF (ci := 12) (k := 104) (ix := 228) (N := 119) (fk := 2) (C := RX12) (T := TX12) (ty0 := tyX12) (ty := .array .int) rfl in_X12 tyX12_ok nmX12 (by decide) (in_t9 (List.mem_of_getElem? (i := 219) rfl) rfl) rfl rfl rfl rfl x_fit_arr (x_dk dl_33_2_ok 89 rfl))))
  (x_Lok (x_st (I := xJ) (xr_aload_n (i := 0) (x_dk dl_33_2_ok 90 rfl)))))
  (x_Tok2
  (x_Lok (x_st (I := xJ) (xr_bipush (n := 6) (z := 6) (v := 6) (x_dk dl_33_2_ok 91 rfl) (by decide) (by decide))))
  (x_Tok2
  (x_Lok (x_st (I := xJ) (xr_newa (kd := 1) (b := false) (ty := .int) rfl rfl (in_t1 (List.mem_of_getElem? (i := 64) rfl) rfl) (x_dk dl_33_2_ok 92 rfl))))
  (x_Lok (x_st (I := xJ) (xr_putF (ci := 12) (k := 105) (ix := 231) (N := 119) (fk := 2) (C := RX12) (T := TX12) (ty0 := tyX12) (ty := .array .int) rfl in_X12 tyX12_ok nmX12 (by decide) (in_t9 (List.mem_of_getElem? (i := 220) rfl) rfl) rfl rfl rfl rfl x_fit_arr (x_dk dl_33_2_ok 93 rfl)))))))
  (x_Tok2
  (x_Tok2
  (x_Lok (x_st (I := xJ) (xr_aload_n (i := 0) (x_dk dl_33_2_ok 94 rfl))))
  (x_Lok (x_st (I := xJ) (xr_sipush (n := 1000) (z := 1000) (v := 1000) (x_dk dl_33_2_ok 95 rfl) (by decide) (by decide)))))
  (x_Tok2
  (x_Lok (x_st (I := xJ) (xr_newa (kd := 1) (b := false) (ty := .int) rfl rfl (in_t1 (List.mem_of_getElem? (i := 64) rfl) rfl) (x_dk dl_33_2_ok 96 rfl))))
  (x_Tok2
  (x_Lok (x_st (I := xJ) (xr_putF (ci := 12) (k := 106) (ix := 234) (N := 119) (fk := 2) (C := RX12) (T := TX12) (ty0 := tyX12) (ty := .array .int) rfl in_X12 tyX12_ok nmX12 (by decide) (in_t9 (List.mem_of_getElem? (i := 221) rfl) rfl) rfl rfl rfl rfl x_fit_arr (x_dk dl_33_2_ok 97 rfl))))
  (x_Lok (x_st (I := xJ) (xr_aload_n (i := 0) (x_dk dl_33_2_ok 98 rfl))))))))
  (x_Tok2
  (x_Tok2
  (x_Tok2
  (x_Lok (x_st (I := xJ) (xr_sipush (n := 1000) (z := 1000) (v := 1000) (x_dk dl_33_2_ok 99 rfl) (by decide) (by decide))))
  (x_Lok (x_st (I := xJ) (xr_newa (kd := 1) (b := false) (ty := .int) rfl rfl (in_t1 (List.mem_of_getElem? (i := 64) rfl) rfl) (x_dk dl_33_3_ok 0 rfl)))))
  (x_Tok2
  (x_Lok (x_st (I := xJ) (xr_putF (ci := 12) (k := 107) (ix := 237) (N := 119) (fk := 2) (C := RX12) (T := TX12) (ty0 := tyX12) (ty := .array .int) rfl in_X12 tyX12_ok nmX12 (by decide) (in_t9 (List.mem_of_getElem? (i := 222) rfl) rfl) rfl rfl rfl rfl x_fit_arr (x_dk dl_33_3_ok 1 rfl))))
  (x_Tok2
  (x_Lok (x_st (I := xJ) (xr_aload_n (i := 0) (x_dk dl_33_3_ok 2 rfl))))
  (x_Lok (x_st (I := xJ) (xr_sipush (n := 1000) (z := 1000) (v := 1000) (x_dk dl_33_3_ok 3 rfl) (by decide) (by decide)))))))
  (x_Tok2
  (x_Tok2
  (x_Lok (x_st (I := xJ) (xr_newa (kd := 1) (b := false) (ty := .int) rfl rfl (in_t1 (List.mem_of_getElem? (i := 64) rfl) rfl) (x_dk dl_33_3_ok 4 rfl))))
  (x_Tok2
  (x_Lok (x_st (I := xJ) (xr_putF (ci := 12) (k := 108) (ix := 240) (N := 119) (fk := 2) (C := RX12) (T := TX12) (ty0 := tyX12) (ty := .array .int) rfl in_X12 tyX12_ok nmX12 (by decide) (in_t9 (List.mem_of_getElem? (i := 223) rfl) rfl) rfl rfl rfl rfl x_fit_arr (x_dk dl_33_3_ok 5 rfl))))
  (x_Lok (x_st (I := xJ) (xr_aload_n (i := 0) (x_dk dl_33_3_ok 6 rfl))))))
  (x_Tok2
  (x_Lok (x_st (I := xJ) (xr_sipush (n := 6000) (z := 6000) (v := 6000) (x_dk dl_33_3_ok 7 rfl) (by decide) (by decide))))
  (x_Tok2
  (x_Lok (x_st (I := xJ) (xr_newa (kd := 1) (b := false) (ty := .int) rfl rfl (in_t1 (List.mem_of_getElem? (i := 64) rfl) rfl) (x_dk dl_33_3_ok 8 rfl))))
  (x_Lok (x_st (I := xJ) (xr_putF (ci := 12) (k := 109) (ix := 243) (N := 119) (fk := 2) (C := RX12) (T := TX12) (ty0 := tyX12) (ty := .array .int) rfl in_X12 tyX12_ok nmX12 (by decide) (in_t9 (List.mem_of_getElem? (i := 224) rfl) rfl) rfl rfl rfl rfl x_fit_arr (x_dk dl_33_3_ok 9 rfl)))))))))
def tb_33_310 : Nat → xE := (x_T 638 (x_T 629 (x_T 621 (x_T 620 (x_L 620 (0, xi_load 0 2 621, 0, 0)) (x_L 621 (0, xi_push (0, 1000, 1000) 624, 0, 0))) (x_T 624 (x_L 624 (0, xi_newa 1 0 (0, 0, 0) (xm_c mq_33) (xm_s mq_33) 626, 0, 0)) (x_T 626 (x_L 626 (0, xi_putf 12 113 2 629, 0, 0)) (x_L 629 (0, xi_load 0 2 630, 0, 0))))) (x_T 632 (x_T 630 (x_L 630 (0, xi_push (0, 200000, 200000) 632, 0, 0)) (x_L 632 (0, xi_newa 1 0 (0, 0, 0) (xm_c mq_33) (xm_s mq_33) 634, 0, 0))) (x_T 634 (x_L 634 (0, xi_putf 12 114 2 637, 0, 0)) (x_T 637 (x_L 637 (0, xi_load 0 2 638, 0, 0)) (x_L 638 (0, xi_push (0, 2000, 2000) 641, 0, 0)))))) (x_T 650 (x_T 643 (x_T 641 (x_L 641 (0, xi_newa 1 0 (0, 0, 0) (xm_c mq_33) (xm_s mq_33) 643, 0, 0)) (x_L 643 (0, xi_putf 12 115 2 646, 0, 0))) (x_T 646 (x_L 646 (0, xi_load 0 2 647, 0, 0)) (x_T 647 (x_L 647 (0, xi_push (0, 2000, 2000) 650, 0, 0)) (x_L 650 (0, xi_newa 1 0 (0, 0, 0) (xm_c mq_33) (xm_s mq_33) 652, 0, 0))))) (x_T 656 (x_T 652 (x_L 652 (0, xi_putf 12 116 2 655, 0, 0)) (x_T 655 (x_L 655 (0, xi_load 0 2 656, 0, 0)) (x_L 656 (2, x_nof, 39, 1)))) (x_T 659 (x_L 659 (0, xi_load 0 2 660, 0, 0)) (x_T 660 (x_L 660 (2, x_nof, 34, 1)) (x_L 663 (1, x_nof, 0, 0)))))))
set_option maxRecDepth 20000 in
set_option maxHeartbeats 4000000 in
theorem tb_33_310_ok (K : xKx) (hK : x_KP K) : ∀ pc, x_EOq cls K xJ mq_33 pc (tb_33_310 pc) :=
  (x_Tok2
  (x_Tok2
  (x_Tok2
  (x_Tok2
  (x_Lok (x_st (I := xJ) (xr_aload_n (i := 0) (x_dk dl_33_3_ok 10 rfl))))
  (x_Lok (x_st (I := xJ) (xr_sipush (n := 1000) (z := 1000) (v := 1000) (x_dk dl_33_3_ok 11 rfl) (by decide) (by decide)))))
  (x_Tok2
  (x_Lok (x_st (I := xJ) (xr_newa (kd := 1) (b := false) (ty := .int) rfl rfl (in_t1 (List.mem_of_getElem? (i := 64) rfl) rfl) (x_dk dl_33_3_ok 12 rfl))))
  (x_Tok2
  (x_Lok (x_st (I := xJ) (xr_putF (ci := 12) (k := 113) (ix := 246) (N := 119) (fk := 2) (C := RX12) (T := TX12) (ty0 := tyX12) (ty := .array .int) rfl in_X12 tyX12_ok nmX12 (by decide) (in_t9 (List.mem_of_getElem? (i := 228) rfl) rfl) rfl rfl rfl rfl x_fit_arr (x_dk dl_33_3_ok 13 rfl))))
  (x_Lok (x_st (I := xJ) (xr_aload_n (i := 0) (x_dk dl_33_3_ok 14 rfl)))))))
  (x_Tok2
  (x_Tok2
  (x_Lok (x_st (I := xJ) (xr_ldc (ix := 249) (z := 200000) (v := 200000) (x_dk dl_33_3_ok 15 rfl) (in_t9 (List.mem_of_getElem? (i := 89) rfl) rfl) (by decide))))
  (x_Lok (x_st (I := xJ) (xr_newa (kd := 1) (b := false) (ty := .int) rfl rfl (in_t1 (List.mem_of_getElem? (i := 64) rfl) rfl) (x_dk dl_33_3_ok 16 rfl)))))
  (x_Tok2
  (x_Lok (x_st (I := xJ) (xr_putF (ci := 12) (k := 114) (ix := 250) (N := 119) (fk := 2) (C := RX12) (T := TX12) (ty0 := tyX12) (ty := .array .int) rfl in_X12 tyX12_ok nmX12 (by decide) (in_t9 (List.mem_of_getElem? (i := 229) rfl) rfl) rfl rfl rfl rfl x_fit_arr (x_dk dl_33_3_ok 17 rfl))))
  (x_Tok2
  (x_Lok (x_st (I := xJ) (xr_aload_n (i := 0) (x_dk dl_33_3_ok 18 rfl))))
  (x_Lok (x_st (I := xJ) (xr_sipush (n := 2000) (z := 2000) (v := 2000) (x_dk dl_33_3_ok 19 rfl) (by decide) (by decide))))))))
  (x_Tok2
  (x_Tok2
  (x_Tok2
  (x_Lok (x_st (I := xJ) (xr_newa (kd := 1) (b := false) (ty := .int) rfl rfl (in_t1 (List.mem_of_getElem? (i := 64) rfl) rfl) (x_dk dl_33_3_ok 20 rfl))))
  (x_Lok (x_st (I := xJ) (xr_putF (ci := 12) (k := 115) (ix := 253) (N := 119) (fk := 2) (C := RX12) (T := TX12) (ty0 := tyX12) (ty := .array .int) rfl in_X12 tyX12_ok nmX12 (by decide) (in_t9 (List.mem_of_getElem? (i := 230) rfl) rfl) rfl rfl rfl rfl x_fit_arr (x_dk dl_33_3_ok 21 rfl)))))
  (x_Tok2
  (x_Lok (x_st (I := xJ) (xr_aload_n (i := 0) (x_dk dl_33_3_ok 22 rfl))))
  (x_Tok2
  (x_Lok (x_st (I := xJ) (xr_sipush (n := 2000) (z := 2000) (v := 2000) (x_dk dl_33_3_ok 23 rfl) (by decide) (by decide))))
  (x_Lok (x_st (I := xJ) (xr_newa (kd := 1) (b := false) (ty := .int) rfl rfl (in_t1 (List.mem_of_getElem? (i := 64) rfl) rfl) (x_dk dl_33_3_ok 24 rfl)))))))
  (x_Tok2
  (x_Tok2
  (x_Lok (x_st (I := xJ) (xr_putF (ci := 12) (k := 116) (ix := 256) (N := 119) (fk := 2) (C := RX12) (T := TX12) (ty0 := tyX12) (ty := .array .int) rfl in_X12 tyX12_ok nmX12 (by decide) (in_t9 (List.mem_of_getElem? (i := 231) rfl) rfl) rfl rfl rfl rfl x_fit_arr (x_dk dl_33_3_ok 25 rfl))))
  (x_Tok2
  (x_Lok (x_st (I := xJ) (xr_aload_n (i := 0) (x_dk dl_33_3_ok 26 rfl))))
  (x_Lok (x_ca (I := xJ) (q' := mq_39) rfl (xr_callV (q' := mq_39) (ix := 259) (n := 0) (in_t9 (List.mem_of_getElem? (i := 93) rfl) rfl) good_w (in_t1 (List.mem_of_getElem? (i := 14) rfl) rfl) (in_t9 (List.mem_of_getElem? (i := 90) rfl) rfl) (in_t9 (List.mem_of_getElem? (i := 92) rfl) rfl) (in_s7 (List.mem_of_getElem? (i := 15) rfl)) (by decide +kernel) (by decide +kernel) (by decide +kernel) (x_dk dl_33_3_ok 27 rfl))))))
  (x_Tok2
  (x_Lok (x_st (I := xJ) (xr_aload_n (i := 0) (x_dk dl_33_3_ok 28 rfl))))
  (x_Tok2
  (x_Lok (x_ca (I := xJ) (q' := mq_34) rfl (xr_callV (q' := mq_34) (ix := 262) (n := 0) (in_t9 (List.mem_of_getElem? (i := 108) rfl) rfl) good_w (in_t1 (List.mem_of_getElem? (i := 14) rfl) rfl) (in_t9 (List.mem_of_getElem? (i := 105) rfl) rfl) (in_t9 (List.mem_of_getElem? (i := 107) rfl) rfl) (in_s8 (List.mem_of_getElem? (i := 0) rfl)) (by decide +kernel) (by decide +kernel) (by decide +kernel) (x_dk dl_33_3_ok 29 rfl))))
  (x_Lok (x_rt (I := xJ) (k := 0) ⟨(x_dk dl_33_3_ok 30 rfl), rfl⟩)))))))
def tb_33 : Nat → xE := (x_T 315 (x_T 157 (x_T 76 (x_T 38 tb_33_0 tb_33_20) (x_T 115 tb_33_41 tb_33_61)) (x_T 235 (x_T 197 tb_33_82 tb_33_102) (x_T 273 tb_33_123 tb_33_144))) (x_T 486 (x_T 396 (x_T 356 tb_33_165 tb_33_185) (x_T 440 tb_33_206 tb_33_227)) (x_T 571 (x_T 525 tb_33_248 tb_33_268) (x_T 617 tb_33_289 tb_33_310))))
theorem tb_33_ok (K : xKx) (hK : x_KP K) : ∀ pc, x_EOq cls K xJ mq_33 pc (tb_33 pc) := (x_Tok2 ((x_Tok2 ((x_Tok2 ((x_Tok2 (tb_33_0_ok K hK) (tb_33_20_ok K hK))) ((x_Tok2 (tb_33_41_ok K hK) (tb_33_61_ok K hK))))) ((x_Tok2 ((x_Tok2 (tb_33_82_ok K hK) (tb_33_102_ok K hK))) ((x_Tok2 (tb_33_123_ok K hK) (tb_33_144_ok K hK))))))) ((x_Tok2 ((x_Tok2 ((x_Tok2 (tb_33_165_ok K hK) (tb_33_185_ok K hK))) ((x_Tok2 (tb_33_206_ok K hK) (tb_33_227_ok K hK))))) ((x_Tok2 ((x_Tok2 (tb_33_248_ok K hK) (tb_33_268_ok K hK))) ((x_Tok2 (tb_33_289_ok K hK) (tb_33_310_ok K hK))))))))
end
