-- part 49nc
section
noncomputable section
def dl_26_0 : List (Nat × Instr × Nat) := [(0, .aload_n 0, 1), (1, .invokespecial 3, 3), (4, .aload_n 0, 1), (5, .bipush 20, 2), (7, .newarray .int, 2), (9, .putfield 11, 3), (12, .aload_n 0, 1), (13, .bipush 20, 2), (15, .newarray .int, 2), (17, .putfield 15, 3), (20, .aload_n 0, 1), (21, .sipush 600, 3), (24, .newarray .int, 2), (26, .putfield 18, 3), (29, .aload_n 0, 1), (30, .sipush 600, 3), (33, .newarray .int, 2), (35, .putfield 21, 3), (38, .aload_n 0, 1), (39, .sipush 600, 3), (42, .newarray .int, 2), (44, .putfield 24, 3), (47, .aload_n 0, 1), (48, .iload_n 1, 1), (49, .putfield 27, 3), (52, .return_, 1)]
set_option maxRecDepth 20000 in
theorem dl_26_0_ok : dl_26_0.all (fun q => decide (decode prog_12_method_1_code q.1 = .ok (q.2.1, q.2.2))) = true := xa_g_ok (by decide +kernel)
def tb_26_0 : Nat → xE := (x_T 24 (x_T 9 (x_T 4 (x_T 0 (x_L 0 (0, xi_load 0 2 1, 0, 0)) (x_T 1 (x_L 1 (0, xi_oi 4, 0, 0)) (x_L 4 (0, xi_load 0 2 5, 0, 0)))) (x_T 5 (x_L 5 (0, xi_push (0, 20, 20) 7, 0, 0)) (x_T 7 (x_L 7 (0, xi_newa 1 0 (0, 0, 0) (xm_c mq_26) (xm_s mq_26) 9, 0, 0)) (x_L 9 (0, xi_putf 10 16 2 12, 0, 0))))) (x_T 15 (x_T 12 (x_L 12 (0, xi_load 0 2 13, 0, 0)) (x_T 13 (x_L 13 (0, xi_push (0, 20, 20) 15, 0, 0)) (x_L 15 (0, xi_newa 1 0 (0, 0, 0) (xm_c mq_26) (xm_s mq_26) 17, 0, 0)))) (x_T 20 (x_T 17 (x_L 17 (0, xi_putf 10 17 2 20, 0, 0)) (x_L 20 (0, xi_load 0 2 21, 0, 0))) (x_T 21 (x_L 21 (0, xi_push (0, 600, 600) 24, 0, 0)) (x_L 24 (0, xi_newa 1 0 (0, 0, 0) (xm_c mq_26) (xm_s mq_26) 26, 0, 0)))))) (x_T 38 (x_T 30 (x_T 26 (x_L 26 (0, xi_putf 10 18 2 29, 0, 0)) (x_T 29 (x_L 29 (0, xi_load 0 2 30, 0, 0)) (x_L 30 (0, xi_push (0, 600, 600) 33, 0, 0)))) (x_T 33 (x_L 33 (0, xi_newa 1 0 (0, 0, 0) (xm_c mq_26) (xm_s mq_26) 35, 0, 0)) (x_T 35 (x_L 35 (0, xi_putf 10 19 2 38, 0, 0)) (x_L 38 (0, xi_load 0 2 39, 0, 0))))) (x_T 44 (x_T 39 (x_L 39 (0, xi_push (0, 600, 600) 42, 0, 0)) (x_T 42 (x_L 42 (0, xi_newa 1 0 (0, 0, 0) (xm_c mq_26) (xm_s mq_26) 44, 0, 0)) (x_L 44 (0, xi_putf 10 20 2 47, 0, 0)))) (x_T 48 (x_T 47 (x_L 47 (0, xi_load 0 2 48, 0, 0)) (x_L 48 (0, xi_load 1 0 49, 0, 0))) (x_T 49 (x_L 49 (0, xi_putf 10 0 0 52, 0, 0)) (x_L 52 (1, x_nof, 0, 0)))))))
set_option maxRecDepth 20000 in
set_option maxHeartbeats 4000000 in
theorem tb_26_0_ok (K : xKx) (hK : x_KP K) : ∀ pc, x_EOq cls K xJ mq_26 pc (tb_26_0 pc) :=
  (x_Tok2
  (x_Tok2
  (x_Tok2
  (x_Tok2
  (x_Lok (x_st (I := xJ) (xr_aload_n (i := 0) (x_dk dl_26_0_ok 0 rfl))))
  (x_Tok2
  (x_Lok (x_st (I := xJ) (xr_oi (ix := 3) (in_t3 (List.mem_of_getElem? (i := 8) rfl) rfl) (in_t1 (List.mem_of_getElem? (i := 27) rfl) rfl) (in_t1 (List.mem_of_getElem? (i := 28) rfl) rfl) (x_dk dl_26_0_ok 1 rfl))))
  (x_Lok (x_st (I := xJ) (xr_aload_n (i := 0) (x_dk dl_26_0_ok 2 rfl))))))
  (x_Tok2
  (x_Lok (x_st (I := xJ) (xr_bipush (n := 20) (z := 20) (v := 20) (x_dk dl_26_0_ok 3 rfl) (by decide) (by decide))))
  (x_Tok2
  (x_Lok (x_st (I := xJ) (xr_newa (kd := 1) (b := false) (ty := .int) rfl rfl (in_t1 (List.mem_of_getElem? (i := 64) rfl) rfl) (x_dk dl_26_0_ok 4 rfl))))
  (x_Lok (x_st (I := xJ) (xr_putF (ci := 10) (k := 16) (ix := 11) (N := 21) (fk := 2) (C := RX10) (T := TX10) (ty0 := tyX10) (ty := .array .int) rfl in_X10 tyX10_ok nmX10 (by decide) (in_t3 (List.mem_of_getElem? (i := 40) rfl) rfl) rfl rfl rfl rfl x_fit_arr (x_dk dl_26_0_ok 5 rfl)))))))
  (x_Tok2
  (x_Tok2
  (x_Lok (x_st (I := xJ) (xr_aload_n (i := 0) (x_dk dl_26_0_ok 6 rfl))))
  (x_Tok2
  (x_Lok (x_st (I := xJ) (xr_bipush (n := 20) (z := 20) (v := 20) (x_dk dl_26_0_ok 7 rfl) (by decide) (by decide))))
  (x_Lok (x_st (I := xJ) (xr_newa (kd := 1) (b := false) (ty := .int) rfl rfl (in_t1 (List.mem_of_getElem? (i := 64) rfl) rfl) (x_dk dl_26_0_ok 8 rfl))))))
  (x_Tok2
  (x_Tok2
  (x_Lok (x_st (I := xJ) (xr_putF (ci := 10) (k := 17) (ix := 15) (N := 21) (fk := 2) (C := RX10) (T := TX10) (ty0 := tyX10) (ty := .array .int) rfl in_X10 tyX10_ok nmX10 (by decide) (in_t3 (List.mem_of_getElem? (i := 41) rfl) rfl) rfl rfl rfl rfl x_fit_arr (x_dk dl_26_0_ok 9 rfl))))
  (x_Lok (x_st (I := xJ) (xr_aload_n (i := 0) (x_dk dl_26_0_ok 10 rfl)))))
  (x_Tok2
  (x_Lok (x_st (I := xJ) (xr_sipush (n := 600) (z := 600) (v := 600) (x_dk dl_26_0_ok 11 rfl) (by decide) (by decide))))
  (x_Lok (x_st (I := xJ) (xr_newa (kd := 1) (b := false) (ty := .int) rfl rfl (in_t1 (List.mem_of_getElem? (i := 64) rfl) rfl) (x_dk dl_26_0_ok 12 rfl))))))))
  (x_Tok2
  (x_Tok2
  (x_Tok2
  (x_Lok (x_st (I := xJ) (xr_putF (ci := 10) (k := 18) (ix := 18) (N := 21) (fk := 2) (C := RX10) (T := TX10) (ty0 := tyX10) (ty := .array .int) rfl in_X10 tyX10_ok nmX10 (by decide) (in_t3 (List.mem_of_getElem? (i := 42) rfl) rfl) rfl rfl rfl rfl x_fit_arr (x_dk dl_26_0_ok 13 rfl))))
  (x_Tok2
  (x_Lok (x_st (I := xJ) (xr_aload_n (i := 0) (x_dk dl_26_0_ok 14 rfl))))
  (x_Lok (x_st (I := xJ) (xr_sipush (n := 600) (z := 600) (v := 600) (x_dk dl_26_0_ok 15 rfl) (by decide) (by decide))))))
  (x_Tok2
  (x_Lok (x_st (I := xJ) (xr_newa (kd := 1) (b := false) (ty := .int) rfl rfl (in_t1 (List.mem_of_getElem? (i := 64) rfl) rfl) (x_dk dl_26_0_ok 16 rfl))))
  (x_Tok2
  (x_Lok (x_st (I := xJ) (xr_putF (ci := 10) (k := 19) (ix := 21) (N := 21) (fk := 2) (C := RX10) (T := TX10) (ty0 := tyX10) (ty := .array .int) rfl in_X10 tyX10_ok nmX10 (by decide) (in_t3 (List.mem_of_getElem? (i := 43) rfl) rfl) rfl rfl rfl rfl x_fit_arr (x_dk dl_26_0_ok 17 rfl))))
  (x_Lok (x_st (I := xJ) (xr_aload_n (i := 0) (x_dk dl_26_0_ok 18 rfl)))))))
  (x_Tok2
  (x_Tok2
  (x_Lok (x_st (I := xJ) (xr_sipush (n := 600) (z := 600) (v := 600) (x_dk dl_26_0_ok 19 rfl) (by decide) (by decide))))
  (x_Tok2
  (x_Lok (x_st (I := xJ) (xr_newa (kd := 1) (b := false) (ty := .int) rfl rfl (in_t1 (List.mem_of_getElem? (i := 64) rfl) rfl) (x_dk dl_26_0_ok 20 rfl))))
  (x_Lok (x_st (I := xJ) (xr_putF (ci := 10) (k := 20) (ix := 24) (N := 21) (fk := 2) (C := RX10) (T := TX10) (ty0 := tyX10) (ty := .array .int) rfl in_X10 tyX10_ok nmX10 (by decide) (in_t3 (List.mem_of_getElem? (i := 44) rfl) rfl) rfl rfl rfl rfl x_fit_arr (x_dk dl_26_0_ok 21 rfl))))))
  (x_Tok2
  (x_Tok2
  (x_Lok (x_st (I := xJ) (xr_aload_n (i := 0) (x_dk dl_26_0_ok 22 rfl))))
  (x_Lok (x_st (I := xJ) (xr_iload_n (i := 1) (x_dk dl_26_0_ok 23 rfl)))))
  (x_Tok2
  (x_Lok (x_st (I := xJ) (xr_putF (ci := 10) (k := 0) (ix := 27) (N := 21) (fk := 0) (C := RX10) (T := TX10) (ty0 := tyX10) (ty := .int) rfl in_X10 tyX10_ok nmX10 (by decide) (in_t3 (List.mem_of_getElem? (i := 9) rfl) rfl) rfl rfl rfl rfl x_fit_int (x_dk dl_26_0_ok 24 rfl))))
  (x_Lok (x_rt (I := xJ) (k := 0) ⟨(x_dk dl_26_0_ok 25 rfl), rfl⟩)))))))
def tb_26 : Nat → xE := tb_26_0
theorem tb_26_ok (K : xKx) (hK : x_KP K) : ∀ pc, x_EOq cls K xJ mq_26 pc (tb_26 pc) := tb_26_0_ok K hK
def dl_27_0 : List (Nat × Instr × Nat) := [(0, .aload_n 0, 1), (1, .iconst (-1), 1), (2, .iconst 0, 1), (3, .iconst 0, 1), (4, .invokevirtual 31, 3), (7, .aload_n 0, 1), (8, .iconst 0, 1), (9, .putfield 35, 3), (12, .aload_n 0, 1), (13, .iconst 0, 1), (14, .putfield 38, 3), (17, .return_, 1)]
set_option maxRecDepth 20000 in
theorem dl_27_0_ok : dl_27_0.all (fun q => decide (decode prog_12_method_2_code q.1 = .ok (q.2.1, q.2.2))) = true := xa_g_ok (by decide +kernel)
def tb_27_0 : Nat → xE := (x_T 7 (x_T 2 (x_T 0 (x_L 0 (0, xi_load 0 2 1, 0, 0)) (x_T 1 (x_L 1 (0, xi_push (0, (-1), (-1)) 2, 0, 0)) (x_L 2 (0, xi_push (0, 0, 0) 3, 0, 0)))) (x_T 3 (x_L 3 (0, xi_push (0, 0, 0) 4, 0, 0)) (x_T 4 (x_L 4 (2, x_nof, 28, 4)) (x_L 7 (0, xi_load 0 2 8, 0, 0))))) (x_T 12 (x_T 8 (x_L 8 (0, xi_push (0, 0, 0) 9, 0, 0)) (x_T 9 (x_L 9 (0, xi_putf 10 1 0 12, 0, 0)) (x_L 12 (0, xi_load 0 2 13, 0, 0)))) (x_T 13 (x_L 13 (0, xi_push (0, 0, 0) 14, 0, 0)) (x_T 14 (x_L 14 (0, xi_putf 10 4 0 17, 0, 0)) (x_L 17 (1, x_nof, 0, 0))))))
set_option maxRecDepth 20000 in
set_option maxHeartbeats 4000000 in
theorem tb_27_0_ok (K : xKx) (hK : x_KP K) : ∀ pc, x_EOq cls K xJ mq_27 pc (tb_27_0 pc) :=
  (x_Tok2
  (x_Tok2
  (x_Tok2
  (x_Lok (x_st (I := xJ) (xr_aload_n (i := 0) (x_dk dl_27_0_ok 0 rfl))))
  (x_Tok2
  (x_Lok (x_st (I := xJ) (xr_iconst (n := (-1)) (z := (-1)) (v := (-1)) (x_dk dl_27_0_ok 1 rfl) (by decide) (by decide))))
  (x_Lok (x_st (I := xJ) (xr_iconst (n := 0) (z := 0) (v := 0) (x_dk dl_27_0_ok 2 rfl) (by decide) (by decide))))))
  (x_Tok2
  (x_Lok (x_st (I := xJ) (xr_iconst (n := 0) (z := 0) (v := 0) (x_dk dl_27_0_ok 3 rfl) (by decide) (by decide))))
  (x_Tok2
  (x_Lok (x_ca (I := xJ) (q' := mq_28) rfl (xr_callV (q' := mq_28) (ix := 31) (n := 3) (in_t4 (List.mem_of_getElem? (i := 102) rfl) rfl) good_w (in_t1 (List.mem_of_getElem? (i := 10) rfl) rfl) (in_t4 (List.mem_of_getElem? (i := 99) rfl) rfl) (in_t4 (List.mem_of_getElem? (i := 100) rfl) rfl) (in_t4 (List.mem_of_getElem? (i := 101) rfl) rfl) (by decide +kernel) (by decide +kernel) (by decide +kernel) (x_dk dl_27_0_ok 4 rfl))))
  (x_Lok (x_st (I := xJ) (xr_aload_n (i := 0) (x_dk dl_27_0_ok 5 rfl)))))))
  (x_Tok2
  (x_Tok2
  (x_Lok (x_st (I := xJ) (xr_iconst (n := 0) (z := 0) (v := 0) (x_dk dl_27_0_ok 6 rfl) (by decide) (by decide))))
  (x_Tok2
  (x_Lok (x_st (I := xJ) (xr_putf (ci := 10) (k := 1) (ix := 35) (N := 21) (fk := 0) (C := RX10) (T := TX10) (ty0 := tyX10) (ty := .int) rfl in_X10 tyX10_ok nmX10 (by decide) (in_t3 (List.mem_of_getElem? (i := 11) rfl) rfl) rfl rfl x_fit_int (x_dk dl_27_0_ok 7 rfl))))
  (x_Lok (x_st (I := xJ) (xr_aload_n (i := 0) (x_dk dl_27_0_ok 8 rfl))))))
  (x_Tok2
  (x_Lok (x_st (I := xJ) (xr_iconst (n := 0) (z := 0) (v := 0) (x_dk dl_27_0_ok 9 rfl) (by decide) (by decide))))
  (x_Tok2
  (x_Lok (x_st (I := xJ) (xr_putf (ci := 10) (k := 4) (ix := 38) (N := 21) (fk := 0) (C := RX10) (T := TX10) (ty0 := tyX10) (ty := .int) rfl in_X10 tyX10_ok nmX10 (by decide) (in_t3 (List.mem_of_getElem? (i := 19) rfl) rfl) rfl rfl x_fit_int (x_dk dl_27_0_ok 10 rfl))))
  (x_Lok (x_rt (I := xJ) (k := 0) ⟨(x_dk dl_27_0_ok 11 rfl), rfl⟩))))))
def tb_27 : Nat → xE := tb_27_0
theorem tb_27_ok (K : xKx) (hK : x_KP K) : ∀ pc, x_EOq cls K xJ mq_27 pc (tb_27 pc) := tb_27_0_ok K hK
def dl_28_0 : List (Nat × Instr × Nat) := [(0, .aload_n 0, 1), (1, .iconst 1, 1), (2, .putfield 35, 3), (5, .aload_n 0, 1), (6, .iload_n 1, 1), (7, .putfield 41, 3), (10, .aload_n 0, 1), (11, .iload_n 3, 1), (12, .putfield 44, 3), (15, .aload_n 0, 1), (16, .iconst 0, 1), (17, .putfield 47, 3), (20, .aload_n 0, 1), (21, .iconst 0, 1), (22, .putfield 50, 3), (25, .aload_n 0, 1), (26, .iconst 0, 1), (27, .putfield 53, 3), (30, .aload_n 0, 1), (31, .iconst (-1), 1), (32, .putfield 57, 3), (35, .aload_n 0, 1), (36, .iconst 0, 1), (37, .putfield 60, 3), (40, .aload_n 0, 1), (41, .iconst 0, 1), (42, .putfield 38, 3), (45, .aload_n 0, 1), (46, .iconst 0, 1), (47, .putfield 63, 3), (50, .aload_n 0, 1), (51, .iload_n 2, 1), (52, .invokevirtual 66, 3), (55, .pop, 1), (56, .return_, 1)]
set_option maxRecDepth 20000 in
theorem dl_28_0_ok : dl_28_0.all (fun q => decide (decode prog_12_method_3_code q.1 = .ok (q.2.1, q.2.2))) = true := xa_g_ok (by decide +kernel)
def tb_28_0 : Nat → xE := (x_T 26 (x_T 11 (x_T 5 (x_T 1 (x_T 0 (x_L 0 (0, xi_load 0 2 1, 0, 0)) (x_L 1 (0, xi_push (0, 1, 1) 2, 0, 0))) (x_T 2 (x_L 2 (0, xi_putf 10 1 0 5, 0, 0)) (x_L 5 (0, xi_load 0 2 6, 0, 0)))) (x_T 7 (x_T 6 (x_L 6 (0, xi_load 1 0 7, 0, 0)) (x_L 7 (0, xi_putf 10 2 0 10, 0, 0))) (x_T 10 (x_L 10 (0, xi_load 0 2 11, 0, 0)) (x_L 11 (0, xi_load 3 0 12, 0, 0))))) (x_T 17 (x_T 15 (x_T 12 (x_L 12 (0, xi_putf 10 7 0 15, 0, 0)) (x_L 15 (0, xi_load 0 2 16, 0, 0))) (x_T 16 (x_L 16 (0, xi_push (0, 0, 0) 17, 0, 0)) (x_L 17 (0, xi_putf 10 5 0 20, 0, 0)))) (x_T 21 (x_T 20 (x_L 20 (0, xi_load 0 2 21, 0, 0)) (x_L 21 (0, xi_push (0, 0, 0) 22, 0, 0))) (x_T 22 (x_L 22 (0, xi_putf 10 6 0 25, 0, 0)) (x_T 25 (x_L 25 (0, xi_load 0 2 26, 0, 0)) (x_L 26 (0, xi_push (0, 0, 0) 27, 0, 0))))))) (x_T 41 (x_T 32 (x_T 30 (x_T 27 (x_L 27 (0, xi_putf 10 10 1 30, 0, 0)) (x_L 30 (0, xi_load 0 2 31, 0, 0))) (x_T 31 (x_L 31 (0, xi_push (0, (-1), (-1)) 32, 0, 0)) (x_L 32 (0, xi_putf 10 11 0 35, 0, 0)))) (x_T 36 (x_T 35 (x_L 35 (0, xi_load 0 2 36, 0, 0)) (x_L 36 (0, xi_push (0, 0, 0) 37, 0, 0))) (x_T 37 (x_L 37 (0, xi_putf 10 14 0 40, 0, 0)) (x_T 40 (x_L 40 (0, xi_load 0 2 41, 0, 0)) (x_L 41 (0, xi_push (0, 0, 0) 42, 0, 0)))))) (x_T 47 (x_T 45 (x_T 42 (x_L 42 (0, xi_putf 10 4 0 45, 0, 0)) (x_L 45 (0, xi_load 0 2 46, 0, 0))) (x_T 46 (x_L 46 (0, xi_push (0, 0, 0) 47, 0, 0)) (x_L 47 (0, xi_putf 10 15 0 50, 0, 0)))) (x_T 51 (x_T 50 (x_L 50 (0, xi_load 0 2 51, 0, 0)) (x_L 51 (0, xi_load 2 0 52, 0, 0))) (x_T 52 (x_L 52 (2, x_nof, 29, 2)) (x_T 55 (x_L 55 (0, xi_stk xf_pop 56, 0, 0)) (x_L 56 (1, x_nof, 0, 0))))))))
set_option maxRecDepth 20000 in
set_option maxHeartbeats 4000000 in
theorem tb_28_0_ok (K : xKx) (hK : x_KP K) : ∀ pc, x_EOq cls K xJ mq_28 pc (tb_28_0 pc) :=
  (x_Tok2
  (x_Tok2
  (x_Tok2
  (x_Tok2
  (x_Tok2
  (x_Lok (x_st (I := xJ) (xr_aload_n (i := 0) (x_dk dl_28_0_ok 0 rfl))))
  (x_Lok (x_st (I := xJ) (xr_iconst (n := 1) (z := 1) (v := 1) (x_dk dl_28_0_ok 1 rfl) (by decide) (by decide)))))
  (x_Tok2
  (x_Lok (x_st (I := xJ) (xr_putf (ci := 10) (k := 1) (ix := 35) (N := 21) (fk := 0) (C := RX10) (T := TX10) (ty0 := tyX10) (ty := .int) rfl in_X10 tyX10_ok nmX10 (by decide) (in_t3 (List.mem_of_getElem? (i := 11) rfl) rfl) rfl rfl x_fit_int (x_dk dl_28_0_ok 2 rfl))))
  (x_Lok (x_st (I := xJ) (xr_aload_n (i := 0) (x_dk dl_28_0_ok 3 rfl))))))
  (x_Tok2
  (x_Tok2
  (x_Lok (x_st (I := xJ) (xr_iload_n (i := 1) (x_dk dl_28_0_ok 4 rfl))))
  (x_Lok (x_st (I := xJ) (xr_putf (ci := 10) (k := 2) (ix := 41) (N := 21) (fk := 0) (C := RX10) (T := TX10) (ty0 := tyX10) (ty := .int) rfl in_X10 tyX10_ok nmX10 (by decide) (in_t3 (List.mem_of_getElem? (i := 14) rfl) rfl) rfl rfl x_fit_int (x_dk dl_28_0_ok 5 rfl)))))
  (x_Tok2
  (x_Lok (x_st (I := xJ) (xr_aload_n (i := 0) (x_dk dl_28_0_ok 6 rfl))))
  (x_Lok (x_st (I := xJ) (xr_iload_n (i := 3) (x_dk dl_28_0_ok 7 rfl)))))))
  (x_Tok2
  (x_Tok2
  (x_Tok2
  (x_Lok (x_st (I := xJ) (xr_putf (ci := 10) (k := 7) (ix := 44) (N := 21) (fk := 0) (C := RX10) (T := TX10) (ty0 := tyX10) (ty := .int) rfl in_X10 tyX10_ok nmX10 (by decide) (in_t3 (List.mem_of_getElem? (i := 27) rfl) rfl) rfl rfl x_fit_int (x_dk dl_28_0_ok 8 rfl))))
  (x_Lok (x_st (I := xJ) (xr_aload_n (i := 0) (x_dk dl_28_0_ok 9 rfl)))))
  (x_Tok2
  (x_Lok (x_st (I := xJ) (xr_iconst (n := 0) (z := 0) (v := 0) (x_dk dl_28_0_ok 10 rfl) (by decide) (by decide))))
  (x_Lok (x_st (I := xJ) (xr_putf (ci := 10) (k := 5) (ix := 47) (N := 21) (fk := 0) (C := RX10) (T := TX10) (ty0 := tyX10) (ty := .int) rfl in_X10 tyX10_ok nmX10 (by decide) (in_t3 (List.mem_of_getElem? (i := 22) rfl) rfl) rfl rfl x_fit_int (x_dk dl_28_0_ok 11 rfl))))))
  (x_Tok2
  (x_Tok2
  (x_Lok (x_st (I := xJ) (xr_aload_n (i := 0) (x_dk dl_28_0_ok 12 rfl))))
  (x_Lok (x_st (I := xJ) (xr_iconst (n := 0) (z := 0) (v := 0) (x_dk dl_28_0_ok 13 rfl) (by decide) (by decide)))))
  (x_Tok2
  (x_Lok (x_st (I := xJ) (xr_putf (ci := 10) (k := 6) (ix := 50) (N := 21) (fk := 0) (C := RX10) (T := TX10) (ty0 := tyX10) (ty := .int) rfl in_X10 tyX10_ok nmX10 (by decide) (in_t3 (List.mem_of_getElem? (i := 25) rfl) rfl) rfl rfl x_fit_int (x_dk dl_28_0_ok 14 rfl))))
  (x_Tok2
  (x_Lok (x_st (I := xJ) (xr_aload_n (i := 0) (x_dk dl_28_0_ok 15 rfl))))
  (x_Lok (x_st (I := xJ) (xr_iconst (n := 0) (z := 0) (v := 0) (x_dk dl_28_0_ok 16 rfl) (by decide) (by decide)))))))))
  (x_Tok2
  (x_Tok2
  (x_Tok2
  (x_Tok2
  (x_Lok (x_st (I := xJ) (xr_putf (ci := 10) (k := 10) (ix := 53) (N := 21) (fk := 1) (C := RX10) (T := TX10) (ty0 := tyX10) (ty := .boolean) rfl in_X10 tyX10_ok nmX10 (by decide) (in_t3 (List.mem_of_getElem? (i := 31) rfl) rfl) rfl rfl x_fit_bool (x_dk dl_28_0_ok 17 rfl))))
  (x_Lok (x_st (I := xJ) (xr_aload_n (i := 0) (x_dk dl_28_0_ok 18 rfl)))))
  (x_Tok2
  (x_Lok (x_st (I := xJ) (xr_iconst (n := (-1)) (z := (-1)) (v := (-1)) (x_dk dl_28_0_ok 19 rfl) (by decide) (by decide))))
  (x_Lok (x_st (I := xJ) (xr_putf (ci := 10) (k := 11) (ix := 57) (N := 21) (fk := 0) (C := RX10) (T := TX10) (ty0 := tyX10) (ty := .int) rfl in_X10 tyX10_ok nmX10 (by decide) (in_t3 (List.mem_of_getElem? (i := 33) rfl) rfl) rfl rfl x_fit_int (x_dk dl_28_0_ok 20 rfl))))))
  (x_Tok2
  (x_Tok2
  (x_Lok (x_st (I := xJ) (xr_aload_n (i := 0) (x_dk dl_28_0_ok 21 rfl))))
  (x_Lok (x_st (I := xJ) (xr_iconst (n := 0) (z := 0) (v := 0) (x_dk dl_28_0_ok 22 rfl) (by decide) (by decide)))))
  (x_Tok2
  (x_Lok (x_st (I := xJ) (xr_putf (ci := 10) (k := 14) (ix := 60) (N := 21) (fk := 0) (C := RX10) (T := TX10) (ty0 := tyX10) (ty := .int) rfl in_X10 tyX10_ok nmX10 (by decide) (in_t3 (List.mem_of_getElem? (i := 37) rfl) rfl) rfl rfl x_fit_int (x_dk dl_28_0_ok 23 rfl))))
  (x_Tok2
  (x_Lok (x_st (I := xJ) (xr_aload_n (i := 0) (x_dk dl_28_0_ok 24 rfl))))
  (x_Lok (x_st (I := xJ) (xr_iconst (n := 0) (z := 0) (v := 0) (x_dk dl_28_0_ok 25 rfl) (by decide) (by decide))))))))
  (x_Tok2
  (x_Tok2
  (x_Tok2
  (x_Lok (x_st (I := xJ) (xr_putf (ci := 10) (k := 4) (ix := 38) (N := 21) (fk := 0) (C := RX10) (T := TX10) (ty0 := tyX10) (ty := .int) rfl in_X10 tyX10_ok nmX10 (by decide) (in_t3 (List.mem_of_getElem? (i := 19) rfl) rfl) rfl rfl x_fit_int (x_dk dl_28_0_ok 26 rfl))))
  (x_Lok (x_st (I := xJ) (xr_aload_n (i := 0) (x_dk dl_28_0_ok 27 rfl)))))
  (x_Tok2
  (x_Lok (x_st (I := xJ) (xr_iconst (n := 0) (z := 0) (v := 0) (x_dk dl_28_0_ok 28 rfl) (by decide) (by decide))))
  (x_Lok (x_st (I := xJ) (xr_putf (ci := 10) (k := 15) (ix := 63) (N := 21) (fk := 0) (C := RX10) (T := TX10) (ty0 := tyX10) (ty := .int) rfl in_X10 tyX10_ok nmX10 (by decide) (in_t3 (List.mem_of_getElem? (i := 39) rfl) rfl) rfl rfl x_fit_int (x_dk dl_28_0_ok 29 rfl))))))
  (x_Tok2
  (x_Tok2
  (x_Lok (x_st (I := xJ) (xr_aload_n (i := 0) (x_dk dl_28_0_ok 30 rfl))))
  (x_Lok (x_st (I := xJ) (xr_iload_n (i := 2) (x_dk dl_28_0_ok 31 rfl)))))
  (x_Tok2
  (x_Lok (x_ca (I := xJ) (q' := mq_29) rfl (xr_callV (q' := mq_29) (ix := 66) (n := 1) (in_t4 (List.mem_of_getElem? (i := 106) rfl) rfl) good_w (in_t1 (List.mem_of_getElem? (i := 10) rfl) rfl) (in_t4 (List.mem_of_getElem? (i := 103) rfl) rfl) (in_t4 (List.mem_of_getElem? (i := 104) rfl) rfl) (in_t4 (List.mem_of_getElem? (i := 105) rfl) rfl) (by decide +kernel) (by decide +kernel) (by decide +kernel) (x_dk dl_28_0_ok 32 rfl))))
  (x_Tok2
  (x_Lok (x_st (I := xJ) (xr_pop (x_dk dl_28_0_ok 33 rfl))))
  (x_Lok (x_rt (I := xJ) (k := 0) ⟨(x_dk dl_28_0_ok 34 rfl), rfl⟩))))))))
def tb_28 : Nat → xE := tb_28_0
theorem tb_28_ok (K : xKx) (hK : x_KP K) : ∀ pc, x_EOq cls K xJ mq_28 pc (tb_28 pc) := tb_28_0_ok K hK
def dl_29_0 : List (Nat × Instr × Nat) := [(0, .aload_n 0, 1), (1, .getfield 38, 3), (4, .bipush 20, 2), (6, .if_icmp .lt 5, 3), (11, .aload_n 0, 1), (12, .getfield 11, 3), (15, .aload_n 0, 1), (16, .getfield 38, 3), (19, .aload_n 0, 1), (20, .getfield 70, 3), (23, .iastore, 1), (24, .aload_n 0, 1), (25, .getfield 15, 3), (28, .aload_n 0, 1), (29, .getfield 38, 3), (32, .aload_n 0, 1), (33, .getfield 63, 3), (36, .iastore, 1), (37, .aload_n 0, 1), (38, .dup, 1), (39, .getfield 38, 3), (42, .iconst 1, 1), (43, .iadd, 1), (44, .putfield 38, 3), (47, .aload_n 0, 1), (48, .iload_n 1, 1), (49, .putfield 70, 3), (52, .iconst 1, 1), (53, .ireturn, 1)]
set_option maxRecDepth 20000 in
theorem dl_29_0_ok : dl_29_0.all (fun q => decide (decode prog_12_method_5_code q.1 = .ok (q.2.1, q.2.2))) = true := xa_g_ok (by decide +kernel)
def tb_29_0 : Nat → xE := (x_T 28 (x_T 15 (x_T 4 (x_T 0 (x_L 0 (0, xi_load 0 2 1, 0, 0)) (x_T 1 (x_L 1 (0, xi_getf 10 4 4, 0, 0)) (x_L 4 (0, xi_push (0, 20, 20) 6, 0, 0)))) (x_T 11 (x_T 6 (x_L 6 (0, xi_if2 2 11 9, 0, 0)) (x_L 11 (0, xi_load 0 2 12, 0, 0))) (x_T 12 (x_L 12 (0, xi_getf 10 16 15, 0, 0)) (x_L 15 (0, xi_load 0 2 16, 0, 0))))) (x_T 20 (x_T 16 (x_L 16 (0, xi_getf 10 4 19, 0, 0)) (x_T 19 (x_L 19 (0, xi_load 0 2 20, 0, 0)) (x_L 20 (0, xi_getf 10 3 23, 0, 0)))) (x_T 24 (x_T 23 (x_L 23 (0, xi_ast false 24, 0, 0)) (x_L 24 (0, xi_load 0 2 25, 0, 0))) (x_T 25 (x_L 25 (0, xi_getf 10 17 28, 0, 0)) (x_L 28 (0, xi_load 0 2 29, 0, 0)))))) (x_T 39 (x_T 33 (x_T 29 (x_L 29 (0, xi_getf 10 4 32, 0, 0)) (x_T 32 (x_L 32 (0, xi_load 0 2 33, 0, 0)) (x_L 33 (0, xi_getf 10 15 36, 0, 0)))) (x_T 37 (x_T 36 (x_L 36 (0, xi_ast false 37, 0, 0)) (x_L 37 (0, xi_load 0 2 38, 0, 0))) (x_T 38 (x_L 38 (0, xi_stk xf_dup 39, 0, 0)) (x_L 39 (0, xi_getf 10 4 42, 0, 0))))) (x_T 47 (x_T 43 (x_T 42 (x_L 42 (0, xi_push (0, 1, 1) 43, 0, 0)) (x_L 43 (0, xi_bin xF_add 44, 0, 0))) (x_T 44 (x_L 44 (0, xi_putf 10 4 0 47, 0, 0)) (x_L 47 (0, xi_load 0 2 48, 0, 0)))) (x_T 49 (x_T 48 (x_L 48 (0, xi_load 1 0 49, 0, 0)) (x_L 49 (0, xi_putf 10 3 0 52, 0, 0))) (x_T 52 (x_L 52 (0, xi_push (0, 1, 1) 53, 0, 0)) (x_L 53 (1, x_nof, 4, 0)))))))
set_option maxRecDepth 20000 in
set_option maxHeartbeats 4000000 in
theorem tb_29_0_ok (K : xKx) (hK : x_KP K) : ∀ pc, x_EOq cls K xJ mq_29 pc (tb_29_0 pc) :=
  (x_Tok2
  (x_Tok2
  (x_Tok2
  (x_Tok2
  (x_Lok (x_st (I := xJ) (xr_aload_n (i := 0) (x_dk dl_29_0_ok 0 rfl))))
  (x_Tok2
  (x_Lok (x_st (I := xJ) (xr_getf (ci := 10) (k := 4) (ix := 38) (N := 21) (C := RX10) (T := TX10) rfl in_X10 (by decide) (in_t3 (List.mem_of_getElem? (i := 19) rfl) rfl) (x_dk dl_29_0_ok 1 rfl))))
  (x_Lok (x_st (I := xJ) (xr_bipush (n := 20) (z := 20) (v := 20) (x_dk dl_29_0_ok 2 rfl) (by decide) (by decide))))))
  (x_Tok2
  (x_Tok2
  (x_Lok (x_st (I := xJ) (xr_icmplt (off := 5) (tg := 11) (x_dk dl_29_0_ok 3 rfl) (by decide))))
  (x_Lok (x_st (I := xJ) (xr_aload_n (i := 0) (x_dk dl_29_0_ok 4 rfl)))))
  (x_Tok2
  (x_Lok (x_st (I := xJ) (xr_getf (ci := 10) (k := 16) (ix := 11) (N := 21) (C := RX10) (T := TX10) rfl in_X10 (by decide) (in_t3 (List.mem_of_getElem? (i := 40) rfl) rfl) (x_dk dl_29_0_ok 5 rfl))))
  (x_Lok (x_st (I := xJ) (xr_aload_n (i := 0) (x_dk dl_29_0_ok 6 rfl)))))))
  (x_Tok2
  (x_Tok2
  (x_Lok (x_st (I := xJ) (xr_getf (ci := 10) (k := 4) (ix := 38) (N := 21) (C := RX10) (T := TX10) rfl in_X10 (by decide) (in_t3 (List.mem_of_getElem? (i := 19) rfl) rfl) (x_dk dl_29_0_ok 7 rfl))))
  (x_Tok2
  (x_Lok (x_st (I := xJ) (xr_aload_n (i := 0) (x_dk dl_29_0_ok 8 rfl))))
  (x_Lok (x_st (I := xJ) (xr_getf (ci := 10) (k := 3) (ix := 70) (N := 21) (C := RX10) (T := TX10) rfl in_X10 (by decide) (in_t3 (List.mem_of_getElem? (i := 17) rfl) rfl) (x_dk dl_29_0_ok 9 rfl))))))
  (x_Tok2
  (x_Tok2
  (x_Lok (x_st (I := xJ) (xr_iastore (x_dk dl_29_0_ok 10 rfl))))
  (x_Lok (x_st (I := xJ) (xr_aload_n (i := 0) (x_dk dl_29_0_ok 11 rfl)))))
  (x_Tok2
  (x_Lok (x_st (I := xJ) (xr_getf (ci := 10) (k := 17) (ix := 15) (N := 21) (C := RX10) (T := TX10) rfl in_X10 (by decide) (in_t3 (List.mem_of_getElem? (i := 41) rfl) rfl) (x_dk dl_29_0_ok 12 rfl))))
  (x_Lok (x_st (I := xJ) (xr_aload_n (i := 0) (x_dk dl_29_0_ok 13 rfl))))))))
  (x_Tok2
  (x_Tok2
  (x_Tok2
  (x_Lok (x_st (I := xJ) (xr_getf (ci := 10) (k := 4) (ix := 38) (N := 21) (C := RX10) (T := TX10) rfl in_X10 (by decide) (in_t3 (List.mem_of_getElem? (i := 19) rfl) rfl) (x_dk dl_29_0_ok 14 rfl))))
  (x_Tok2
  (x_Lok (x_st (I := xJ) (xr_aload_n (i := 0) (x_dk dl_29_0_ok 15 rfl))))
  (x_Lok (x_st (I := xJ) (xr_getf (ci := 10) (k := 15) (ix := 63) (N := 21) (C := RX10) (T := TX10) rfl in_X10 (by decide) (in_t3 (List.mem_of_getElem? (i := 39) rfl) rfl) (x_dk dl_29_0_ok 16 rfl))))))
  (x_Tok2
  (x_Tok2
  (x_Lok (x_st (I := xJ) (xr_iastore (x_dk dl_29_0_ok 17 rfl))))
  (x_Lok (x_st (I := xJ) (xr_aload_n (i := 0) (x_dk dl_29_0_ok 18 rfl)))))
  (x_Tok2
  (x_Lok (x_st (I := xJ) (xr_dup (x_dk dl_29_0_ok 19 rfl))))
  (x_Lok (x_st (I := xJ) (xr_getf (ci := 10) (k := 4) (ix := 38) (N := 21) (C := RX10) (T := TX10) rfl in_X10 (by decide) (in_t3 (List.mem_of_getElem? (i := 19) rfl) rfl) (x_dk dl_29_0_ok 20 rfl)))))))
  (x_Tok2
  (x_Tok2
  (x_Tok2
  (x_Lok (x_st (I := xJ) (xr_iconst (n := 1) (z := 1) (v := 1) (x_dk dl_29_0_ok 21 rfl) (by decide) (by decide))))
  (x_Lok (x_st (I := xJ) (xr_iadd (x_dk dl_29_0_ok 22 rfl)))))
  (x_Tok2
  (x_Lok (x_st (I := xJ) (xr_putf (ci := 10) (k := 4) (ix := 38) (N := 21) (fk := 0) (C := RX10) (T := TX10) (ty0 := tyX10) (ty := .int) rfl in_X10 tyX10_ok nmX10 (by decide) (in_t3 (List.mem_of_getElem? (i := 19) rfl) rfl) rfl rfl x_fit_int (x_dk dl_29_0_ok 23 rfl))))
  (x_Lok (x_st (I := xJ) (xr_aload_n (i := 0) (x_dk dl_29_0_ok 24 rfl))))))
  (x_Tok2
  (x_Tok2
  (x_Lok (x_st (I := xJ) (xr_iload_n (i := 1) (x_dk dl_29_0_ok 25 rfl))))
  (x_Lok (x_st (I := xJ) (xr_putf (ci := 10) (k := 3) (ix := 70) (N := 21) (fk := 0) (C := RX10) (T := TX10) (ty0 := tyX10) (ty := .int) rfl in_X10 tyX10_ok nmX10 (by decide) (in_t3 (List.mem_of_getElem? (i := 17) rfl) rfl) rfl rfl x_fit_int (x_dk dl_29_0_ok 26 rfl)))))
  (x_Tok2
  (x_Lok (x_st (I := xJ) (xr_iconst (n := 1) (z := 1) (v := 1) (x_dk dl_29_0_ok 27 rfl) (by decide) (by decide))))
  (x_Lok (x_rt (I := xJ) (k := 4) ⟨(x_dk dl_29_0_ok 28 rfl), rfl⟩)))))))
def tb_29 : Nat → xE := tb_29_0
theorem tb_29_ok (K : xKx) (hK : x_KP K) : ∀ pc, x_EOq cls K xJ mq_29 pc (tb_29 pc) := tb_29_0_ok K hK
def dl_30_0 : List (Nat × Instr × Nat) := [(0, .aload_n 0, 1), (1, .invokespecial 1, 3), (4, .aload_n 0, 1), (5, .new 7, 3), (8, .dup, 1), (9, .invokespecial 9, 3), (12, .putfield 10, 3), (15, .aload_n 0, 1), (16, .new 16, 3), (19, .dup, 1), (20, .invokespecial 18, 3), (23, .putfield 19, 3), (26, .aload_n 0, 1), (27, .aload_n 0, 1), (28, .getfield 19, 3), (31, .getfield 23, 3), (34, .putfield 27, 3), (37, .aload_n 0, 1), (38, .aload_n 0, 1), (39, .getfield 19, 3), (42, .getfield 28, 3), (45, .putfield 32, 3), (48, .aload_n 0, 1), (49, .aload_n 0, 1), (50, .getfield 19, 3), (53, .getfield 33, 3), (56, .putfield 37, 3), (59, .aload_n 0, 1), (60, .aload_n 0, 1), (61, .getfield 19, 3), (64, .getfield 38, 3), (67, .putfield 42, 3), (70, .aload_n 0, 1), (71, .new 43, 3), (74, .dup, 1), (75, .invokespecial 45, 3), (78, .putfield 46, 3), (81, .aload_n 0, 1), (82, .new 50, 3), (85, .dup, 1), (86, .invokespecial 52, 3), (89, .putfield 53, 3), (92, .aload_n 0, 1), (93, .bipush 6, 2), (95, .newarray .int, 2), (97, .putfield 57, 3), (100, .aload_n 0, 1), (101, .sipush 8000, 3), (104, .newarray .int, 2), (106, .putfield 61, 3), (109, .aload_n 0, 1), (110, .iconst 4, 1), (111, .newarray .int, 2), (113, .putfield 64, 3), (116, .aload_n 0, 1), (117, .iconst 1, 1), (118, .putfield 67, 3), (121, .aload_n 0, 1), (122, .invokevirtual 71, 3), (125, .return_, 1)]
set_option maxRecDepth 20000 in
theorem dl_30_0_ok : dl_30_0.all (fun q => decide (decode prog_1_method_1_code q.1 = .ok (q.2.1, q.2.2))) = true := xa_g_ok (by decide +kernel)
def tb_30_0 : Nat → xE := (x_T 28 (x_T 12 (x_T 4 (x_T 0 (x_L 0 (0, xi_load 0 2 1, 0, 0)) (x_T 1 (x_L 1 (0, xi_oi 4, 0, 0)) (x_L 4 (0, xi_load 0 2 5, 0, 0)))) (x_T 8 (x_T 5 (x_L 5 (0, xi_new (x_nc 8 ks_X8) (xm_c mq_30) (xm_s mq_30) 8, 0, 0)) (x_L 8 (0, xi_stk xf_dup 9, 0, 0))) (x_T 9 (x_L 9 (2, x_nof, 24, 1)) (x_L 12 (0, xi_putf 11 0 2 15, 0, 0))))) (x_T 20 (x_T 16 (x_T 15 (x_L 15 (0, xi_load 0 2 16, 0, 0)) (x_L 16 (0, xi_new (x_nc 3 ks_X3) (xm_c mq_30) (xm_s mq_30) 19, 0, 0))) (x_T 19 (x_L 19 (0, xi_stk xf_dup 20, 0, 0)) (x_L 20 (2, x_nof, 12, 1)))) (x_T 26 (x_T 23 (x_L 23 (0, xi_putf 11 1 2 26, 0, 0)) (x_L 26 (0, xi_load 0 2 27, 0, 0))) (x_T 27 (x_L 27 (0, xi_load 0 2 28, 0, 0)) (x_L 28 (0, xi_getf 11 1 31, 0, 0)))))) (x_T 45 (x_T 37 (x_T 31 (x_L 31 (0, xi_getf 3 0 34, 0, 0)) (x_T 34 (x_L 34 (0, xi_putf 11 2 2 37, 0, 0)) (x_L 37 (0, xi_load 0 2 38, 0, 0)))) (x_T 39 (x_T 38 (x_L 38 (0, xi_load 0 2 39, 0, 0)) (x_L 39 (0, xi_getf 11 1 42, 0, 0))) (x_T 42 (x_L 42 (0, xi_getf 3 1 45, 0, 0)) (x_L 45 (0, xi_putf 11 3 2 48, 0, 0))))) (x_T 53 (x_T 49 (x_T 48 (x_L 48 (0, xi_load 0 2 49, 0, 0)) (x_L 49 (0, xi_load 0 2 50, 0, 0))) (x_T 50 (x_L 50 (0, xi_getf 11 1 53, 0, 0)) (x_L 53 (0, xi_getf 3 2 56, 0, 0)))) (x_T 59 (x_T 56 (x_L 56 (0, xi_putf 11 4 2 59, 0, 0)) (x_L 59 (0, xi_load 0 2 60, 0, 0))) (x_T 60 (x_L 60 (0, xi_load 0 2 61, 0, 0)) (x_L 61 (0, xi_getf 11 1 64, 0, 0)))))))
set_option maxRecDepth 20000 in
set_option maxHeartbeats 4000000 in
theorem tb_30_0_ok (K : xKx) (hK : x_KP K) : ∀ pc, x_EOq cls K xJ mq_30 pc (tb_30_0 pc) :=
  (x_Tok2
  (x_Tok2
  (x_Tok2
  (x_Tok2
  (x_Lok (x_st (I := xJ) (xr_aload_n (i := 0) (x_dk dl_30_0_ok 0 rfl))))
  (x_Tok2
  (x_Lok (x_st (I := xJ) (xr_oi (ix := 1) (in_t1 (List.mem_of_getElem? (i := 26) rfl) rfl) (in_t1 (List.mem_of_getElem? (i := 27) rfl) rfl) (in_t1 (List.mem_of_getElem? (i := 28) rfl) rfl) (x_dk dl_30_0_ok 1 rfl))))
  (x_Lok (x_st (I := xJ) (xr_aload_n (i := 0) (x_dk dl_30_0_ok 2 rfl))))))
  (x_Tok2
  (x_Tok2
  (x_Lok (x_st (I := xJ) (xr_new (ci := 8) (ix := 7) (N := 17) (C := RX8) (T := TX8) (ty0 := tyX8) (ks := ks_X8) rfl in_X8 tyX8_ok (in_t1 (List.mem_of_getElem? (i := 29) rfl) rfl) (in_t1 (List.mem_of_getElem? (i := 30) rfl) rfl) (in_t1 (List.mem_of_getElem? (i := 2) rfl) rfl) rfl df_X8 (x_dk dl_30_0_ok 3 rfl))))
  (x_Lok (x_st (I := xJ) (xr_dup (x_dk dl_30_0_ok 4 rfl)))))
  (x_Tok2
  (x_Lok (x_ca (I := xJ) (q' := mq_24) rfl (xr_callIN (q' := mq_24) (ix := 9) (n := 0) (host := "RobotCellHouse") (in_t1 (List.mem_of_getElem? (i := 33) rfl) rfl) good_w (in_t1 (List.mem_of_getElem? (i := 2) rfl) rfl) (List.mem_of_getElem? (i := 0) rfl) (in_t1 (List.mem_of_getElem? (i := 32) rfl) rfl) rfl rfl (by decide +kernel) (by decide +kernel) (by decide +kernel) (x_dk dl_30_0_ok 5 rfl))))
  (x_Lok (x_st (I := xJ) (xr_putF (ci := 11) (k := 0) (ix := 10) (N := 15) (fk := 2) (C := RX11) (T := TX11) (ty0 := tyX11) (ty := .object "RobotCellHouse$Reader") rfl in_X11 tyX11_ok nmX11 (by decide) (in_t4 (List.mem_of_getElem? (i := 108) rfl) rfl) rfl rfl rfl rfl x_fit_obj (x_dk dl_30_0_ok 6 rfl)))))))
  (x_Tok2
  (x_Tok2
  (x_Tok2
  (x_Lok (x_st (I := xJ) (xr_aload_n (i := 0) (x_dk dl_30_0_ok 7 rfl))))
  (x_Lok (x_st (I := xJ) (xr_new (ci := 3) (ix := 16) (N := 12) (C := RX3) (T := TX3) (ty0 := tyX3) (ks := ks_X3) rfl in_X3 tyX3_ok (in_t1 (List.mem_of_getElem? (i := 122) rfl) rfl) (in_t1 (List.mem_of_getElem? (i := 123) rfl) rfl) (in_t1 (List.mem_of_getElem? (i := 4) rfl) rfl) rfl df_X3 (x_dk dl_30_0_ok 8 rfl)))))
  (x_Tok2
  (x_Lok (x_st (I := xJ) (xr_dup (x_dk dl_30_0_ok 9 rfl))))
  (x_Lok (x_ca (I := xJ) (q' := mq_12) rfl (xr_callI (q' := mq_12) (ix := 18) (n := 0) (in_t1 (List.mem_of_getElem? (i := 126) rfl) rfl) good_w (in_t1 (List.mem_of_getElem? (i := 4) rfl) rfl) (in_t1 (List.mem_of_getElem? (i := 124) rfl) rfl) (in_t1 (List.mem_of_getElem? (i := 125) rfl) rfl) rfl rfl (by decide +kernel) (by decide +kernel) (by decide +kernel) (x_dk dl_30_0_ok 10 rfl))))))
  (x_Tok2
  (x_Tok2
  (x_Lok (x_st (I := xJ) (xr_putF (ci := 11) (k := 1) (ix := 19) (N := 15) (fk := 2) (C := RX11) (T := TX11) (ty0 := tyX11) (ty := .object "RobotCellHouse$Doer") rfl in_X11 tyX11_ok nmX11 (by decide) (in_t4 (List.mem_of_getElem? (i := 109) rfl) rfl) rfl rfl rfl rfl x_fit_obj (x_dk dl_30_0_ok 11 rfl))))
  (x_Lok (x_st (I := xJ) (xr_aload_n (i := 0) (x_dk dl_30_0_ok 12 rfl)))))
  (x_Tok2
  (x_Lok (x_st (I := xJ) (xr_aload_n (i := 0) (x_dk dl_30_0_ok 13 rfl))))
  (x_Lok (x_st (I := xJ) (xr_getf (ci := 11) (k := 1) (ix := 19) (N := 15) (C := RX11) (T := TX11) rfl in_X11 (by decide) (in_t4 (List.mem_of_getElem? (i := 109) rfl) rfl) (x_dk dl_30_0_ok 14 rfl))))))))
  (x_Tok2
  (x_Tok2
  (x_Tok2
  (x_Lok (x_st (I := xJ) (xr_getf (ci := 3) (k := 0) (ix := 23) (N := 12) (C := RX3) (T := TX3) rfl in_X3 (by decide) (in_t3 (List.mem_of_getElem? (i := 89) rfl) rfl) (x_dk dl_30_0_ok 15 rfl))))
  (x_Tok2
  (x_Lok (x_st (I := xJ) (xr_putF (ci := 11) (k := 2) (ix := 27) (N := 15) (fk := 2) (C := RX11) (T := TX11) (ty0 := tyX11) (ty := .array (.object "RobotCellHouse$Arm")) rfl in_X11 tyX11_ok nmX11 (by decide) (in_t4 (List.mem_of_getElem? (i := 110) rfl) rfl) rfl rfl rfl rfl x_fit_arr (x_dk dl_30_0_ok 16 rfl))))
  (x_Lok (x_st (I := xJ) (xr_aload_n (i := 0) (x_dk dl_30_0_ok 17 rfl))))))
  (x_Tok2
  (x_Tok2
  (x_Lok (x_st (I := xJ) (xr_aload_n (i := 0) (x_dk dl_30_0_ok 18 rfl))))
  (x_Lok (x_st (I := xJ) (xr_getf (ci := 11) (k := 1) (ix := 19) (N := 15) (C := RX11) (T := TX11) rfl in_X11 (by decide) (in_t4 (List.mem_of_getElem? (i := 109) rfl) rfl) (x_dk dl_30_0_ok 19 rfl)))))
  (x_Tok2
  (x_Lok (x_st (I := xJ) (xr_getf (ci := 3) (k := 1) (ix := 28) (N := 12) (C := RX3) (T := TX3) rfl in_X3 (by decide) (in_t3 (List.mem_of_getElem? (i := 91) rfl) rfl) (x_dk dl_30_0_ok 20 rfl))))
  (x_Lok (x_st (I := xJ) (xr_putF (ci := 11) (k := 3) (ix := 32) (N := 15) (fk := 2) (C := RX11) (T := TX11) (ty0 := tyX11) (ty := .object "RobotCellHouse$Points") rfl in_X11 tyX11_ok nmX11 (by decide) (in_t4 (List.mem_of_getElem? (i := 111) rfl) rfl) rfl rfl rfl rfl x_fit_obj (x_dk dl_30_0_ok 21 rfl)))))))
  (x_Tok2
  (x_Tok2
  (x_Tok2
  (x_Lok (x_st (I := xJ) (xr_aload_n (i := 0) (x_dk dl_30_0_ok 22 rfl))))
  (x_Lok (x_st (I := xJ) (xr_aload_n (i := 0) (x_dk dl_30_0_ok 23 rfl)))))
  (x_Tok2
  (x_Lok (x_st (I := xJ) (xr_getf (ci := 11) (k := 1) (ix := 19) (N := 15) (C := RX11) (T := TX11) rfl in_X11 (by decide) (in_t4 (List.mem_of_getElem? (i := 109) rfl) rfl) (x_dk dl_30_0_ok 24 rfl))))
  (x_Lok (x_st (I := xJ) (xr_getf (ci := 3) (k := 2) (ix := 33) (N := 12) (C := RX3) (T := TX3) rfl in_X3 (by decide) (in_t3 (List.mem_of_getElem? (i := 93) rfl) rfl) (x_dk dl_30_0_ok 25 rfl))))))
  (x_Tok2
  (x_Tok2
  (x_Lok (x_st (I := xJ) (xr_putF (ci := 11) (k := 4) (ix := 37) (N := 15) (fk := 2) (C := RX11) (T := TX11) (ty0 := tyX11) (ty := .object "RobotCellHouse$Floor") rfl in_X11 tyX11_ok nmX11 (by decide) (in_t4 (List.mem_of_getElem? (i := 112) rfl) rfl) rfl rfl rfl rfl x_fit_obj (x_dk dl_30_0_ok 26 rfl))))
  (x_Lok (x_st (I := xJ) (xr_aload_n (i := 0) (x_dk dl_30_0_ok 27 rfl)))))
  (x_Tok2
  (x_Lok (x_st (I := xJ) (xr_aload_n (i := 0) (x_dk dl_30_0_ok 28 rfl))))
  (x_Lok (x_st (I := xJ) (xr_getf (ci := 11) (k := 1) (ix := 19) (N := 15) (C := RX11) (T := TX11) rfl in_X11 (by decide) (in_t4 (List.mem_of_getElem? (i := 109) rfl) rfl) (x_dk dl_30_0_ok 29 rfl)))))))))
def tb_30_30 : Nat → xE := (x_T 95 (x_T 78 (x_T 70 (x_T 64 (x_L 64 (0, xi_getf 3 3 67, 0, 0)) (x_T 67 (x_L 67 (0, xi_putf 11 5 2 70, 0, 0)) (x_L 70 (0, xi_load 0 2 71, 0, 0)))) (x_T 74 (x_T 71 (x_L 71 (0, xi_new (x_nc 9 ks_X9) (xm_c mq_30) (xm_s mq_30) 74, 0, 0)) (x_L 74 (0, xi_stk xf_dup 75, 0, 0))) (x_T 75 (x_L 75 (2, x_nof, 25, 1)) (x_L 78 (0, xi_putf 11 6 2 81, 0, 0))))) (x_T 86 (x_T 82 (x_T 81 (x_L 81 (0, xi_load 0 2 82, 0, 0)) (x_L 82 (0, xi_new (x_nc 6 ks_X6) (xm_c mq_30) (xm_s mq_30) 85, 0, 0))) (x_T 85 (x_L 85 (0, xi_stk xf_dup 86, 0, 0)) (x_L 86 (2, x_nof, 17, 1)))) (x_T 92 (x_T 89 (x_L 89 (0, xi_putf 11 7 2 92, 0, 0)) (x_L 92 (0, xi_load 0 2 93, 0, 0))) (x_T 93 (x_L 93 (0, xi_push (0, 6, 6) 95, 0, 0)) (x_L 95 (0, xi_newa 1 0 (0, 0, 0) (xm_c mq_30) (xm_s mq_30) 97, 0, 0)))))) (x_T 110 (x_T 101 (x_T 97 (x_L 97 (0, xi_putf 11 8 2 100, 0, 0)) (x_T 100 (x_L 100 (0, xi_load 0 2 101, 0, 0)) (x_L 101 (0, xi_push (0, 8000, 8000) 104, 0, 0)))) (x_T 106 (x_T 104 (x_L 104 (0, xi_newa 1 0 (0, 0, 0) (xm_c mq_30) (xm_s mq_30) 106, 0, 0)) (x_L 106 (0, xi_putf 11 9 2 109, 0, 0))) (x_T 109 (x_L 109 (0, xi_load 0 2 110, 0, 0)) (x_L 110 (0, xi_push (0, 4, 4) 111, 0, 0))))) (x_T 117 (x_T 113 (x_T 111 (x_L 111 (0, xi_newa 1 0 (0, 0, 0) (xm_c mq_30) (xm_s mq_30) 113, 0, 0)) (x_L 113 (0, xi_putf 11 10 2 116, 0, 0))) (x_T 116 (x_L 116 (0, xi_load 0 2 117, 0, 0)) (x_L 117 (0, xi_push (0, 1, 1) 118, 0, 0)))) (x_T 121 (x_T 118 (x_L 118 (0, xi_putf 11 14 1 121, 0, 0)) (x_L 121 (0, xi_load 0 2 122, 0, 0))) (x_T 122 (x_L 122 (2, x_nof, 31, 1)) (x_L 125 (1, x_nof, 0, 0)))))))
set_option maxRecDepth 20000 in
set_option maxHeartbeats 4000000 in
theorem tb_30_30_ok (K : xKx) (hK : x_KP K) : ∀ pc, x_EOq cls K xJ mq_30 pc (tb_30_30 pc) :=
  (x_Tok2
  (x_Tok2
  (x_Tok2
  (x_Tok2
  (x_Lok (x_st (I := xJ) (xr_getf (ci := 3) (k := 3) (ix := 38) (N := 12) (C := RX3) (T := TX3) rfl in_X3 (by decide) (in_t3 (List.mem_of_getElem? (i := 95) rfl) rfl) (x_dk dl_30_0_ok 30 rfl))))
  (x_Tok2
  (x_Lok (x_st (I := xJ) (xr_putF (ci := 11) (k := 5) (ix := 42) (N := 15) (fk := 2) (C := RX11) (T := TX11) (ty0 := tyX11) (ty := .object "RobotCellHouse$Core") rfl in_X11 tyX11_ok nmX11 (by decide) (in_t4 (List.mem_of_getElem? (i := 113) rfl) rfl) rfl rfl rfl rfl x_fit_obj (x_dk dl_30_0_ok 31 rfl))))
  (x_Lok (x_st (I := xJ) (xr_aload_n (i := 0) (x_dk dl_30_0_ok 32 rfl))))))
  (x_Tok2
  (x_Tok2
  (x_Lok (x_st (I := xJ) (xr_new (ci := 9) (ix := 43) (N := 17) (C := RX9) (T := TX9) (ty0 := tyX9) (ks := ks_X9) rfl in_X9 tyX9_ok (in_t3 (List.mem_of_getElem? (i := 131) rfl) rfl) (in_t3 (List.mem_of_getElem? (i := 132) rfl) rfl) (in_t1 (List.mem_of_getElem? (i := 11) rfl) rfl) rfl df_X9 (x_dk dl_30_0_ok 33 rfl))))
  (x_Lok (x_st (I := xJ) (xr_dup (x_dk dl_30_0_ok 34 rfl)))))
  (x_Tok2
  (x_Lok (x_ca (I := xJ) (q' := mq_25) rfl (xr_callIN (q' := mq_25) (ix := 45) (n := 0) (host := "RobotCellHouse") (in_t3 (List.mem_of_getElem? (i := 135) rfl) rfl) good_w (in_t1 (List.mem_of_getElem? (i := 11) rfl) rfl) (List.mem_of_getElem? (i := 7) rfl) (in_t3 (List.mem_of_getElem? (i := 134) rfl) rfl) rfl rfl (by decide +kernel) (by decide +kernel) (by decide +kernel) (x_dk dl_30_0_ok 35 rfl))))
  (x_Lok (x_st (I := xJ) (xr_putF (ci := 11) (k := 6) (ix := 46) (N := 15) (fk := 2) (C := RX11) (T := TX11) (ty0 := tyX11) (ty := .object "RobotCellHouse$Shapes") rfl in_X11 tyX11_ok nmX11 (by decide) (in_t4 (List.mem_of_getElem? (i := 114) rfl) rfl) rfl rfl rfl rfl x_fit_obj (x_dk dl_30_0_ok 36 rfl)))))))
  (x_Tok2
  (x_Tok2
  (x_Tok2
  (x_Lok (x_st (I := xJ) (xr_aload_n (i := 0) (x_dk dl_30_0_ok 37 rfl))))
  (x_Lok (x_st (I := xJ) (xr_new (ci := 6) (ix := 50) (N := 13) (C := RX6) (T := TX6) (ty0 := tyX6) (ks := ks_X6) rfl in_X6 tyX6_ok (in_t3 (List.mem_of_getElem? (i := 192) rfl) rfl) (in_t3 (List.mem_of_getElem? (i := 193) rfl) rfl) (in_t1 (List.mem_of_getElem? (i := 12) rfl) rfl) rfl df_X6 (x_dk dl_30_0_ok 38 rfl)))))
  (x_Tok2
  (x_Lok (x_st (I := xJ) (xr_dup (x_dk dl_30_0_ok 39 rfl))))
  (x_Lok (x_ca (I := xJ) (q' := mq_17) rfl (xr_callIN (q' := mq_17) (ix := 52) (n := 0) (host := "RobotCellHouse") (in_t3 (List.mem_of_getElem? (i := 196) rfl) rfl) good_w (in_t1 (List.mem_of_getElem? (i := 12) rfl) rfl) (List.mem_of_getElem? (i := 8) rfl) (in_t3 (List.mem_of_getElem? (i := 195) rfl) rfl) rfl rfl (by decide +kernel) (by decide +kernel) (by decide +kernel) (x_dk dl_30_0_ok 40 rfl))))))
  (x_Tok2
  (x_Tok2
  (x_Lok (x_st (I := xJ) (xr_putF (ci := 11) (k := 7) (ix := 53) (N := 15) (fk := 2) (C := RX11) (T := TX11) (ty0 := tyX11) (ty := .object "RobotCellHouse$Planner") rfl in_X11 tyX11_ok nmX11 (by decide) (in_t4 (List.mem_of_getElem? (i := 115) rfl) rfl) rfl rfl rfl rfl x_fit_obj (x_dk dl_30_0_ok 41 rfl))))
  (x_Lok (x_st (I := xJ) (xr_aload_n (i := 0) (x_dk dl_30_0_ok 42 rfl)))))
  (x_Tok2
  (x_Lok (x_st (I := xJ) (xr_bipush (n := 6) (z := 6) (v := 6) (x_dk dl_30_0_ok 43 rfl) (by decide) (by decide))))
  (x_Lok (x_st (I := xJ) (xr_newa (kd := 1) (b := false) (ty := .int) rfl rfl (in_t1 (List.mem_of_getElem? (i := 64) rfl) rfl) (x_dk dl_30_0_ok 44 rfl))))))))
  (x_Tok2
  (x_Tok2
  (x_Tok2
  (x_Lok (x_st (I := xJ) (xr_putF (ci := 11) (k := 8) (ix := 57) (N := 15) (fk := 2) (C := RX11) (T := TX11) (ty0 := tyX11) (ty := .array .int) rfl in_X11 tyX11_ok nmX11 (by decide) (in_t4 (List.mem_of_getElem? (i := 116) rfl) rfl) rfl rfl rfl rfl x_fit_arr (x_dk dl_30_0_ok 45 rfl))))
  (x_Tok2
  (x_Lok (x_st (I := xJ) (xr_aload_n (i := 0) (x_dk dl_30_0_ok 46 rfl))))
  (x_Lok (x_st (I := xJ) (xr_sipush (n := 8000) (z := 8000) (v := 8000) (x_dk dl_30_0_ok 47 rfl) (by decide) (by decide))))))
  (x_Tok2
  (x_Tok2
  (x_Lok (x_st (I := xJ) (xr_newa (kd := 1) (b := false) (ty := .int) rfl rfl (in_t1 (List.mem_of_getElem? (i := 64) rfl) rfl) (x_dk dl_30_0_ok 48 rfl))))
  (x_Lok (x_st (I := xJ) (xr_putF (ci := 11) (k := 9) (ix := 61) (N := 15) (fk := 2) (C := RX11) (T := TX11) (ty0 := tyX11) (ty := .array .int) rfl in_X11 tyX11_ok nmX11 (by decide) (in_t4 (List.mem_of_getElem? (i := 117) rfl) rfl) rfl rfl rfl rfl x_fit_arr (x_dk dl_30_0_ok 49 rfl)))))
  (x_Tok2
  (x_Lok (x_st (I := xJ) (xr_aload_n (i := 0) (x_dk dl_30_0_ok 50 rfl))))
  (x_Lok (x_st (I := xJ) (xr_iconst (n := 4) (z := 4) (v := 4) (x_dk dl_30_0_ok 51 rfl) (by decide) (by decide)))))))
  (x_Tok2
  (x_Tok2
  (x_Tok2
  (x_Lok (x_st (I := xJ) (xr_newa (kd := 1) (b := false) (ty := .int) rfl rfl (in_t1 (List.mem_of_getElem? (i := 64) rfl) rfl) (x_dk dl_30_0_ok 52 rfl))))
  (x_Lok (x_st (I := xJ) (xr_putF (ci := 11) (k := 10) (ix := 64) (N := 15) (fk := 2) (C := RX11) (T := TX11) (ty0 := tyX11) (ty := .array .int) rfl in_X11 tyX11_ok nmX11 (by decide) (in_t4 (List.mem_of_getElem? (i := 118) rfl) rfl) rfl rfl rfl rfl x_fit_arr (x_dk dl_30_0_ok 53 rfl)))))
  (x_Tok2
  (x_Lok (x_st (I := xJ) (xr_aload_n (i := 0) (x_dk dl_30_0_ok 54 rfl))))
  (x_Lok (x_st (I := xJ) (xr_iconst (n := 1) (z := 1) (v := 1) (x_dk dl_30_0_ok 55 rfl) (by decide) (by decide))))))
  (x_Tok2
  (x_Tok2
  (x_Lok (x_st (I := xJ) (xr_putf (ci := 11) (k := 14) (ix := 67) (N := 15) (fk := 1) (C := RX11) (T := TX11) (ty0 := tyX11) (ty := .boolean) rfl in_X11 tyX11_ok nmX11 (by decide) (in_t4 (List.mem_of_getElem? (i := 122) rfl) rfl) rfl rfl x_fit_bool (x_dk dl_30_0_ok 56 rfl))))
  (x_Lok (x_st (I := xJ) (xr_aload_n (i := 0) (x_dk dl_30_0_ok 57 rfl)))))
  (x_Tok2
  (x_Lok (x_ca (I := xJ) (q' := mq_31) rfl (xr_callV (q' := mq_31) (ix := 71) (n := 0) (in_t4 (List.mem_of_getElem? (i := 2) rfl) rfl) good_w (in_t1 (List.mem_of_getElem? (i := 1) rfl) rfl) (in_t3 (List.mem_of_getElem? (i := 239) rfl) rfl) (in_t4 (List.mem_of_getElem? (i := 1) rfl) rfl) (in_s1 (List.mem_of_getElem? (i := 0) rfl)) (by decide +kernel) (by decide +kernel) (by decide +kernel) (x_dk dl_30_0_ok 58 rfl))))
  (x_Lok (x_rt (I := xJ) (k := 0) ⟨(x_dk dl_30_0_ok 59 rfl), rfl⟩)))))))
def tb_30 : Nat → xE := (x_T 61 tb_30_0 tb_30_30)
theorem tb_30_ok (K : xKx) (hK : x_KP K) : ∀ pc, x_EOq cls K xJ mq_30 pc (tb_30 pc) := (x_Tok2 (tb_30_0_ok K hK) (tb_30_30_ok K hK))
def dl_31_0 : List (Nat × Instr × Nat) := [(0, .aload_n 0, 1), (1, .iconst 0, 1), (2, .putfield 94, 3), (5, .aload_n 0, 1), (6, .iconst 0, 1), (7, .putfield 246, 3), (10, .aload_n 0, 1), (11, .iconst 0, 1), (12, .putfield 91, 3), (15, .iconst 0, 1), (16, .istore_n 1, 1), (17, .iload_n 1, 1), (18, .iconst 4, 1), (19, .if_icmp .ge 22, 3), (22, .aload_n 0, 1), (23, .getfield 27, 3), (26, .iload_n 1, 1), (27, .aaload, 1), (28, .iconst 0, 1), (29, .iconst 0, 1), (30, .iconst 0, 1), (31, .iconst 0, 1), (32, .invokevirtual 97, 3), (35, .iinc 1 1, 3), (38, .goto (-21), 3), (41, .aload_n 0, 1), (42, .getfield 46, 3), (45, .iconst 0, 1), (46, .putfield 149, 3), (49, .aload_n 0, 1), (50, .getfield 46, 3), (53, .iconst 0, 1), (54, .putfield 198, 3), (57, .aload_n 0, 1), (58, .getfield 32, 3), (61, .invokevirtual 413, 3), (64, .aload_n 0, 1), (65, .getfield 37, 3), (68, .iconst 0, 1), (69, .putfield 167, 3), (72, .aload_n 0, 1), (73, .getfield 37, 3), (76, .iconst 0, 1), (77, .putfield 371, 3), (80, .aload_n 0, 1), (81, .getfield 42, 3), (84, .invokevirtual 414, 3), (87, .aload_n 0, 1), (88, .getfield 53, 3), (91, .iconst 0, 1), (92, .putfield 293, 3), (95, .aload_n 0, 1), (96, .getfield 64, 3), (99, .iconst 0, 1), (100, .invokestatic 415, 3), (103, .aload_n 0, 1), (104, .invokevirtual 249, 3), (107, .return_, 1)]
set_option maxRecDepth 20000 in
theorem dl_31_0_ok : dl_31_0.all (fun q => decide (decode prog_1_method_63_code q.1 = .ok (q.2.1, q.2.2))) = true := xa_g_ok (by decide +kernel)
def tb_31_0 : Nat → xE := (x_T 19 (x_T 10 (x_T 2 (x_T 0 (x_L 0 (0, xi_load 0 2 1, 0, 0)) (x_T 1 (x_L 1 (0, xi_push (0, 0, 0) 2, 0, 0)) (x_L 2 (0, xi_putf 11 11 0 5, 0, 0)))) (x_T 6 (x_T 5 (x_L 5 (0, xi_load 0 2 6, 0, 0)) (x_L 6 (0, xi_push (0, 0, 0) 7, 0, 0))) (x_T 7 (x_L 7 (0, xi_putf 11 12 0 10, 0, 0)) (x_L 10 (0, xi_load 0 2 11, 0, 0))))) (x_T 15 (x_T 11 (x_L 11 (0, xi_push (0, 0, 0) 12, 0, 0)) (x_T 12 (x_L 12 (0, xi_putf 11 13 1 15, 0, 0)) (x_L 15 (0, xi_push (0, 0, 0) 16, 0, 0)))) (x_T 17 (x_T 16 (x_L 16 (0, xi_stor 1 0 17, 0, 0)) (x_L 17 (0, xi_load 1 0 18, 0, 0))) (x_T 18 (x_L 18 (0, xi_push (0, 4, 4) 19, 0, 0)) (x_L 19 (0, xi_if2 3 41 22, 0, 0)))))) (x_T 30 (x_T 26 (x_T 22 (x_L 22 (0, xi_load 0 2 23, 0, 0)) (x_T 23 (x_L 23 (0, xi_getf 11 2 26, 0, 0)) (x_L 26 (0, xi_load 1 0 27, 0, 0)))) (x_T 28 (x_T 27 (x_L 27 (0, xi_aald 28, 0, 0)) (x_L 28 (0, xi_push (0, 0, 0) 29, 0, 0))) (x_T 29 (x_L 29 (0, xi_push (0, 0, 0) 30, 0, 0)) (x_L 30 (0, xi_push (0, 0, 0) 31, 0, 0))))) (x_T 38 (x_T 32 (x_T 31 (x_L 31 (0, xi_push (0, 0, 0) 32, 0, 0)) (x_L 32 (2, x_nof, 2, 5))) (x_T 35 (x_L 35 (0, xi_inc 1 1 38, 0, 0)) (x_L 38 (0, xi_goto 17, 0, 0)))) (x_T 42 (x_T 41 (x_L 41 (0, xi_load 0 2 42, 0, 0)) (x_L 42 (0, xi_getf 11 6 45, 0, 0))) (x_T 45 (x_L 45 (0, xi_push (0, 0, 0) 46, 0, 0)) (x_L 46 (0, xi_putf 9 0 0 49, 0, 0)))))))
set_option maxRecDepth 20000 in
set_option maxHeartbeats 4000000 in
theorem tb_31_0_ok (K : xKx) (hK : x_KP K) : ∀ pc, x_EOq cls K xJ mq_31 pc (tb_31_0 pc) :=
  (x_Tok2
  (x_Tok2
  (x_Tok2
  (x_Tok2
  (x_Lok (x_st (I := xJ) (xr_aload_n (i := 0) (x_dk dl_31_0_ok 0 rfl))))
  (x_Tok2
  (x_Lok (x_st (I := xJ) (xr_iconst (n := 0) (z := 0) (v := 0) (x_dk dl_31_0_ok 1 rfl) (by decide) (by decide))))
  (x_Lok (x_st (I := xJ) (xr_putf (ci := 11) (k := 11) (ix := 94) (N := 15) (fk := 0) (C := RX11) (T := TX11) (ty0 := tyX11) (ty := .int) rfl in_X11 tyX11_ok nmX11 (by decide) (in_t4 (List.mem_of_getElem? (i := 119) rfl) rfl) rfl rfl x_fit_int (x_dk dl_31_0_ok 2 rfl))))))
  (x_Tok2
  (x_Tok2
  (x_Lok (x_st (I := xJ) (xr_aload_n (i := 0) (x_dk dl_31_0_ok 3 rfl))))
  (x_Lok (x_st (I := xJ) (xr_iconst (n := 0) (z := 0) (v := 0) (x_dk dl_31_0_ok 4 rfl) (by decide) (by decide)))))
  (x_Tok2
  (x_Lok (x_st (I := xJ) (xr_putf (ci := 11) (k := 12) (ix := 246) (N := 15) (fk := 0) (C := RX11) (T := TX11) (ty0 := tyX11) (ty := .int) rfl in_X11 tyX11_ok nmX11 (by decide) (in_t4 (List.mem_of_getElem? (i := 120) rfl) rfl) rfl rfl x_fit_int (x_dk dl_31_0_ok 5 rfl))))
  (x_Lok (x_st (I := xJ) (xr_aload_n (i := 0) (x_dk dl_31_0_ok 6 rfl)))))))
  (x_Tok2
  (x_Tok2
  (x_Lok (x_st (I := xJ) (xr_iconst (n := 0) (z := 0) (v := 0) (x_dk dl_31_0_ok 7 rfl) (by decide) (by decide))))
  (x_Tok2
  (x_Lok (x_st (I := xJ) (xr_putf (ci := 11) (k := 13) (ix := 91) (N := 15) (fk := 1) (C := RX11) (T := TX11) (ty0 := tyX11) (ty := .boolean) rfl in_X11 tyX11_ok nmX11 (by decide) (in_t4 (List.mem_of_getElem? (i := 121) rfl) rfl) rfl rfl x_fit_bool (x_dk dl_31_0_ok 8 rfl))))
  (x_Lok (x_st (I := xJ) (xr_iconst (n := 0) (z := 0) (v := 0) (x_dk dl_31_0_ok 9 rfl) (by decide) (by decide))))))
  (x_Tok2
  (x_Tok2
  (x_Lok (x_st (I := xJ) (xr_istore_n (i := 1) (x_dk dl_31_0_ok 10 rfl) (by decide +kernel))))
  (x_Lok (x_st (I := xJ) (xr_iload_n (i := 1) (x_dk dl_31_0_ok 11 rfl)))))
  (x_Tok2
  (x_Lok (x_st (I := xJ) (xr_iconst (n := 4) (z := 4) (v := 4) (x_dk dl_31_0_ok 12 rfl) (by decide) (by decide))))
  (x_Lok (x_st (I := xJ) (xr_icmpge (off := 22) (tg := 41) (x_dk dl_31_0_ok 13 rfl) (by decide))))))))
  (x_Tok2
  (x_Tok2
  (x_Tok2
  (x_Lok (x_st (I := xJ) (xr_aload_n (i := 0) (x_dk dl_31_0_ok 14 rfl))))
  (x_Tok2
  (x_Lok (x_st (I := xJ) (xr_getf (ci := 11) (k := 2) (ix := 27) (N := 15) (C := RX11) (T := TX11) rfl in_X11 (by decide) (in_t4 (List.mem_of_getElem? (i := 110) rfl) rfl) (x_dk dl_31_0_ok 15 rfl))))
  (x_Lok (x_st (I := xJ) (xr_iload_n (i := 1) (x_dk dl_31_0_ok 16 rfl))))))
  (x_Tok2
  (x_Tok2
  (x_Lok (x_st (I := xJ) (xr_aaload (x_dk dl_31_0_ok 17 rfl))))
  (x_Lok (x_st (I := xJ) (xr_iconst (n := 0) (z := 0) (v := 0) (x_dk dl_31_0_ok 18 rfl) (by decide) (by decide)))))
  (x_Tok2
  (x_Lok (x_st (I := xJ) (xr_iconst (n := 0) (z := 0) (v := 0) (x_dk dl_31_0_ok 19 rfl) (by decide) (by decide))))
  (x_Lok (x_st (I := xJ) (xr_iconst (n := 0) (z := 0) (v := 0) (x_dk dl_31_0_ok 20 rfl) (by decide) (by decide)))))))
  (x_Tok2
  (x_Tok2
  (x_Tok2
  (x_Lok (x_st (I := xJ) (xr_iconst (n := 0) (z := 0) (v := 0) (x_dk dl_31_0_ok 21 rfl) (by decide) (by decide))))
  (x_Lok (x_ca (I := xJ) (q' := mq_2) rfl (xr_callV (q' := mq_2) (ix := 97) (n := 4) (in_t4 (List.mem_of_getElem? (i := 6) rfl) rfl) good_w (in_t1 (List.mem_of_getElem? (i := 8) rfl) rfl) (in_t4 (List.mem_of_getElem? (i := 3) rfl) rfl) (in_t4 (List.mem_of_getElem? (i := 4) rfl) rfl) (in_t4 (List.mem_of_getElem? (i := 5) rfl) rfl) (by decide +kernel) (by decide +kernel) (by decide +kernel) (x_dk dl_31_0_ok 22 rfl)))))
  (x_Tok2
  (x_Lok (x_st (I := xJ) (xr_iinc (i := 1) (n := 1) (x_dk dl_31_0_ok 23 rfl) (by decide +kernel) (by decide))))
  (x_Lok (x_st (I := xJ) (xr_goto (off := (-21)) (tg := 17) (x_dk dl_31_0_ok 24 rfl) (by decide))))))
  (x_Tok2
  (x_Tok2
  (x_Lok (x_st (I := xJ) (xr_aload_n (i := 0) (x_dk dl_31_0_ok 25 rfl))))
  (x_Lok (x_st (I := xJ) (xr_getf (ci := 11) (k := 6) (ix := 46) (N := 15) (C := RX11) (T := TX11) rfl in_X11 (by decide) (in_t4 (List.mem_of_getElem? (i := 114) rfl) rfl) (x_dk dl_31_0_ok 26 rfl)))))
  (x_Tok2
  (x_Lok (x_st (I := xJ) (xr_iconst (n := 0) (z := 0) (v := 0) (x_dk dl_31_0_ok 27 rfl) (by decide) (by decide))))
  (x_Lok (x_st (I := xJ) (xr_putf (ci := 9) (k := 0) (ix := 149) (N := 17) (fk := 0) (C := RX9) (T := TX9) (ty0 := tyX9) (ty := .int) rfl in_X9 tyX9_ok nmX9 (by decide) (in_t3 (List.mem_of_getElem? (i := 138) rfl) rfl) rfl rfl x_fit_int (x_dk dl_31_0_ok 28 rfl)))))))))
def tb_31_29 : Nat → xE := (x_T 76 (x_T 61 (x_T 53 (x_T 49 (x_L 49 (0, xi_load 0 2 50, 0, 0)) (x_T 50 (x_L 50 (0, xi_getf 11 6 53, 0, 0)) (x_L 53 (0, xi_push (0, 0, 0) 54, 0, 0)))) (x_T 57 (x_T 54 (x_L 54 (0, xi_putf 9 1 0 57, 0, 0)) (x_L 57 (0, xi_load 0 2 58, 0, 0))) (x_T 58 (x_L 58 (0, xi_getf 11 3 61, 0, 0)) (x_L 61 (2, x_nof, 19, 1))))) (x_T 68 (x_T 64 (x_L 64 (0, xi_load 0 2 65, 0, 0)) (x_T 65 (x_L 65 (0, xi_getf 11 4 68, 0, 0)) (x_L 68 (0, xi_push (0, 0, 0) 69, 0, 0)))) (x_T 72 (x_T 69 (x_L 69 (0, xi_putf 4 0 0 72, 0, 0)) (x_L 72 (0, xi_load 0 2 73, 0, 0))) (x_T 73 (x_L 73 (0, xi_getf 11 4 76, 0, 0)) (x_L 76 (0, xi_push (0, 0, 0) 77, 0, 0)))))) (x_T 91 (x_T 81 (x_T 77 (x_L 77 (0, xi_putf 4 1 0 80, 0, 0)) (x_T 80 (x_L 80 (0, xi_load 0 2 81, 0, 0)) (x_L 81 (0, xi_getf 11 5 84, 0, 0)))) (x_T 87 (x_T 84 (x_L 84 (2, x_nof, 10, 1)) (x_L 87 (0, xi_load 0 2 88, 0, 0))) (x_T 88 (x_L 88 (0, xi_getf 11 7 91, 0, 0)) (x_L 91 (0, xi_push (0, 0, 0) 92, 0, 0))))) (x_T 99 (x_T 95 (x_T 92 (x_L 92 (0, xi_putf 6 0 0 95, 0, 0)) (x_L 95 (0, xi_load 0 2 96, 0, 0))) (x_T 96 (x_L 96 (0, xi_getf 11 10 99, 0, 0)) (x_L 99 (0, xi_push (0, 0, 0) 100, 0, 0)))) (x_T 103 (x_T 100 (x_L 100 (2, x_nof, 40, 2)) (x_L 103 (0, xi_load 0 2 104, 0, 0))) (x_T 104 (x_L 104 (2, x_nof, 32, 1)) (x_L 107 (1, x_nof, 0, 0)))))))
set_option maxRecDepth 20000 in
set_option maxHeartbeats 4000000 in
theorem tb_31_29_ok (K : xKx) (hK : x_KP K) : ∀ pc, x_EOq cls K xJ mq_31 pc (tb_31_29 pc) :=
  (x_Tok2
  (x_Tok2
  (x_Tok2
  (x_Tok2
  (x_Lok (x_st (I := xJ) (xr_aload_n (i := 0) (x_dk dl_31_0_ok 29 rfl))))
  (x_Tok2
  (x_Lok (x_st (I := xJ) (xr_getf (ci := 11) (k := 6) (ix := 46) (N := 15) (C := RX11) (T := TX11) rfl in_X11 (by decide) (in_t4 (List.mem_of_getElem? (i := 114) rfl) rfl) (x_dk dl_31_0_ok 30 rfl))))
  (x_Lok (x_st (I := xJ) (xr_iconst (n := 0) (z := 0) (v := 0) (x_dk dl_31_0_ok 31 rfl) (by decide) (by decide))))))
  (x_Tok2
  (x_Tok2
  (x_Lok (x_st (I := xJ) (xr_putf (ci := 9) (k := 1) (ix := 198) (N := 17) (fk := 0) (C := RX9) (T := TX9) (ty0 := tyX9) (ty := .int) rfl in_X9 tyX9_ok nmX9 (by decide) (in_t3 (List.mem_of_getElem? (i := 140) rfl) rfl) rfl rfl x_fit_int (x_dk dl_31_0_ok 32 rfl))))
  (x_Lok (x_st (I := xJ) (xr_aload_n (i := 0) (x_dk dl_31_0_ok 33 rfl)))))
  (x_Tok2
  (x_Lok (x_st (I := xJ) (xr_getf (ci := 11) (k := 3) (ix := 32) (N := 15) (C := RX11) (T := TX11) rfl in_X11 (by decide) (in_t4 (List.mem_of_getElem? (i := 111) rfl) rfl) (x_dk dl_31_0_ok 34 rfl))))
  (x_Lok (x_ca (I := xJ) (q' := mq_19) rfl (xr_callV (q' := mq_19) (ix := 413) (n := 0) (in_t4 (List.mem_of_getElem? (i := 43) rfl) rfl) good_w (in_t1 (List.mem_of_getElem? (i := 5) rfl) rfl) (in_t4 (List.mem_of_getElem? (i := 40) rfl) rfl) (in_t4 (List.mem_of_getElem? (i := 41) rfl) rfl) (in_t4 (List.mem_of_getElem? (i := 42) rfl) rfl) (by decide +kernel) (by decide +kernel) (by decide +kernel) (x_dk dl_31_0_ok 35 rfl)))))))
  (x_Tok2
  (x_Tok2
  (x_Lok (x_st (I := xJ) (xr_aload_n (i := 0) (x_dk dl_31_0_ok 36 rfl))))
  (x_Tok2
  (x_Lok (x_st (I := xJ) (xr_getf (ci := 11) (k := 4) (ix := 37) (N := 15) (C := RX11) (T := TX11) rfl in_X11 (by decide) (in_t4 (List.mem_of_getElem? (i := 112) rfl) rfl) (x_dk dl_31_0_ok 37 rfl))))
  (x_Lok (x_st (I := xJ) (xr_iconst (n := 0) (z := 0) (v := 0) (x_dk dl_31_0_ok 38 rfl) (by decide) (by decide))))))
  (x_Tok2
  (x_Tok2
  (x_Lok (x_st (I := xJ) (xr_putf (ci := 4) (k := 0) (ix := 167) (N := 20) (fk := 0) (C := RX4) (T := TX4) (ty0 := tyX4) (ty := .int) rfl in_X4 tyX4_ok nmX4 (by decide) (in_t1 (List.mem_of_getElem? (i := 176) rfl) rfl) rfl rfl x_fit_int (x_dk dl_31_0_ok 39 rfl))))
  (x_Lok (x_st (I := xJ) (xr_aload_n (i := 0) (x_dk dl_31_0_ok 40 rfl)))))
  (x_Tok2
  (x_Lok (x_st (I := xJ) (xr_getf (ci := 11) (k := 4) (ix := 37) (N := 15) (C := RX11) (T := TX11) rfl in_X11 (by decide) (in_t4 (List.mem_of_getElem? (i := 112) rfl) rfl) (x_dk dl_31_0_ok 41 rfl))))
  (x_Lok (x_st (I := xJ) (xr_iconst (n := 0) (z := 0) (v := 0) (x_dk dl_31_0_ok 42 rfl) (by decide) (by decide))))))))
  (x_Tok2
  (x_Tok2
  (x_Tok2
  (x_Lok (x_st (I := xJ) (xr_putf (ci := 4) (k := 1) (ix := 371) (N := 20) (fk := 0) (C := RX4) (T := TX4) (ty0 := tyX4) (ty := .int) rfl in_X4 tyX4_ok nmX4 (by decide) (in_t1 (List.mem_of_getElem? (i := 178) rfl) rfl) rfl rfl x_fit_int (x_dk dl_31_0_ok 43 rfl))))
  (x_Tok2
  (x_Lok (x_st (I := xJ) (xr_aload_n (i := 0) (x_dk dl_31_0_ok 44 rfl))))
  (x_Lok (x_st (I := xJ) (xr_getf (ci := 11) (k := 5) (ix := 42) (N := 15) (C := RX11) (T := TX11) rfl in_X11 (by decide) (in_t4 (List.mem_of_getElem? (i := 113) rfl) rfl) (x_dk dl_31_0_ok 45 rfl))))))
  (x_Tok2
  (x_Tok2
  (x_Lok (x_ca (I := xJ) (q' := mq_10) rfl (xr_callV (q' := mq_10) (ix := 414) (n := 0) (in_t4 (List.mem_of_getElem? (i := 52) rfl) rfl) good_w (in_t1 (List.mem_of_getElem? (i := 7) rfl) rfl) (in_t4 (List.mem_of_getElem? (i := 49) rfl) rfl) (in_t4 (List.mem_of_getElem? (i := 50) rfl) rfl) (in_t4 (List.mem_of_getElem? (i := 51) rfl) rfl) (by decide +kernel) (by decide +kernel) (by decide +kernel) (x_dk dl_31_0_ok 46 rfl))))
  (x_Lok (x_st (I := xJ) (xr_aload_n (i := 0) (x_dk dl_31_0_ok 47 rfl)))))
  (x_Tok2
  (x_Lok (x_st (I := xJ) (xr_getf (ci := 11) (k := 7) (ix := 53) (N := 15) (C := RX11) (T := TX11) rfl in_X11 (by decide) (in_t4 (List.mem_of_getElem? (i := 115) rfl) rfl) (x_dk dl_31_0_ok 48 rfl))))
  (x_Lok (x_st (I := xJ) (xr_iconst (n := 0) (z := 0) (v := 0) (x_dk dl_31_0_ok 49 rfl) (by decide) (by decide)))))))
  (x_Tok2
  (x_Tok2
  (x_Tok2
  (x_Lok (x_st (I := xJ) (xr_putf (ci := 6) (k := 0) (ix := 293) (N := 13) (fk := 0) (C := RX6) (T := TX6) (ty0 := tyX6) (ty := .int) rfl in_X6 tyX6_ok nmX6 (by decide) (in_t3 (List.mem_of_getElem? (i := 199) rfl) rfl) rfl rfl x_fit_int (x_dk dl_31_0_ok 50 rfl))))
  (x_Lok (x_st (I := xJ) (xr_aload_n (i := 0) (x_dk dl_31_0_ok 51 rfl)))))
  (x_Tok2
  (x_Lok (x_st (I := xJ) (xr_getf (ci := 11) (k := 10) (ix := 64) (N := 15) (C := RX11) (T := TX11) rfl in_X11 (by decide) (in_t4 (List.mem_of_getElem? (i := 118) rfl) rfl) (x_dk dl_31_0_ok 52 rfl))))
  (x_Lok (x_st (I := xJ) (xr_iconst (n := 0) (z := 0) (v := 0) (x_dk dl_31_0_ok 53 rfl) (by decide) (by decide))))))
  (x_Tok2
  (x_Tok2
  (x_Lok (x_ca (I := xJ) (q' := mq_40) rfl (xr_callS (q' := mq_40) (ix := 415) (n := 2) (in_t4 (List.mem_of_getElem? (i := 9) rfl) rfl) good_w (in_t1 (List.mem_of_getElem? (i := 13) rfl) rfl) (in_t4 (List.mem_of_getElem? (i := 53) rfl) rfl) (in_t4 (List.mem_of_getElem? (i := 8) rfl) rfl) (by decide +kernel) (by decide +kernel) (x_dk dl_31_0_ok 54 rfl))))
  (x_Lok (x_st (I := xJ) (xr_aload_n (i := 0) (x_dk dl_31_0_ok 55 rfl)))))
  (x_Tok2
  (x_Lok (x_ca (I := xJ) (q' := mq_32) rfl (xr_callV (q' := mq_32) (ix := 249) (n := 0) (in_t4 (List.mem_of_getElem? (i := 57) rfl) rfl) good_w (in_t1 (List.mem_of_getElem? (i := 1) rfl) rfl) (in_t4 (List.mem_of_getElem? (i := 54) rfl) rfl) (in_t4 (List.mem_of_getElem? (i := 56) rfl) rfl) (in_s1 (List.mem_of_getElem? (i := 2) rfl)) (by decide +kernel) (by decide +kernel) (by decide +kernel) (x_dk dl_31_0_ok 56 rfl))))
  (x_Lok (x_rt (I := xJ) (k := 0) ⟨(x_dk dl_31_0_ok 57 rfl), rfl⟩)))))))
def tb_31 : Nat → xE := (x_T 46 tb_31_0 tb_31_29)
theorem tb_31_ok (K : xKx) (hK : x_KP K) : ∀ pc, x_EOq cls K xJ mq_31 pc (tb_31 pc) := (x_Tok2 (tb_31_0_ok K hK) (tb_31_29_ok K hK))
def dl_32_0 : List (Nat × Instr × Nat) := [(0, .iconst 0, 1), (1, .istore_n 1, 1), (2, .iload_n 1, 1), (3, .iconst 4, 1), (4, .if_icmp .ge 18, 3), (7, .aload_n 0, 1), (8, .getfield 27, 3), (11, .iload_n 1, 1), (12, .aaload, 1), (13, .invokevirtual 421, 3), (16, .iinc 1 1, 3), (19, .goto (-17), 3), (22, .aload_n 0, 1), (23, .getfield 32, 3), (26, .invokevirtual 422, 3), (29, .aload_n 0, 1), (30, .getfield 37, 3), (33, .invokevirtual 423, 3), (36, .aload_n 0, 1), (37, .getfield 42, 3), (40, .invokevirtual 424, 3), (43, .aload_n 0, 1), (44, .getfield 19, 3), (47, .invokevirtual 425, 3), (50, .aload_n 0, 1), (51, .getfield 57, 3), (54, .iconst 0, 1), (55, .invokestatic 415, 3), (58, .return_, 1)]
set_option maxRecDepth 20000 in
theorem dl_32_0_ok : dl_32_0.all (fun q => decide (decode prog_1_method_64_code q.1 = .ok (q.2.1, q.2.2))) = true := xa_g_ok (by decide +kernel)
def tb_32_0 : Nat → xE := (x_T 23 (x_T 8 (x_T 2 (x_T 0 (x_L 0 (0, xi_push (0, 0, 0) 1, 0, 0)) (x_T 1 (x_L 1 (0, xi_stor 1 0 2, 0, 0)) (x_L 2 (0, xi_load 1 0 3, 0, 0)))) (x_T 4 (x_T 3 (x_L 3 (0, xi_push (0, 4, 4) 4, 0, 0)) (x_L 4 (0, xi_if2 3 22 7, 0, 0))) (x_T 7 (x_L 7 (0, xi_load 0 2 8, 0, 0)) (x_L 8 (0, xi_getf 11 2 11, 0, 0))))) (x_T 13 (x_T 11 (x_L 11 (0, xi_load 1 0 12, 0, 0)) (x_T 12 (x_L 12 (0, xi_aald 13, 0, 0)) (x_L 13 (2, x_nof, 3, 1)))) (x_T 19 (x_T 16 (x_L 16 (0, xi_inc 1 1 19, 0, 0)) (x_L 19 (0, xi_goto 2, 0, 0))) (x_T 22 (x_L 22 (0, xi_load 0 2 23, 0, 0)) (x_L 23 (0, xi_getf 11 3 26, 0, 0)))))) (x_T 40 (x_T 30 (x_T 26 (x_L 26 (2, x_nof, 20, 1)) (x_T 29 (x_L 29 (0, xi_load 0 2 30, 0, 0)) (x_L 30 (0, xi_getf 11 4 33, 0, 0)))) (x_T 36 (x_T 33 (x_L 33 (2, x_nof, 15, 1)) (x_L 36 (0, xi_load 0 2 37, 0, 0))) (x_T 37 (x_L 37 (0, xi_getf 11 5 40, 0, 0)) (x_L 40 (2, x_nof, 11, 1))))) (x_T 50 (x_T 44 (x_T 43 (x_L 43 (0, xi_load 0 2 44, 0, 0)) (x_L 44 (0, xi_getf 11 1 47, 0, 0))) (x_T 47 (x_L 47 (2, x_nof, 13, 1)) (x_L 50 (0, xi_load 0 2 51, 0, 0)))) (x_T 54 (x_T 51 (x_L 51 (0, xi_getf 11 8 54, 0, 0)) (x_L 54 (0, xi_push (0, 0, 0) 55, 0, 0))) (x_T 55 (x_L 55 (2, x_nof, 40, 2)) (x_L 58 (1, x_nof, 0, 0)))))))
set_option maxRecDepth 20000 in
set_option maxHeartbeats 4000000 in
theorem tb_32_0_ok (K : xKx) (hK : x_KP K) : ∀ pc, x_EOq cls K xJ mq_32 pc (tb_32_0 pc) :=
  (x_Tok2
  (x_Tok2
  (x_Tok2
  (x_Tok2
  (x_Lok (x_st (I := xJ) (xr_iconst (n := 0) (z := 0) (v := 0) (x_dk dl_32_0_ok 0 rfl) (by decide) (by decide))))
  (x_Tok2
  (x_Lok (x_st (I := xJ) (xr_istore_n (i := 1) (x_dk dl_32_0_ok 1 rfl) (by decide +kernel))))
  (x_Lok (x_st (I := xJ) (xr_iload_n (i := 1) (x_dk dl_32_0_ok 2 rfl))))))
  (x_Tok2
  (x_Tok2
  (x_Lok (x_st (I := xJ) (xr_iconst (n := 4) (z := 4) (v := 4) (x_dk dl_32_0_ok 3 rfl) (by decide) (by decide))))
  (x_Lok (x_st (I := xJ) (xr_icmpge (off := 18) (tg := 22) (x_dk dl_32_0_ok 4 rfl) (by decide)))))
  (x_Tok2
  (x_Lok (x_st (I := xJ) (xr_aload_n (i := 0) (x_dk dl_32_0_ok 5 rfl))))
  (x_Lok (x_st (I := xJ) (xr_getf (ci := 11) (k := 2) (ix := 27) (N := 15) (C := RX11) (T := TX11) rfl in_X11 (by decide) (in_t4 (List.mem_of_getElem? (i := 110) rfl) rfl) (x_dk dl_32_0_ok 6 rfl)))))))
  (x_Tok2
  (x_Tok2
  (x_Lok (x_st (I := xJ) (xr_iload_n (i := 1) (x_dk dl_32_0_ok 7 rfl))))
  (x_Tok2
  (x_Lok (x_st (I := xJ) (xr_aaload (x_dk dl_32_0_ok 8 rfl))))
  (x_Lok (x_ca (I := xJ) (q' := mq_3) rfl (xr_callV (q' := mq_3) (ix := 421) (n := 0) (in_t4 (List.mem_of_getElem? (i := 17) rfl) rfl) good_w (in_t1 (List.mem_of_getElem? (i := 8) rfl) rfl) (in_t4 (List.mem_of_getElem? (i := 58) rfl) rfl) (in_t4 (List.mem_of_getElem? (i := 15) rfl) rfl) (in_t4 (List.mem_of_getElem? (i := 16) rfl) rfl) (by decide +kernel) (by decide +kernel) (by decide +kernel) (x_dk dl_32_0_ok 9 rfl))))))
  (x_Tok2
  (x_Tok2
  (x_Lok (x_st (I := xJ) (xr_iinc (i := 1) (n := 1) (x_dk dl_32_0_ok 10 rfl) (by decide +kernel) (by decide))))
  (x_Lok (x_st (I := xJ) (xr_goto (off := (-17)) (tg := 2) (x_dk dl_32_0_ok 11 rfl) (by decide)))))
  (x_Tok2
  (x_Lok (x_st (I := xJ) (xr_aload_n (i := 0) (x_dk dl_32_0_ok 12 rfl))))
  (x_Lok (x_st (I := xJ) (xr_getf (ci := 11) (k := 3) (ix := 32) (N := 15) (C := RX11) (T := TX11) rfl in_X11 (by decide) (in_t4 (List.mem_of_getElem? (i := 111) rfl) rfl) (x_dk dl_32_0_ok 13 rfl))))))))
  (x_Tok2
  (x_Tok2
  (x_Tok2
  (x_Lok (x_ca (I := xJ) (q' := mq_20) rfl (xr_callV (q' := mq_20) (ix := 422) (n := 0) (in_t4 (List.mem_of_getElem? (i := 62) rfl) rfl) good_w (in_t1 (List.mem_of_getElem? (i := 5) rfl) rfl) (in_t4 (List.mem_of_getElem? (i := 59) rfl) rfl) (in_t4 (List.mem_of_getElem? (i := 60) rfl) rfl) (in_t4 (List.mem_of_getElem? (i := 61) rfl) rfl) (by decide +kernel) (by decide +kernel) (by decide +kernel) (x_dk dl_32_0_ok 14 rfl))))
  (x_Tok2
  (x_Lok (x_st (I := xJ) (xr_aload_n (i := 0) (x_dk dl_32_0_ok 15 rfl))))
  (x_Lok (x_st (I := xJ) (xr_getf (ci := 11) (k := 4) (ix := 37) (N := 15) (C := RX11) (T := TX11) rfl in_X11 (by decide) (in_t4 (List.mem_of_getElem? (i := 112) rfl) rfl) (x_dk dl_32_0_ok 16 rfl))))))
  (x_Tok2
  (x_Tok2
  (x_Lok (x_ca (I := xJ) (q' := mq_15) rfl (xr_callV (q' := mq_15) (ix := 423) (n := 0) (in_t4 (List.mem_of_getElem? (i := 74) rfl) rfl) good_w (in_t1 (List.mem_of_getElem? (i := 6) rfl) rfl) (in_t4 (List.mem_of_getElem? (i := 71) rfl) rfl) (in_t4 (List.mem_of_getElem? (i := 72) rfl) rfl) (in_t4 (List.mem_of_getElem? (i := 73) rfl) rfl) (by decide +kernel) (by decide +kernel) (by decide +kernel) (x_dk dl_32_0_ok 17 rfl))))
  (x_Lok (x_st (I := xJ) (xr_aload_n (i := 0) (x_dk dl_32_0_ok 18 rfl)))))
  (x_Tok2
  (x_Lok (x_st (I := xJ) (xr_getf (ci := 11) (k := 5) (ix := 42) (N := 15) (C := RX11) (T := TX11) rfl in_X11 (by decide) (in_t4 (List.mem_of_getElem? (i := 113) rfl) rfl) (x_dk dl_32_0_ok 19 rfl))))
  (x_Lok (x_ca (I := xJ) (q' := mq_11) rfl (xr_callV (q' := mq_11) (ix := 424) (n := 0) (in_t4 (List.mem_of_getElem? (i := 90) rfl) rfl) good_w (in_t1 (List.mem_of_getElem? (i := 7) rfl) rfl) (in_t4 (List.mem_of_getElem? (i := 87) rfl) rfl) (in_t4 (List.mem_of_getElem? (i := 88) rfl) rfl) (in_t4 (List.mem_of_getElem? (i := 89) rfl) rfl) (by decide +kernel) (by decide +kernel) (by decide +kernel) (x_dk dl_32_0_ok 20 rfl)))))))
  (x_Tok2
  (x_Tok2
  (x_Tok2
  (x_Lok (x_st (I := xJ) (xr_aload_n (i := 0) (x_dk dl_32_0_ok 21 rfl))))
  (x_Lok (x_st (I := xJ) (xr_getf (ci := 11) (k := 1) (ix := 19) (N := 15) (C := RX11) (T := TX11) rfl in_X11 (by decide) (in_t4 (List.mem_of_getElem? (i := 109) rfl) rfl) (x_dk dl_32_0_ok 22 rfl)))))
  (x_Tok2
  (x_Lok (x_ca (I := xJ) (q' := mq_13) rfl (xr_callV (q' := mq_13) (ix := 425) (n := 0) (in_t4 (List.mem_of_getElem? (i := 94) rfl) rfl) good_w (in_t1 (List.mem_of_getElem? (i := 4) rfl) rfl) (in_t4 (List.mem_of_getElem? (i := 91) rfl) rfl) (in_t4 (List.mem_of_getElem? (i := 92) rfl) rfl) (in_t4 (List.mem_of_getElem? (i := 93) rfl) rfl) (by decide +kernel) (by decide +kernel) (by decide +kernel) (x_dk dl_32_0_ok 23 rfl))))
  (x_Lok (x_st (I := xJ) (xr_aload_n (i := 0) (x_dk dl_32_0_ok 24 rfl))))))
  (x_Tok2
  (x_Tok2
  (x_Lok (x_st (I := xJ) (xr_getf (ci := 11) (k := 8) (ix := 57) (N := 15) (C := RX11) (T := TX11) rfl in_X11 (by decide) (in_t4 (List.mem_of_getElem? (i := 116) rfl) rfl) (x_dk dl_32_0_ok 25 rfl))))
  (x_Lok (x_st (I := xJ) (xr_iconst (n := 0) (z := 0) (v := 0) (x_dk dl_32_0_ok 26 rfl) (by decide) (by decide)))))
  (x_Tok2
  (x_Lok (x_ca (I := xJ) (q' := mq_40) rfl (xr_callS (q' := mq_40) (ix := 415) (n := 2) (in_t4 (List.mem_of_getElem? (i := 9) rfl) rfl) good_w (in_t1 (List.mem_of_getElem? (i := 13) rfl) rfl) (in_t4 (List.mem_of_getElem? (i := 53) rfl) rfl) (in_t4 (List.mem_of_getElem? (i := 8) rfl) rfl) (by decide +kernel) (by decide +kernel) (x_dk dl_32_0_ok 27 rfl))))
  (x_Lok (x_rt (I := xJ) (k := 0) ⟨(x_dk dl_32_0_ok 28 rfl), rfl⟩)))))))
def tb_32 : Nat → xE := tb_32_0
theorem tb_32_ok (K : xKx) (hK : x_KP K) : ∀ pc, x_EOq cls K xJ mq_32 pc (tb_32 pc) := tb_32_0_ok K hK
def dl_33_0 : List (Nat × Instr × Nat) := [(0, .aload_n 0, 1), (1, .invokespecial 1, 3), (4, .aload_n 0, 1), (5, .ldc 7, 2), (7, .newarray .int, 2), (9, .putfield 8, 3), (12, .aload_n 0, 1), (13, .ldc 7, 2), (15, .newarray .int, 2), (17, .putfield 14, 3), (20, .aload_n 0, 1), (21, .ldc 17, 2), (23, .newarray .int, 2), (25, .putfield 18, 3), (28, .aload_n 0, 1), (29, .sipush 8000, 3), (32, .newarray .int, 2), (34, .putfield 21, 3), (37, .aload_n 0, 1), (38, .iconst 4, 1), (39, .newarray .int, 2), (41, .putfield 24, 3), (44, .aload_n 0, 1), (45, .sipush 4000, 3), (48, .newarray .byte, 2), (50, .putfield 27, 3), (53, .aload_n 0, 1), (54, .iconst 4, 1), (55, .newarray .int, 2), (57, .putfield 31, 3), (60, .aload_n 0, 1), (61, .iconst 4, 1), (62, .newarray .int, 2), (64, .putfield 34, 3), (67, .aload_n 0, 1), (68, .iconst 4, 1), (69, .newarray .int, 2), (71, .putfield 37, 3), (74, .aload_n 0, 1), (75, .iconst 4, 1), (76, .newarray .int, 2), (78, .putfield 40, 3), (81, .aload_n 0, 1), (82, .iconst 4, 1), (83, .newarray .int, 2), (85, .putfield 43, 3), (88, .aload_n 0, 1), (89, .bipush 24, 2), (91, .newarray .int, 2), (93, .putfield 46, 3), (96, .aload_n 0, 1), (97, .bipush 24, 2), (99, .newarray .int, 2), (101, .putfield 49, 3), (104, .aload_n 0, 1), (105, .bipush 24, 2), (107, .newarray .int, 2), (109, .putfield 52, 3), (112, .aload_n 0, 1), (113, .bipush 24, 2), (115, .newarray .int, 2), (117, .putfield 55, 3), (120, .aload_n 0, 1), (121, .bipush 24, 2), (123, .newarray .int, 2), (125, .putfield 58, 3), (128, .aload_n 0, 1), (129, .bipush 24, 2), (131, .newarray .int, 2), (133, .putfield 61, 3), (136, .aload_n 0, 1), (137, .bipush 24, 2), (139, .newarray .int, 2), (141, .putfield 64, 3), (144, .aload_n 0, 1), (145, .bipush 16, 2), (147, .newarray .boolean, 2), (149, .putfield 67, 3), (152, .aload_n 0, 1), (153, .bipush 16, 2), (155, .newarray .int, 2), (157, .putfield 71, 3), (160, .aload_n 0, 1), (161, .bipush 16, 2), (163, .newarray .int, 2), (165, .putfield 74, 3), (168, .aload_n 0, 1), (169, .bipush 16, 2), (171, .newarray .int, 2), (173, .putfield 77, 3), (176, .aload_n 0, 1), (177, .bipush 16, 2), (179, .newarray .int, 2), (181, .putfield 80, 3), (184, .aload_n 0, 1), (185, .sipush 448, 3), (188, .newarray .boolean, 2), (190, .putfield 83, 3), (193, .aload_n 0, 1), (194, .iconst 4, 1)]
set_option maxRecDepth 20000 in
theorem dl_33_0_ok : dl_33_0.all (fun q => decide (decode prog_14_method_1_code q.1 = .ok (q.2.1, q.2.2))) = true := xa_g_ok (by decide +kernel)
def dl_33_1 : List (Nat × Instr × Nat) := [(195, .newarray .int, 2), (197, .putfield 86, 3), (200, .aload_n 0, 1), (201, .iconst 4, 1), (202, .newarray .int, 2), (204, .putfield 89, 3), (207, .aload_n 0, 1), (208, .iconst 4, 1), (209, .newarray .int, 2), (211, .putfield 92, 3), (214, .aload_n 0, 1), (215, .iconst 4, 1), (216, .newarray .int, 2), (218, .putfield 95, 3), (221, .aload_n 0, 1), (222, .iconst 4, 1), (223, .newarray .int, 2), (225, .putfield 98, 3), (228, .aload_n 0, 1), (229, .iconst 4, 1), (230, .newarray .int, 2), (232, .putfield 101, 3), (235, .aload_n 0, 1), (236, .iconst 4, 1), (237, .newarray .int, 2), (239, .putfield 104, 3), (242, .aload_n 0, 1), (243, .iconst 4, 1), (244, .newarray .int, 2), (246, .putfield 107, 3), (249, .aload_n 0, 1), (250, .iconst 4, 1), (251, .newarray .int, 2), (253, .putfield 110, 3), (256, .aload_n 0, 1), (257, .bipush 32, 2), (259, .newarray .int, 2), (261, .putfield 113, 3), (264, .aload_n 0, 1), (265, .bipush 8, 2), (267, .newarray .int, 2), (269, .putfield 116, 3), (272, .aload_n 0, 1), (273, .bipush 8, 2), (275, .newarray .int, 2), (277, .putfield 119, 3), (280, .aload_n 0, 1), (281, .bipush 8, 2), (283, .newarray .int, 2), (285, .putfield 122, 3), (288, .aload_n 0, 1), (289, .bipush 8, 2), (291, .newarray .int, 2), (293, .putfield 125, 3), (296, .aload_n 0, 1), (297, .bipush 8, 2), (299, .newarray .int, 2), (301, .putfield 128, 3), (304, .aload_n 0, 1), (305, .bipush 8, 2), (307, .newarray .int, 2), (309, .putfield 131, 3), (312, .aload_n 0, 1), (313, .bipush 8, 2), (315, .newarray .int, 2), (317, .putfield 134, 3), (320, .aload_n 0, 1), (321, .bipush 8, 2), (323, .newarray .boolean, 2), (325, .putfield 137, 3), (328, .aload_n 0, 1), (329, .bipush 64, 2), (331, .newarray .int, 2), (333, .putfield 140, 3), (336, .aload_n 0, 1), (337, .bipush 64, 2), (339, .newarray .boolean, 2), (341, .putfield 143, 3), (344, .aload_n 0, 1), (345, .sipush 1025, 3), (348, .newarray .int, 2), (350, .putfield 146, 3), (353, .aload_n 0, 1), (354, .bipush 35, 2), (356, .newarray .int, 2), (358, .putfield 149, 3), (361, .aload_n 0, 1), (362, .bipush 35, 2), (364, .newarray .int, 2), (366, .putfield 152, 3), (369, .aload_n 0, 1), (370, .bipush 6, 2), (372, .newarray .int, 2), (374, .putfield 155, 3), (377, .aload_n 0, 1), (378, .iconst 4, 1), (379, .newarray .int, 2), (381, .putfield 158, 3), (384, .aload_n 0, 1), (385, .iconst 4, 1)]
set_option maxRecDepth 20000 in
theorem dl_33_1_ok : dl_33_1.all (fun q => decide (decode prog_14_method_1_code q.1 = .ok (q.2.1, q.2.2))) = true := xa_g_ok (by decide +kernel)
def dl_33_2 : List (Nat × Instr × Nat) := [(386, .newarray .int, 2), (388, .putfield 161, 3), (391, .aload_n 0, 1), (392, .bipush 65, 2), (394, .newarray .int, 2), (396, .putfield 164, 3), (399, .aload_n 0, 1), (400, .bipush 64, 2), (402, .newarray .boolean, 2), (404, .putfield 167, 3), (407, .aload_n 0, 1), (408, .ldc 170, 2), (410, .newarray .int, 2), (412, .putfield 171, 3), (415, .aload_n 0, 1), (416, .ldc 170, 2), (418, .newarray .int, 2), (420, .putfield 174, 3), (423, .aload_n 0, 1), (424, .ldc 170, 2), (426, .newarray .int, 2), (428, .putfield 177, 3), (431, .aload_n 0, 1), (432, .sipush 4500, 3), (435, .newarray .int, 2), (437, .putfield 180, 3), (440, .aload_n 0, 1), (441, .sipush 4500, 3), (444, .newarray .int, 2), (446, .putfield 183, 3), (449, .aload_n 0, 1), (450, .sipush 4500, 3), (453, .newarray .int, 2), (455, .putfield 186, 3), (458, .aload_n 0, 1), (459, .sipush 4500, 3), (462, .newarray .int, 2), (464, .putfield 189, 3), (467, .aload_n 0, 1), (468, .sipush 4500, 3), (471, .newarray .int, 2), (473, .putfield 192, 3), (476, .aload_n 0, 1), (477, .sipush 4500, 3), (480, .newarray .int, 2), (482, .putfield 195, 3), (485, .aload_n 0, 1), (486, .sipush 160, 3), (489, .newarray .int, 2), (491, .putfield 198, 3), (494, .aload_n 0, 1), (495, .iconst 5, 1), (496, .newarray .int, 2), (498, .putfield 201, 3), (501, .aload_n 0, 1), (502, .iconst 5, 1), (503, .newarray .int, 2), (505, .putfield 204, 3), (508, .aload_n 0, 1), (509, .iconst 5, 1), (510, .newarray .boolean, 2), (512, .putfield 207, 3), (515, .aload_n 0, 1), (516, .sipush 4100, 3), (519, .newarray .int, 2), (521, .putfield 210, 3), (524, .aload_n 0, 1), (525, .sipush 4100, 3), (528, .newarray .int, 2), (530, .putfield 213, 3), (533, .aload_n 0, 1), (534, .sipush 4100, 3), (537, .newarray .int, 2), (539, .putfield 216, 3), (542, .aload_n 0, 1), (543, .sipush 4100, 3), (546, .newarray .int, 2), (548, .putfield 219, 3), (551, .aload_n 0, 1), (552, .sipush 4200, 3), (555, .newarray .int, 2), (557, .putfield 222, 3), (560, .aload_n 0, 1), (561, .bipush 24, 2), (563, .newarray .int, 2), (565, .putfield 225, 3), (568, .aload_n 0, 1), (569, .bipush 6, 2), (571, .newarray .int, 2), (573, .putfield 228, 3), (576, .aload_n 0, 1), (577, .bipush 6, 2), (579, .newarray .int, 2), (581, .putfield 231, 3), (584, .aload_n 0, 1), (585, .sipush 1000, 3), (588, .newarray .int, 2), (590, .putfield 234, 3), (593, .aload_n 0, 1), (594, .sipush 1000, 3)]
set_option maxRecDepth 20000 in
theorem dl_33_2_ok : dl_33_2.all (fun q => decide (decode prog_14_method_1_code q.1 = .ok (q.2.1, q.2.2))) = true := xa_g_ok (by decide +kernel)
def dl_33_3 : List (Nat × Instr × Nat) := [(597, .newarray .int, 2), (599, .putfield 237, 3), (602, .aload_n 0, 1), (603, .sipush 1000, 3), (606, .newarray .int, 2), (608, .putfield 240, 3), (611, .aload_n 0, 1), (612, .sipush 6000, 3), (615, .newarray .int, 2), (617, .putfield 243, 3), (620, .aload_n 0, 1), (621, .sipush 1000, 3), (624, .newarray .int, 2), (626, .putfield 246, 3), (629, .aload_n 0, 1), (630, .ldc 249, 2), (632, .newarray .int, 2), (634, .putfield 250, 3), (637, .aload_n 0, 1), (638, .sipush 2000, 3), (641, .newarray .int, 2), (643, .putfield 253, 3), (646, .aload_n 0, 1), (647, .sipush 2000, 3), (650, .newarray .int, 2), (652, .putfield 256, 3), (655, .aload_n 0, 1), (656, .invokevirtual 259, 3), (659, .aload_n 0, 1), (660, .invokevirtual 262, 3), (663, .return_, 1)]
set_option maxRecDepth 20000 in
theorem dl_33_3_ok : dl_33_3.all (fun q => decide (decode prog_14_method_1_code q.1 = .ok (q.2.1, q.2.2))) = true := xa_g_ok (by decide +kernel)
def tb_33_0 : Nat → xE := (x_T 17 (x_T 7 (x_T 1 (x_T 0 (x_L 0 (0, xi_load 0 2 1, 0, 0)) (x_L 1 (0, xi_oi 4, 0, 0))) (x_T 4 (x_L 4 (0, xi_load 0 2 5, 0, 0)) (x_T 5 (x_L 5 (0, xi_push (0, 33060, 33060) 7, 0, 0)) (x_L 7 (0, xi_newa 1 0 (0, 0, 0) (xm_c mq_33) (xm_s mq_33) 9, 0, 0))))) (x_T 12 (x_T 9 (x_L 9 (0, xi_putf 12 0 2 12, 0, 0)) (x_L 12 (0, xi_load 0 2 13, 0, 0))) (x_T 13 (x_L 13 (0, xi_push (0, 33060, 33060) 15, 0, 0)) (x_T 15 (x_L 15 (0, xi_newa 1 0 (0, 0, 0) (xm_c mq_33) (xm_s mq_33) 17, 0, 0)) (x_L 17 (0, xi_putf 12 1 2 20, 0, 0)))))) (x_T 28 (x_T 21 (x_T 20 (x_L 20 (0, xi_load 0 2 21, 0, 0)) (x_L 21 (0, xi_push (0, 661200, 661200) 23, 0, 0))) (x_T 23 (x_L 23 (0, xi_newa 1 0 (0, 0, 0) (xm_c mq_33) (xm_s mq_33) 25, 0, 0)) (x_T 25 (x_L 25 (0, xi_putf 12 2 2 28, 0, 0)) (x_L 28 (0, xi_load 0 2 29, 0, 0))))) (x_T 32 (x_T 29 (x_L 29 (0, xi_push (0, 8000, 8000) 32, 0, 0)) (x_L 32 (0, xi_newa 1 0 (0, 0, 0) (xm_c mq_33) (xm_s mq_33) 34, 0, 0))) (x_T 34 (x_L 34 (0, xi_putf 12 4 2 37, 0, 0)) (x_T 37 (x_L 37 (0, xi_load 0 2 38, 0, 0)) (x_L 38 (0, xi_push (0, 4, 4) 39, 0, 0)))))))
set_option maxRecDepth 20000 in
set_option maxHeartbeats 4000000 in
theorem tb_33_0_ok (K : xKx) (hK : x_KP K) : ∀ pc, x_EOq cls K xJ mq_33 pc (tb_33_0 pc) :=
  (x_Tok2
  (x_Tok2
  (x_Tok2
  (x_Tok2
  (x_Lok (x_st (I := xJ) (xr_aload_n (i := 0) (x_dk dl_33_0_ok 0 rfl))))
  (x_Lok (x_st (I := xJ) (xr_oi (ix := 1) (in_t9 (List.mem_of_getElem? (i := 85) rfl) rfl) (in_t1 (List.mem_of_getElem? (i := 27) rfl) rfl) (in_t1 (List.mem_of_getElem? (i := 28) rfl) rfl) (x_dk dl_33_0_ok 1 rfl)))))
  (x_Tok2
  (x_Lok (x_st (I := xJ) (xr_aload_n (i := 0) (x_dk dl_33_0_ok 2 rfl))))
  (x_Tok2
  (x_Lok (x_st (I := xJ) (xr_ldc (ix := 7) (z := 33060) (v := 33060) (x_dk dl_33_0_ok 3 rfl) (in_t9 (List.mem_of_getElem? (i := 86) rfl) rfl) (by decide))))
  (x_Lok (x_st (I := xJ) (xr_newa (kd := 1) (b := false) (ty := .int) rfl rfl (in_t1 (List.mem_of_getElem? (i := 64) rfl) rfl) (x_dk dl_33_0_ok 4 rfl)))))))
  (x_Tok2
  (x_Tok2
  (x_Lok (x_st (I := xJ) (xr_putF (ci := 12) (k := 0) (ix := 8) (N := 119) (fk := 2) (C := RX12) (T := TX12) (ty0 := tyX12) (ty := .array .int) rfl in_X12 tyX12_ok nmX12 (by decide) (in_t9 (List.mem_of_getElem? (i := 115) rfl) rfl) rfl rfl rfl rfl x_fit_arr (x_dk dl_33_0_ok 5 rfl))))
  (x_Lok (x_st (I := xJ) (xr_aload_n (i := 0) (x_dk dl_33_0_ok 6 rfl)))))
  (x_Tok2
  (x_Lok (x_st (I := xJ) (xr_ldc (ix := 7) (z := 33060) (v := 33060) (x_dk dl_33_0_ok 7 rfl) (in_t9 (List.mem_of_getElem? (i := 86) rfl) rfl) (by decide))))
  (x_Tok2
  (x_Lok (x_st (I := xJ) (xr_newa (kd := 1) (b := false) (ty := .int) rfl rfl (in_t1 (List.mem_of_getElem? (i := 64) rfl) rfl) (x_dk dl_33_0_ok 8 rfl))))
  (x_Lok (x_st (I := xJ) (xr_putF (ci := 12) (k := 1) (ix := 14) (N := 119) (fk := 2) (C := RX12) (T := TX12) (ty0 := tyX12) (ty := .array .int) rfl in_X12 tyX12_ok nmX12 (by decide) (in_t9 (List.mem_of_getElem? (i := 116) rfl) rfl) rfl rfl rfl rfl x_fit_arr (x_dk dl_33_0_ok 9 rfl))))))))
  (x_Tok2
  (x_Tok2
  (x_Tok2
  (x_Lok (x_st (I := xJ) (xr_aload_n (i := 0) (x_dk dl_33_0_ok 10 rfl))))
  (x_Lok (x_st (I := xJ) (xr_ldc (ix := 17) (z := 661200) (v := 661200) (x_dk dl_33_0_ok 11 rfl) (in_t9 (List.mem_of_getElem? (i := 87) rfl) rfl) (by decide)))))
  (x_Tok2
  (x_Lok (x_st (I := xJ) (xr_newa (kd := 1) (b := false) (ty := .int) rfl rfl (in_t1 (List.mem_of_getElem? (i := 64) rfl) rfl) (x_dk dl_33_0_ok 12 rfl))))
  (x_Tok2
  (x_Lok (x_st (I := xJ) (xr_putF (ci := 12) (k := 2) (ix := 18) (N := 119) (fk := 2) (C := RX12) (T := TX12) (ty0 := tyX12) (ty := .array .int) rfl in_X12 tyX12_ok nmX12 (by decide) (in_t9 (List.mem_of_getElem? (i := 117) rfl) rfl) rfl rfl rfl rfl x_fit_arr (x_dk dl_33_0_ok 13 rfl))))
  (x_Lok (x_st (I := xJ) (xr_aload_n (i := 0) (x_dk dl_33_0_ok 14 rfl)))))))
  (x_Tok2
  (x_Tok2
  (x_Lok (x_st (I := xJ) (xr_sipush (n := 8000) (z := 8000) (v := 8000) (x_dk dl_33_0_ok 15 rfl) (by decide) (by decide))))
  (x_Lok (x_st (I := xJ) (xr_newa (kd := 1) (b := false) (ty := .int) rfl rfl (in_t1 (List.mem_of_getElem? (i := 64) rfl) rfl) (x_dk dl_33_0_ok 16 rfl)))))
  (x_Tok2
  (x_Lok (x_st (I := xJ) (xr_putF (ci := 12) (k := 4) (ix := 21) (N := 119) (fk := 2) (C := RX12) (T := TX12) (ty0 := tyX12) (ty := .array .int) rfl in_X12 tyX12_ok nmX12 (by decide) (in_t9 (List.mem_of_getElem? (i := 119) rfl) rfl) rfl rfl rfl rfl x_fit_arr (x_dk dl_33_0_ok 17 rfl))))
  (x_Tok2
  (x_Lok (x_st (I := xJ) (xr_aload_n (i := 0) (x_dk dl_33_0_ok 18 rfl))))
  (x_Lok (x_st (I := xJ) (xr_iconst (n := 4) (z := 4) (v := 4) (x_dk dl_33_0_ok 19 rfl) (by decide) (by decide)))))))))
def tb_33_20 : Nat → xE := (x_T 57 (x_T 48 (x_T 41 (x_T 39 (x_L 39 (0, xi_newa 1 0 (0, 0, 0) (xm_c mq_33) (xm_s mq_33) 41, 0, 0)) (x_L 41 (0, xi_putf 12 7 2 44, 0, 0))) (x_T 44 (x_L 44 (0, xi_load 0 2 45, 0, 0)) (x_T 45 (x_L 45 (0, xi_push (0, 4000, 4000) 48, 0, 0)) (x_L 48 (0, xi_newa 2 0 (0, 0, 0) (xm_c mq_33) (xm_s mq_33) 50, 0, 0))))) (x_T 53 (x_T 50 (x_L 50 (0, xi_putf 12 8 2 53, 0, 0)) (x_L 53 (0, xi_load 0 2 54, 0, 0))) (x_T 54 (x_L 54 (0, xi_push (0, 4, 4) 55, 0, 0)) (x_T 55 (x_L 55 (0, xi_newa 1 0 (0, 0, 0) (xm_c mq_33) (xm_s mq_33) 57, 0, 0)) (x_L 57 (0, xi_putf 12 11 2 60, 0, 0)))))) (x_T 67 (x_T 61 (x_T 60 (x_L 60 (0, xi_load 0 2 61, 0, 0)) (x_L 61 (0, xi_push (0, 4, 4) 62, 0, 0))) (x_T 62 (x_L 62 (0, xi_newa 1 0 (0, 0, 0) (xm_c mq_33) (xm_s mq_33) 64, 0, 0)) (x_T 64 (x_L 64 (0, xi_putf 12 12 2 67, 0, 0)) (x_L 67 (0, xi_load 0 2 68, 0, 0))))) (x_T 71 (x_T 68 (x_L 68 (0, xi_push (0, 4, 4) 69, 0, 0)) (x_T 69 (x_L 69 (0, xi_newa 1 0 (0, 0, 0) (xm_c mq_33) (xm_s mq_33) 71, 0, 0)) (x_L 71 (0, xi_putf 12 13 2 74, 0, 0)))) (x_T 74 (x_L 74 (0, xi_load 0 2 75, 0, 0)) (x_T 75 (x_L 75 (0, xi_push (0, 4, 4) 76, 0, 0)) (x_L 76 (0, xi_newa 1 0 (0, 0, 0) (xm_c mq_33) (xm_s mq_33) 78, 0, 0)))))))
set_option maxRecDepth 20000 in
set_option maxHeartbeats 4000000 in
theorem tb_33_20_ok (K : xKx) (hK : x_KP K) : ∀ pc, x_EOq cls K xJ mq_33 pc (tb_33_20 pc) :=
  (x_Tok2
  (x_Tok2
  (x_Tok2
  (x_Tok2
  (x_Lok (x_st (I := xJ) (xr_newa (kd := 1) (b := false) (ty := .int) rfl rfl (in_t1 (List.mem_of_getElem? (i := 64) rfl) rfl) (x_dk dl_33_0_ok 20 rfl))))
  (x_Lok (x_st (I := xJ) (xr_putF (ci := 12) (k := 7) (ix := 24) (N := 119) (fk := 2) (C := RX12) (T := TX12) (ty0 := tyX12) (ty := .array .int) rfl in_X12 tyX12_ok nmX12 (by decide) (in_t9 (List.mem_of_getElem? (i := 122) rfl) rfl) rfl rfl rfl rfl x_fit_arr (x_dk dl_33_0_ok 21 rfl)))))
  (x_Tok2
  (x_Lok (x_st (I := xJ) (xr_aload_n (i := 0) (x_dk dl_33_0_ok 22 rfl))))
  (x_Tok2
  (x_Lok (x_st (I := xJ) (xr_sipush (n := 4000) (z := 4000) (v := 4000) (x_dk dl_33_0_ok 23 rfl) (by decide) (by decide))))
  (x_Lok (x_st (I := xJ) (xr_newa (kd := 2) (b := true) (ty := .byte) rfl rfl (in_t1 (List.mem_of_getElem? (i := 121) rfl) rfl) (x_dk dl_33_0_ok 24 rfl)))))))
  (x_Tok2
  (x_Tok2
  (x_Lok (x_st (I := xJ) (xr_putF (ci := 12) (k := 8) (ix := 27) (N := 119) (fk := 2) (C := RX12) (T := TX12) (ty0 := tyX12) (ty := .array .byte) rfl in_X12 tyX12_ok nmX12 (by decide) (in_t9 (List.mem_of_getElem? (i := 123) rfl) rfl) rfl rfl rfl rfl x_fit_arr (x_dk dl_33_0_ok 25 rfl))))
  (x_Lok (x_st (I := xJ) (xr_aload_n (i := 0) (x_dk dl_33_0_ok 26 rfl)))))
  (x_Tok2
  (x_Lok (x_st (I := xJ) (xr_iconst (n := 4) (z := 4) (v := 4) (x_dk dl_33_0_ok 27 rfl) (by decide) (by decide))))
  (x_Tok2
  (x_Lok (x_st (I := xJ) (xr_newa (kd := 1) (b := false) (ty := .int) rfl rfl (in_t1 (List.mem_of_getElem? (i := 64) rfl) rfl) (x_dk dl_33_0_ok 28 rfl))))
  (x_Lok (x_st (I := xJ) (xr_putF (ci := 12) (k := 11) (ix := 31) (N := 119) (fk := 2) (C := RX12) (T := TX12) (ty0 := tyX12) (ty := .array .int) rfl in_X12 tyX12_ok nmX12 (by decide) (in_t9 (List.mem_of_getElem? (i := 126) rfl) rfl) rfl rfl rfl rfl x_fit_arr (x_dk dl_33_0_ok 29 rfl))))))))
  (x_Tok2
  (x_Tok2
  (x_Tok2
  (x_Lok (x_st (I := xJ) (xr_aload_n (i := 0) (x_dk dl_33_0_ok 30 rfl))))
  (x_Lok (x_st (I := xJ) (xr_iconst (n := 4) (z := 4) (v := 4) (x_dk dl_33_0_ok 31 rfl) (by decide) (by decide)))))
  (x_Tok2
  (x_Lok (x_st (I := xJ) (xr_newa (kd := 1) (b := false) (ty := .int) rfl rfl (in_t1 (List.mem_of_getElem? (i := 64) rfl) rfl) (x_dk dl_33_0_ok 32 rfl))))
  (x_Tok2
  (x_Lok (x_st (I := xJ) (xr_putF (ci := 12) (k := 12) (ix := 34) (N := 119) (fk := 2) (C := RX12) (T := TX12) (ty0 := tyX12) (ty := .array .int) rfl in_X12 tyX12_ok nmX12 (by decide) (in_t9 (List.mem_of_getElem? (i := 127) rfl) rfl) rfl rfl rfl rfl x_fit_arr (x_dk dl_33_0_ok 33 rfl))))
  (x_Lok (x_st (I := xJ) (xr_aload_n (i := 0) (x_dk dl_33_0_ok 34 rfl)))))))
  (x_Tok2
  (x_Tok2
  (x_Lok (x_st (I := xJ) (xr_iconst (n := 4) (z := 4) (v := 4) (x_dk dl_33_0_ok 35 rfl) (by decide) (by decide))))
  (x_Tok2
  (x_Lok (x_st (I := xJ) (xr_newa (kd := 1) (b := false) (ty := .int) rfl rfl (in_t1 (List.mem_of_getElem? (i := 64) rfl) rfl) (x_dk dl_33_0_ok 36 rfl))))
  (x_Lok (x_st (I := xJ) (xr_putF (ci := 12) (k := 13) (ix := 37) (N := 119) (fk := 2) (C := RX12) (T := TX12) (ty0 := tyX12) (ty := .array .int) rfl in_X12 tyX12_ok nmX12 (by decide) (in_t9 (List.mem_of_getElem? (i := 128) rfl) rfl) rfl rfl rfl rfl x_fit_arr (x_dk dl_33_0_ok 37 rfl))))))
  (x_Tok2
  (x_Lok (x_st (I := xJ) (xr_aload_n (i := 0) (x_dk dl_33_0_ok 38 rfl))))
  (x_Tok2
  (x_Lok (x_st (I := xJ) (xr_iconst (n := 4) (z := 4) (v := 4) (x_dk dl_33_0_ok 39 rfl) (by decide) (by decide))))
  (x_Lok (x_st (I := xJ) (xr_newa (kd := 1) (b := false) (ty := .int) rfl rfl (in_t1 (List.mem_of_getElem? (i := 64) rfl) rfl) (x_dk dl_33_0_ok 40 rfl)))))))))
def tb_33_41 : Nat → xE := (x_T 96 (x_T 85 (x_T 81 (x_T 78 (x_L 78 (0, xi_putf 12 14 2 81, 0, 0)) (x_L 81 (0, xi_load 0 2 82, 0, 0))) (x_T 82 (x_L 82 (0, xi_push (0, 4, 4) 83, 0, 0)) (x_T 83 (x_L 83 (0, xi_newa 1 0 (0, 0, 0) (xm_c mq_33) (xm_s mq_33) 85, 0, 0)) (x_L 85 (0, xi_putf 12 15 2 88, 0, 0))))) (x_T 89 (x_T 88 (x_L 88 (0, xi_load 0 2 89, 0, 0)) (x_L 89 (0, xi_push (0, 24, 24) 91, 0, 0))) (x_T 91 (x_L 91 (0, xi_newa 1 0 (0, 0, 0) (xm_c mq_33) (xm_s mq_33) 93, 0, 0)) (x_T 93 (x_L 93 (0, xi_putf 12 16 2 96, 0, 0)) (x_L 96 (0, xi_load 0 2 97, 0, 0)))))) (x_T 105 (x_T 99 (x_T 97 (x_L 97 (0, xi_push (0, 24, 24) 99, 0, 0)) (x_L 99 (0, xi_newa 1 0 (0, 0, 0) (xm_c mq_33) (xm_s mq_33) 101, 0, 0))) (x_T 101 (x_L 101 (0, xi_putf 12 17 2 104, 0, 0)) (x_T 104 (x_L 104 (0, xi_load 0 2 105, 0, 0)) (x_L 105 (0, xi_push (0, 24, 24) 107, 0, 0))))) (x_T 109 (x_T 107 (x_L 107 (0, xi_newa 1 0 (0, 0, 0) (xm_c mq_33) (xm_s mq_33) 109, 0, 0)) (x_L 109 (0, xi_putf 12 18 2 112, 0, 0))) (x_T 112 (x_L 112 (0, xi_load 0 2 113, 0, 0)) (x_T 113 (x_L 113 (0, xi_push (0, 24, 24) 115, 0, 0)) (x_L 115 (0, xi_newa 1 0 (0, 0, 0) (xm_c mq_33) (xm_s mq_33) 117, 0, 0)))))))
set_option maxRecDepth 20000 in
set_option maxHeartbeats 4000000 in
theorem tb_33_41_ok (K : xKx) (hK : x_KP K) : ∀ pc, x_EOq cls K xJ mq_33 pc (tb_33_41 pc) :=
  (x_Tok2
  (x_Tok2
  (x_Tok2
  (x_Tok2
  (x_Lok (x_st (I := xJ) (xr_putF (ci := 12) (k := 14) (ix := 40) (N := 119) (fk := 2) (C := RX12) (T := TX12) (ty0 := tyX12) (ty := .array .int) rfl in_X12 tyX12_ok nmX12 (by decide) (in_t9 (List.mem_of_getElem? (i := 129) rfl) rfl) rfl rfl rfl rfl x_fit_arr (x_dk dl_33_0_ok 41 rfl))))
  (x_Lok (x_st (I := xJ) (xr_aload_n (i := 0) (x_dk dl_33_0_ok 42 rfl)))))
  (x_Tok2
  (x_Lok (x_st (I := xJ) (xr_iconst (n := 4) (z := 4) (v := 4) (x_dk dl_33_0_ok 43 rfl) (by decide) (by decide))))
  (x_Tok2
  (x_Lok (x_st (I := xJ) (xr_newa (kd := 1) (b := false) (ty := .int) rfl rfl (in_t1 (List.mem_of_getElem? (i := 64) rfl) rfl) (x_dk dl_33_0_ok 44 rfl))))
  (x_Lok (x_st (I := xJ) (xr_putF (ci := 12) (k := 15) (ix := 43) (N := 119) (fk := 2) (C := RX12) (T := TX12) (ty0 := tyX12) (ty := .array .int) rfl in_X12 tyX12_ok nmX12 (by decide) (in_t9 (List.mem_of_getElem? (i := 130) rfl) rfl) rfl rfl rfl rfl x_fit_arr (x_dk dl_33_0_ok 45 rfl)))))))
  (x_Tok2
  (x_Tok2
  (x_Lok (x_st (I := xJ) (xr_aload_n (i := 0) (x_dk dl_33_0_ok 46 rfl))))
  (x_Lok (x_st (I := xJ) (xr_bipush (n := 24) (z := 24) (v := 24) (x_dk dl_33_0_ok 47 rfl) (by decide) (by decide)))))
  (x_Tok2
  (x_Lok (x_st (I := xJ) (xr_newa (kd := 1) (b := false) (ty := .int) rfl rfl (in_t1 (List.mem_of_getElem? (i := 64) rfl) rfl) (x_dk dl_33_0_ok 48 rfl))))
  (x_Tok2
  (x_Lok (x_st (I := xJ) (xr_putF (ci := 12) (k := 16) (ix := 46) (N := 119) (fk := 2) (C := RX12) (T := TX12) (ty0 := tyX12) (ty := .array .int) rfl in_X12 tyX12_ok nmX12 (by decide) (in_t9 (List.mem_of_getElem? (i := 131) rfl) rfl) rfl rfl rfl rfl x_fit_arr (x_dk dl_33_0_ok 49 rfl))))
  (x_Lok (x_st (I := xJ) (xr_aload_n (i := 0) (x_dk dl_33_0_ok 50 rfl))))))))
  (x_Tok2
  (x_Tok2
  (x_Tok2
  (x_Lok (x_st (I := xJ) (xr_bipush (n := 24) (z := 24) (v := 24) (x_dk dl_33_0_ok 51 rfl) (by decide) (by decide))))
  (x_Lok (x_st (I := xJ) (xr_newa (kd := 1) (b := false) (ty := .int) rfl rfl (in_t1 (List.mem_of_getElem? (i := 64) rfl) rfl) (x_dk dl_33_0_ok 52 rfl)))))
  (x_Tok2
  (x_Lok (x_st (I := xJ) (xr_putF (ci := 12) (k := 17) (ix := 49) (N := 119) (fk := 2) (C := RX12) (T := TX12) (ty0 := tyX12) (ty := .array .int) rfl in_X12 tyX12_ok nmX12 (by decide) (in_t9 (List.mem_of_getElem? (i := 132) rfl) rfl) rfl rfl rfl rfl x_fit_arr (x_dk dl_33_0_ok 53 rfl))))
  (x_Tok2
  (x_Lok (x_st (I := xJ) (xr_aload_n (i := 0) (x_dk dl_33_0_ok 54 rfl))))
  (x_Lok (x_st (I := xJ) (xr_bipush (n := 24) (z := 24) (v := 24) (x_dk dl_33_0_ok 55 rfl) (by decide) (by decide)))))))
  (x_Tok2
  (x_Tok2
  (x_Lok (x_st (I := xJ) (xr_newa (kd := 1) (b := false) (ty := .int) rfl rfl (in_t1 (List.mem_of_getElem? (i := 64) rfl) rfl) (x_dk dl_33_0_ok 56 rfl))))
  (x_Lok (x_st (I := xJ) (xr_putF (ci := 12) (k := 18) (ix := 52) (N := 119) (fk := 2) (C := RX12) (T := TX12) (ty0 := tyX12) (ty := .array .int) rfl in_X12 tyX12_ok nmX12 (by decide) (in_t9 (List.mem_of_getElem? (i := 133) rfl) rfl) rfl rfl rfl rfl x_fit_arr (x_dk dl_33_0_ok 57 rfl)))))
  (x_Tok2
  (x_Lok (x_st (I := xJ) (xr_aload_n (i := 0) (x_dk dl_33_0_ok 58 rfl))))
  (x_Tok2
  (x_Lok (x_st (I := xJ) (xr_bipush (n := 24) (z := 24) (v := 24) (x_dk dl_33_0_ok 59 rfl) (by decide) (by decide))))
  (x_Lok (x_st (I := xJ) (xr_newa (kd := 1) (b := false) (ty := .int) rfl rfl (in_t1 (List.mem_of_getElem? (i := 64) rfl) rfl) (x_dk dl_33_0_ok 60 rfl)))))))))
def tb_33_61 : Nat → xE := (x_T 136 (x_T 125 (x_T 120 (x_T 117 (x_L 117 (0, xi_putf 12 19 2 120, 0, 0)) (x_L 120 (0, xi_load 0 2 121, 0, 0))) (x_T 121 (x_L 121 (0, xi_push (0, 24, 24) 123, 0, 0)) (x_T 123 (x_L 123 (0, xi_newa 1 0 (0, 0, 0) (xm_c mq_33) (xm_s mq_33) 125, 0, 0)) (x_L 125 (0, xi_putf 12 20 2 128, 0, 0))))) (x_T 129 (x_T 128 (x_L 128 (0, xi_load 0 2 129, 0, 0)) (x_L 129 (0, xi_push (0, 24, 24) 131, 0, 0))) (x_T 131 (x_L 131 (0, xi_newa 1 0 (0, 0, 0) (xm_c mq_33) (xm_s mq_33) 133, 0, 0)) (x_T 133 (x_L 133 (0, xi_putf 12 21 2 136, 0, 0)) (x_L 136 (0, xi_load 0 2 137, 0, 0)))))) (x_T 145 (x_T 139 (x_T 137 (x_L 137 (0, xi_push (0, 24, 24) 139, 0, 0)) (x_L 139 (0, xi_newa 1 0 (0, 0, 0) (xm_c mq_33) (xm_s mq_33) 141, 0, 0))) (x_T 141 (x_L 141 (0, xi_putf 12 22 2 144, 0, 0)) (x_T 144 (x_L 144 (0, xi_load 0 2 145, 0, 0)) (x_L 145 (0, xi_push (0, 16, 16) 147, 0, 0))))) (x_T 152 (x_T 147 (x_L 147 (0, xi_newa 3 0 (0, 0, 0) (xm_c mq_33) (xm_s mq_33) 149, 0, 0)) (x_T 149 (x_L 149 (0, xi_putf 12 24 2 152, 0, 0)) (x_L 152 (0, xi_load 0 2 153, 0, 0)))) (x_T 153 (x_L 153 (0, xi_push (0, 16, 16) 155, 0, 0)) (x_T 155 (x_L 155 (0, xi_newa 1 0 (0, 0, 0) (xm_c mq_33) (xm_s mq_33) 157, 0, 0)) (x_L 157 (0, xi_putf 12 25 2 160, 0, 0)))))))
set_option maxRecDepth 20000 in
set_option maxHeartbeats 4000000 in
theorem tb_33_61_ok (K : xKx) (hK : x_KP K) : ∀ pc, x_EOq cls K xJ mq_33 pc (tb_33_61 pc) :=
  (x_Tok2
  (x_Tok2
  (x_Tok2
  (x_Tok2
  (x_Lok (x_st (I := xJ) (xr_putF (ci := 12) (k := 19) (ix := 55) (N := 119) (fk := 2) (C := RX12) (T := TX12) (ty0 := tyX12) (ty := .array .int) rfl in_X12 tyX12_ok nmX12 (by decide) (in_t9 (List.mem_of_getElem? (i := 134) rfl) rfl) rfl rfl rfl rfl x_fit_arr (x_dk dl_33_0_ok 61 rfl))))
  (x_Lok (x_st (I := xJ) (xr_aload_n (i := 0) (x_dk dl_33_0_ok 62 rfl)))))
  (x_Tok2
  (x_Lok (x_st (I := xJ) (xr_bipush (n := 24) (z := 24) (v := 24) (x_dk dl_33_0_ok 63 rfl) (by decide) (by decide))))
  (x_Tok2
  (x_Lok (x_st (I := xJ) (xr_newa (kd := 1) (b := false) (ty := .int) rfl rfl (in_t1 (List.mem_of_getElem? (i := 64) rfl) rfl) (x_dk dl_33_0_ok 64 rfl))))
  (x_Lok (x_st (I := xJ) (xr_putF (ci := 12) (k := 20) (ix := 58) (N := 119) (fk := 2) (C := RX12) (T := TX12) (ty0 := tyX12) (ty := .array .int) rfl in_X12 tyX12_ok nmX12 (by decide) (in_t9 (List.mem_of_getElem? (i := 135) rfl) rfl) rfl rfl rfl rfl x_fit_arr (x_dk dl_33_0_ok 65 rfl)))))))
  (x_Tok2
  (x_Tok2
  (x_Lok (x_st (I := xJ) (xr_aload_n (i := 0) (x_dk dl_33_0_ok 66 rfl))))
  (x_Lok (x_st (I := xJ) (xr_bipush (n := 24) (z := 24) (v := 24) (x_dk dl_33_0_ok 67 rfl) (by decide) (by decide)))))
  (x_Tok2
  (x_Lok (x_st (I := xJ) (xr_newa (kd := 1) (b := false) (ty := .int) rfl rfl (in_t1 (List.mem_of_getElem? (i := 64) rfl) rfl) (x_dk dl_33_0_ok 68 rfl))))
  (x_Tok2
  (x_Lok (x_st (I := xJ) (xr_putF (ci := 12) (k := 21) (ix := 61) (N := 119) (fk := 2) (C := RX12) (T := TX12) (ty0 := tyX12) (ty := .array .int) rfl in_X12 tyX12_ok nmX12 (by decide) (in_t9 (List.mem_of_getElem? (i := 136) rfl) rfl) rfl rfl rfl rfl x_fit_arr (x_dk dl_33_0_ok 69 rfl))))
  (x_Lok (x_st (I := xJ) (xr_aload_n (i := 0) (x_dk dl_33_0_ok 70 rfl))))))))
  (x_Tok2
  (x_Tok2
  (x_Tok2
  (x_Lok (x_st (I := xJ) (xr_bipush (n := 24) (z := 24) (v := 24) (x_dk dl_33_0_ok 71 rfl) (by decide) (by decide))))
  (x_Lok (x_st (I := xJ) (xr_newa (kd := 1) (b := false) (ty := .int) rfl rfl (in_t1 (List.mem_of_getElem? (i := 64) rfl) rfl) (x_dk dl_33_0_ok 72 rfl)))))
  (x_Tok2
  (x_Lok (x_st (I := xJ) (xr_putF (ci := 12) (k := 22) (ix := 64) (N := 119) (fk := 2) (C := RX12) (T := TX12) (ty0 := tyX12) (ty := .array .int) rfl in_X12 tyX12_ok nmX12 (by decide) (in_t9 (List.mem_of_getElem? (i := 137) rfl) rfl) rfl rfl rfl rfl x_fit_arr (x_dk dl_33_0_ok 73 rfl))))
  (x_Tok2
  (x_Lok (x_st (I := xJ) (xr_aload_n (i := 0) (x_dk dl_33_0_ok 74 rfl))))
  (x_Lok (x_st (I := xJ) (xr_bipush (n := 16) (z := 16) (v := 16) (x_dk dl_33_0_ok 75 rfl) (by decide) (by decide)))))))
  (x_Tok2
  (x_Tok2
  (x_Lok (x_st (I := xJ) (xr_newa (kd := 3) (b := true) (ty := .boolean) rfl rfl (in_t1 (List.mem_of_getElem? (i := 166) rfl) rfl) (x_dk dl_33_0_ok 76 rfl))))
  (x_Tok2
  (x_Lok (x_st (I := xJ) (xr_putF (ci := 12) (k := 24) (ix := 67) (N := 119) (fk := 2) (C := RX12) (T := TX12) (ty0 := tyX12) (ty := .array .boolean) rfl in_X12 tyX12_ok nmX12 (by decide) (in_t9 (List.mem_of_getElem? (i := 139) rfl) rfl) rfl rfl rfl rfl x_fit_arr (x_dk dl_33_0_ok 77 rfl))))
  (x_Lok (x_st (I := xJ) (xr_aload_n (i := 0) (x_dk dl_33_0_ok 78 rfl))))))
  (x_Tok2
  (x_Lok (x_st (I := xJ) (xr_bipush (n := 16) (z := 16) (v := 16) (x_dk dl_33_0_ok 79 rfl) (by decide) (by decide))))
  (x_Tok2
  (x_Lok (x_st (I := xJ) (xr_newa (kd := 1) (b := false) (ty := .int) rfl rfl (in_t1 (List.mem_of_getElem? (i := 64) rfl) rfl) (x_dk dl_33_0_ok 80 rfl))))
  (x_Lok (x_st (I := xJ) (xr_putF (ci := 12) (k := 25) (ix := 71) (N := 119) (fk := 2) (C := RX12) (T := TX12) (ty0 := tyX12) (ty := .array .int) rfl in_X12 tyX12_ok nmX12 (by decide) (in_t9 (List.mem_of_getElem? (i := 140) rfl) rfl) rfl rfl rfl rfl x_fit_arr (x_dk dl_33_0_ok 81 rfl)))))))))
def tb_33_82 : Nat → xE := (x_T 177 (x_T 168 (x_T 161 (x_T 160 (x_L 160 (0, xi_load 0 2 161, 0, 0)) (x_L 161 (0, xi_push (0, 16, 16) 163, 0, 0))) (x_T 163 (x_L 163 (0, xi_newa 1 0 (0, 0, 0) (xm_c mq_33) (xm_s mq_33) 165, 0, 0)) (x_T 165 (x_L 165 (0, xi_putf 12 26 2 168, 0, 0)) (x_L 168 (0, xi_load 0 2 169, 0, 0))))) (x_T 171 (x_T 169 (x_L 169 (0, xi_push (0, 16, 16) 171, 0, 0)) (x_L 171 (0, xi_newa 1 0 (0, 0, 0) (xm_c mq_33) (xm_s mq_33) 173, 0, 0))) (x_T 173 (x_L 173 (0, xi_putf 12 27 2 176, 0, 0)) (x_T 176 (x_L 176 (0, xi_load 0 2 177, 0, 0)) (x_L 177 (0, xi_push (0, 16, 16) 179, 0, 0)))))) (x_T 188 (x_T 181 (x_T 179 (x_L 179 (0, xi_newa 1 0 (0, 0, 0) (xm_c mq_33) (xm_s mq_33) 181, 0, 0)) (x_L 181 (0, xi_putf 12 28 2 184, 0, 0))) (x_T 184 (x_L 184 (0, xi_load 0 2 185, 0, 0)) (x_T 185 (x_L 185 (0, xi_push (0, 448, 448) 188, 0, 0)) (x_L 188 (0, xi_newa 3 0 (0, 0, 0) (xm_c mq_33) (xm_s mq_33) 190, 0, 0))))) (x_T 193 (x_T 190 (x_L 190 (0, xi_putf 12 29 2 193, 0, 0)) (x_L 193 (0, xi_load 0 2 194, 0, 0))) (x_T 194 (x_L 194 (0, xi_push (0, 4, 4) 195, 0, 0)) (x_T 195 (x_L 195 (0, xi_newa 1 0 (0, 0, 0) (xm_c mq_33) (xm_s mq_33) 197, 0, 0)) (x_L 197 (0, xi_putf 12 31 2 200, 0, 0)))))))
set_option maxRecDepth 20000 in
set_option maxHeartbeats 4000000 in
theorem tb_33_82_ok (K : xKx) (hK : x_KP K) : ∀ pc, x_EOq cls K xJ mq_33 pc (tb_33_82 pc) :=
  (x_Tok2
  (x_Tok2
  (x_Tok2
  (x_Tok2
  (x_Lok (x_st (I := xJ) (xr_aload_n (i := 0) (x_dk dl_33_0_ok 82 rfl))))
  (x_Lok (x_st (I := xJ) (xr_bipush (n := 16) (z := 16) (v := 16) (x_dk dl_33_0_ok 83 rfl) (by decide) (by decide)))))
  (x_Tok2
  (x_Lok (x_st (I := xJ) (xr_newa (kd := 1) (b := false) (ty := .int) rfl rfl (in_t1 (List.mem_of_getElem? (i := 64) rfl) rfl) (x_dk dl_33_0_ok 84 rfl))))
  (x_Tok2
  (x_Lok (x_st (I := xJ) (xr_putF (ci := 12) (k := 26) (ix := 74) (N := 119) (fk := 2) (C := RX12) (T := TX12) (ty0 := tyX12) (ty := .array .int) rfl in_X12 tyX12_ok nmX12 (by decide) (in_t9 (List.mem_of_getElem? (i := 141) rfl) rfl) rfl rfl rfl rfl x_fit_arr (x_dk dl_33_0_ok 85 rfl))))
  (x_Lok (x_st (I := xJ) (xr_aload_n (i := 0) (x_dk dl_33_0_ok 86 rfl)))))))
  (x_Tok2
  (x_Tok2
  (x_Lok (x_st (I := xJ) (xr_bipush (n := 16) (z := 16) (v := 16) (x_dk dl_33_0_ok 87 rfl) (by decide) (by decide))))
  (x_Lok (x_st (I := xJ) (xr_newa (kd := 1) (b := false) (ty := .int) rfl rfl (in_t1 (List.mem_of_getElem? (i := 64) rfl) rfl) (x_dk dl_33_0_ok 88 rfl)))))
  (x_Tok2
  (x_Lok (x_st (I := xJ) (xr_putF (ci := 12) (k := 27) (ix := 77) (N := 119) (fk := 2) (C := RX12) (T := TX12) (ty0 := tyX12) (ty := .array .int) rfl in_X12 tyX12_ok nmX12 (by decide) (in_t9 (List.mem_of_getElem? (i := 142) rfl) rfl) rfl rfl rfl rfl x_fit_arr (x_dk dl_33_0_ok 89 rfl))))
  (x_Tok2
  (x_Lok (x_st (I := xJ) (xr_aload_n (i := 0) (x_dk dl_33_0_ok 90 rfl))))
  (x_Lok (x_st (I := xJ) (xr_bipush (n := 16) (z := 16) (v := 16) (x_dk dl_33_0_ok 91 rfl) (by decide) (by decide))))))))
  (x_Tok2
  (x_Tok2
  (x_Tok2
  (x_Lok (x_st (I := xJ) (xr_newa (kd := 1) (b := false) (ty := .int) rfl rfl (in_t1 (List.mem_of_getElem? (i := 64) rfl) rfl) (x_dk dl_33_0_ok 92 rfl))))
  (x_Lok (x_st (I := xJ) (xr_putF (ci := 12) (k := 28) (ix := 80) (N := 119) (fk := 2) (C := RX12) (T := TX12) (ty0 := tyX12) (ty := .array .int) rfl in_X12 tyX12_ok nmX12 (by decide) (in_t9 (List.mem_of_getElem? (i := 143) rfl) rfl) rfl rfl rfl rfl x_fit_arr (x_dk dl_33_0_ok 93 rfl)))))
  (x_Tok2
  (x_Lok (x_st (I := xJ) (xr_aload_n (i := 0) (x_dk dl_33_0_ok 94 rfl))))
  (x_Tok2
  (x_Lok (x_st (I := xJ) (xr_sipush (n := 448) (z := 448) (v := 448) (x_dk dl_33_0_ok 95 rfl) (by decide) (by decide))))
  (x_Lok (x_st (I := xJ) (xr_newa (kd := 3) (b := true) (ty := .boolean) rfl rfl (in_t1 (List.mem_of_getElem? (i := 166) rfl) rfl) (x_dk dl_33_0_ok 96 rfl)))))))
  (x_Tok2
  (x_Tok2
  (x_Lok (x_st (I := xJ) (xr_putF (ci := 12) (k := 29) (ix := 83) (N := 119) (fk := 2) (C := RX12) (T := TX12) (ty0 := tyX12) (ty := .array .boolean) rfl in_X12 tyX12_ok nmX12 (by decide) (in_t9 (List.mem_of_getElem? (i := 144) rfl) rfl) rfl rfl rfl rfl x_fit_arr (x_dk dl_33_0_ok 97 rfl))))
  (x_Lok (x_st (I := xJ) (xr_aload_n (i := 0) (x_dk dl_33_0_ok 98 rfl)))))
  (x_Tok2
  (x_Lok (x_st (I := xJ) (xr_iconst (n := 4) (z := 4) (v := 4) (x_dk dl_33_0_ok 99 rfl) (by decide) (by decide))))
  (x_Tok2
  (x_Lok (x_st (I := xJ) (xr_newa (kd := 1) (b := false) (ty := .int) rfl rfl (in_t1 (List.mem_of_getElem? (i := 64) rfl) rfl) (x_dk dl_33_1_ok 0 rfl))))
  (x_Lok (x_st (I := xJ) (xr_putF (ci := 12) (k := 31) (ix := 86) (N := 119) (fk := 2) (C := RX12) (T := TX12) (ty0 := tyX12) (ty := .array .int) rfl in_X12 tyX12_ok nmX12 (by decide) (in_t9 (List.mem_of_getElem? (i := 146) rfl) rfl) rfl rfl rfl rfl x_fit_arr (x_dk dl_33_1_ok 1 rfl)))))))))
def tb_33_102 : Nat → xE := (x_T 215 (x_T 207 (x_T 201 (x_T 200 (x_L 200 (0, xi_load 0 2 201, 0, 0)) (x_L 201 (0, xi_push (0, 4, 4) 202, 0, 0))) (x_T 202 (x_L 202 (0, xi_newa 1 0 (0, 0, 0) (xm_c mq_33) (xm_s mq_33) 204, 0, 0)) (x_T 204 (x_L 204 (0, xi_putf 12 32 2 207, 0, 0)) (x_L 207 (0, xi_load 0 2 208, 0, 0))))) (x_T 209 (x_T 208 (x_L 208 (0, xi_push (0, 4, 4) 209, 0, 0)) (x_L 209 (0, xi_newa 1 0 (0, 0, 0) (xm_c mq_33) (xm_s mq_33) 211, 0, 0))) (x_T 211 (x_L 211 (0, xi_putf 12 33 2 214, 0, 0)) (x_T 214 (x_L 214 (0, xi_load 0 2 215, 0, 0)) (x_L 215 (0, xi_push (0, 4, 4) 216, 0, 0)))))) (x_T 223 (x_T 218 (x_T 216 (x_L 216 (0, xi_newa 1 0 (0, 0, 0) (xm_c mq_33) (xm_s mq_33) 218, 0, 0)) (x_L 218 (0, xi_putf 12 34 2 221, 0, 0))) (x_T 221 (x_L 221 (0, xi_load 0 2 222, 0, 0)) (x_T 222 (x_L 222 (0, xi_push (0, 4, 4) 223, 0, 0)) (x_L 223 (0, xi_newa 1 0 (0, 0, 0) (xm_c mq_33) (xm_s mq_33) 225, 0, 0))))) (x_T 229 (x_T 225 (x_L 225 (0, xi_putf 12 35 2 228, 0, 0)) (x_T 228 (x_L 228 (0, xi_load 0 2 229, 0, 0)) (x_L 229 (0, xi_push (0, 4, 4) 230, 0, 0)))) (x_T 230 (x_L 230 (0, xi_newa 1 0 (0, 0, 0) (xm_c mq_33) (xm_s mq_33) 232, 0, 0)) (x_T 232 (x_L 232 (0, xi_putf 12 36 2 235, 0, 0)) (x_L 235 (0, xi_load 0 2 236, 0, 0)))))))
set_option maxRecDepth 20000 in
set_option maxHeartbeats 4000000 in
theorem tb_33_102_ok (K : xKx) (hK : x_KP K) : ∀ pc, x_EOq cls K xJ mq_33 pc (tb_33_102 pc) :=
  (x_Tok2
  (x_Tok2
  (x_Tok2
  (x_Tok2
  (x_Lok (x_st (I := xJ) (xr_aload_n (i := 0) (x_dk dl_33_1_ok 2 rfl))))
  (x_Lok (x_st (I := xJ) (xr_iconst (n := 4) (z := 4) (v := 4) (x_dk dl_33_1_ok 3 rfl) (by decide) (by decide)))))
  (x_Tok2
  (x_Lok (x_st (I := xJ) (xr_newa (kd := 1) (b := false) (ty := .int) rfl rfl (in_t1 (List.mem_of_getElem? (i := 64) rfl) rfl) (x_dk dl_33_1_ok 4 rfl))))
  (x_Tok2
  (x_Lok (x_st (I := xJ) (xr_putF (ci := 12) (k := 32) (ix := 89) (N := 119) (fk := 2) (C := RX12) (T := TX12) (ty0 := tyX12) (ty := .array .int) rfl in_X12 tyX12_ok nmX12 (by decide) (in_t9 (List.mem_of_getElem? (i := 147) rfl) rfl) rfl rfl rfl rfl x_fit_arr (x_dk dl_33_1_ok 5 rfl))))
  (x_Lok (x_st (I := xJ) (xr_aload_n (i := 0) (x_dk dl_33_1_ok 6 rfl)))))))
  (x_Tok2
  (x_Tok2
  (x_Lok (x_st (I := xJ) (xr_iconst (n := 4) (z := 4) (v := 4) (x_dk dl_33_1_ok 7 rfl) (by decide) (by decide))))
  (x_Lok (x_st (I := xJ) (xr_newa (kd := 1) (b := false) (ty := .int) rfl rfl (in_t1 (List.mem_of_getElem? (i := 64) rfl) rfl) (x_dk dl_33_1_ok 8 rfl)))))
  (x_Tok2
  (x_Lok (x_st (I := xJ) (xr_putF (ci := 12) (k := 33) (ix := 92) (N := 119) (fk := 2) (C := RX12) (T := TX12) (ty0 := tyX12) (ty := .array .int) rfl in_X12 tyX12_ok nmX12 (by decide) (in_t9 (List.mem_of_getElem? (i := 148) rfl) rfl) rfl rfl rfl rfl x_fit_arr (x_dk dl_33_1_ok 9 rfl))))
  (x_Tok2
  (x_Lok (x_st (I := xJ) (xr_aload_n (i := 0) (x_dk dl_33_1_ok 10 rfl))))
  (x_Lok (x_st (I := xJ) (xr_iconst (n := 4) (z := 4) (v := 4) (x_dk dl_33_1_ok 11 rfl) (by decide) (by decide))))))))
  (x_Tok2
  (x_Tok2
  (x_Tok2
  (x_Lok (x_st (I := xJ) (xr_newa (kd := 1) (b := false) (ty := .int) rfl rfl (in_t1 (List.mem_of_getElem? (i := 64) rfl) rfl) (x_dk dl_33_1_ok 12 rfl))))
  (x_Lok (x_st (I := xJ) (xr_putF (ci := 12) (k := 34) (ix := 95) (N := 119) (fk := 2) (C := RX12) (T := TX12) (ty0 := tyX12) (ty := .array .int) rfl in_X12 tyX12_ok nmX12 (by decide) (in_t9 (List.mem_of_getElem? (i := 149) rfl) rfl) rfl rfl rfl rfl x_fit_arr (x_dk dl_33_1_ok 13 rfl)))))
  (x_Tok2
  (x_Lok (x_st (I := xJ) (xr_aload_n (i := 0) (x_dk dl_33_1_ok 14 rfl))))
  (x_Tok2
  (x_Lok (x_st (I := xJ) (xr_iconst (n := 4) (z := 4) (v := 4) (x_dk dl_33_1_ok 15 rfl) (by decide) (by decide))))
  (x_Lok (x_st (I := xJ) (xr_newa (kd := 1) (b := false) (ty := .int) rfl rfl (in_t1 (List.mem_of_getElem? (i := 64) rfl) rfl) (x_dk dl_33_1_ok 16 rfl)))))))
  (x_Tok2
  (x_Tok2
  (x_Lok (x_st (I := xJ) (xr_putF (ci := 12) (k := 35) (ix := 98) (N := 119) (fk := 2) (C := RX12) (T := TX12) (ty0 := tyX12) (ty := .array .int) rfl in_X12 tyX12_ok nmX12 (by decide) (in_t9 (List.mem_of_getElem? (i := 150) rfl) rfl) rfl rfl rfl rfl x_fit_arr (x_dk dl_33_1_ok 17 rfl))))
  (x_Tok2
  (x_Lok (x_st (I := xJ) (xr_aload_n (i := 0) (x_dk dl_33_1_ok 18 rfl))))
  (x_Lok (x_st (I := xJ) (xr_iconst (n := 4) (z := 4) (v := 4) (x_dk dl_33_1_ok 19 rfl) (by decide) (by decide))))))
  (x_Tok2
  (x_Lok (x_st (I := xJ) (xr_newa (kd := 1) (b := false) (ty := .int) rfl rfl (in_t1 (List.mem_of_getElem? (i := 64) rfl) rfl) (x_dk dl_33_1_ok 20 rfl))))
  (x_Tok2
  (x_Lok (x_st (I := xJ) (xr_putF (ci := 12) (k := 36) (ix := 101) (N := 119) (fk := 2) (C := RX12) (T := TX12) (ty0 := tyX12) (ty := .array .int) rfl in_X12 tyX12_ok nmX12 (by decide) (in_t9 (List.mem_of_getElem? (i := 151) rfl) rfl) rfl rfl rfl rfl x_fit_arr (x_dk dl_33_1_ok 21 rfl))))
  (x_Lok (x_st (I := xJ) (xr_aload_n (i := 0) (x_dk dl_33_1_ok 22 rfl)))))))))
def tb_33_123 : Nat → xE := (x_T 251 (x_T 243 (x_T 237 (x_T 236 (x_L 236 (0, xi_push (0, 4, 4) 237, 0, 0)) (x_L 237 (0, xi_newa 1 0 (0, 0, 0) (xm_c mq_33) (xm_s mq_33) 239, 0, 0))) (x_T 239 (x_L 239 (0, xi_putf 12 37 2 242, 0, 0)) (x_T 242 (x_L 242 (0, xi_load 0 2 243, 0, 0)) (x_L 243 (0, xi_push (0, 4, 4) 244, 0, 0))))) (x_T 246 (x_T 244 (x_L 244 (0, xi_newa 1 0 (0, 0, 0) (xm_c mq_33) (xm_s mq_33) 246, 0, 0)) (x_L 246 (0, xi_putf 12 38 2 249, 0, 0))) (x_T 249 (x_L 249 (0, xi_load 0 2 250, 0, 0)) (x_T 250 (x_L 250 (0, xi_push (0, 4, 4) 251, 0, 0)) (x_L 251 (0, xi_newa 1 0 (0, 0, 0) (xm_c mq_33) (xm_s mq_33) 253, 0, 0)))))) (x_T 261 (x_T 256 (x_T 253 (x_L 253 (0, xi_putf 12 39 2 256, 0, 0)) (x_L 256 (0, xi_load 0 2 257, 0, 0))) (x_T 257 (x_L 257 (0, xi_push (0, 32, 32) 259, 0, 0)) (x_T 259 (x_L 259 (0, xi_newa 1 0 (0, 0, 0) (xm_c mq_33) (xm_s mq_33) 261, 0, 0)) (x_L 261 (0, xi_putf 12 41 2 264, 0, 0))))) (x_T 267 (x_T 264 (x_L 264 (0, xi_load 0 2 265, 0, 0)) (x_T 265 (x_L 265 (0, xi_push (0, 8, 8) 267, 0, 0)) (x_L 267 (0, xi_newa 1 0 (0, 0, 0) (xm_c mq_33) (xm_s mq_33) 269, 0, 0)))) (x_T 269 (x_L 269 (0, xi_putf 12 43 2 272, 0, 0)) (x_T 272 (x_L 272 (0, xi_load 0 2 273, 0, 0)) (x_L 273 (0, xi_push (0, 8, 8) 275, 0, 0)))))))
set_option maxRecDepth 20000 in
set_option maxHeartbeats 4000000 in
theorem tb_33_123_ok (K : xKx) (hK : x_KP K) : ∀ pc, x_EOq cls K xJ mq_33 pc (tb_33_123 pc) :=
  (x_Tok2
  (x_Tok2
  (x_Tok2
  (x_Tok2
  (x_Lok (x_st (I := xJ) (xr_iconst (n := 4) (z := 4) (v := 4) (x_dk dl_33_1_ok 23 rfl) (by decide) (by decide))))
  (x_Lok (x_st (I := xJ) (xr_newa (kd := 1) (b := false) (ty := .int) rfl rfl (in_t1 (List.mem_of_getElem? (i := 64) rfl) rfl) (x_dk dl_33_1_ok 24 rfl)))))
  (x_Tok2
  (x_Lok (x_st (I := xJ) (xr_putF (ci := 12) (k := 37) (ix := 104) (N := 119) (fk := 2) (C := RX12) (T := TX12) (ty0 := tyX12) (ty := .array .int) rfl in_X12 tyX12_ok nmX12 (by decide) (in_t9 (List.mem_of_getElem? (i := 152) rfl) rfl) rfl rfl rfl rfl x_fit_arr (x_dk dl_33_1_ok 25 rfl))))
  (x_Tok2
  (x_Lok (x_st (I := xJ) (xr_aload_n (i := 0) (x_dk dl_33_1_ok 26 rfl))))
  (x_Lok (x_st (I := xJ) (xr_iconst (n := 4) (z := 4) (v := 4) (x_dk dl_33_1_ok 27 rfl) (by decide) (by decide)))))))
  (x_Tok2
  (x_Tok2
  (x_Lok (x_st (I := xJ) (xr_newa (kd := 1) (b := false) (ty := .int) rfl rfl (in_t1 (List.mem_of_getElem? (i := 64) rfl) rfl) (x_dk dl_33_1_ok 28 rfl))))
  (x_Lok (x_st (I := xJ) (xr_putF (ci := 12) (k := 38) (ix := 107) (N := 119) (fk := 2) (C := RX12) (T := TX12) (ty0 := tyX12) (ty := .array .int) rfl in_X12 tyX12_ok nmX12 (by decide) (in_t9 (List.mem_of_getElem? (i := 153) rfl) rfl) rfl rfl rfl rfl x_fit_arr (x_dk dl_33_1_ok 29 rfl)))))
  (x_Tok2
  (x_Lok (x_st (I := xJ) (xr_aload_n (i := 0) (x_dk dl_33_1_ok 30 rfl))))
  (x_Tok2
  (x_Lok (x_st (I := xJ) (xr_iconst (n := 4) (z := 4) (v := 4) (x_dk dl_33_1_ok 31 rfl) (by decide) (by decide))))
  (x_Lok (x_st (I := xJ) (xr_newa (kd := 1) (b := false) (ty := .int) rfl rfl (in_t1 (List.mem_of_getElem? (i := 64) rfl) rfl) (x_dk dl_33_1_ok 32 rfl))))))))
  (x_Tok2
  (x_Tok2
  (x_Tok2
  (x_Lok (x_st (I := xJ) (xr_putF (ci := 12) (k := 39) (ix := 110) (N := 119) (fk := 2) (C := RX12) (T := TX12) (ty0 := tyX12) (ty := .array .int) rfl in_X12 tyX12_ok nmX12 (by decide) (in_t9 (List.mem_of_getElem? (i := 154) rfl) rfl) rfl rfl rfl rfl x_fit_arr (x_dk dl_33_1_ok 33 rfl))))
  (x_Lok (x_st (I := xJ) (xr_aload_n (i := 0) (x_dk dl_33_1_ok 34 rfl)))))
  (x_Tok2
  (x_Lok (x_st (I := xJ) (xr_bipush (n := 32) (z := 32) (v := 32) (x_dk dl_33_1_ok 35 rfl) (by decide) (by decide))))
  (x_Tok2
  (x_Lok (x_st (I := xJ) (xr_newa (kd := 1) (b := false) (ty := .int) rfl rfl (in_t1 (List.mem_of_getElem? (i := 64) rfl) rfl) (x_dk dl_33_1_ok 36 rfl))))
  (x_Lok (x_st (I := xJ) (xr_putF (ci := 12) (k := 41) (ix := 113) (N := 119) (fk := 2) (C := RX12) (T := TX12) (ty0 := tyX12) (ty := .array .int) rfl in_X12 tyX12_ok nmX12 (by decide) (in_t9 (List.mem_of_getElem? (i := 156) rfl) rfl) rfl rfl rfl rfl x_fit_arr (x_dk dl_33_1_ok 37 rfl)))))))
  (x_Tok2
  (x_Tok2
  (x_Lok (x_st (I := xJ) (xr_aload_n (i := 0) (x_dk dl_33_1_ok 38 rfl))))
  (x_Tok2
  (x_Lok (x_st (I := xJ) (xr_bipush (n := 8) (z := 8) (v := 8) (x_dk dl_33_1_ok 39 rfl) (by decide) (by decide))))
  (x_Lok (x_st (I := xJ) (xr_newa (kd := 1) (b := false) (ty := .int) rfl rfl (in_t1 (List.mem_of_getElem? (i := 64) rfl) rfl) (x_dk dl_33_1_ok 40 rfl))))))
  (x_Tok2
  (x_Lok (x_st (I := xJ) (xr_putF (ci := 12) (k := 43) (ix := 116) (N := 119) (fk := 2) (C := RX12) (T := TX12) (ty0 := tyX12) (ty := .array .int) rfl in_X12 tyX12_ok nmX12 (by decide) (in_t9 (List.mem_of_getElem? (i := 158) rfl) rfl) rfl rfl rfl rfl x_fit_arr (x_dk dl_33_1_ok 41 rfl))))
  (x_Tok2
  (x_Lok (x_st (I := xJ) (xr_aload_n (i := 0) (x_dk dl_33_1_ok 42 rfl))))
  (x_Lok (x_st (I := xJ) (xr_bipush (n := 8) (z := 8) (v := 8) (x_dk dl_33_1_ok 43 rfl) (by decide) (by decide)))))))))
def tb_33_144 : Nat → xE := (x_T 293 (x_T 283 (x_T 277 (x_T 275 (x_L 275 (0, xi_newa 1 0 (0, 0, 0) (xm_c mq_33) (xm_s mq_33) 277, 0, 0)) (x_L 277 (0, xi_putf 12 44 2 280, 0, 0))) (x_T 280 (x_L 280 (0, xi_load 0 2 281, 0, 0)) (x_T 281 (x_L 281 (0, xi_push (0, 8, 8) 283, 0, 0)) (x_L 283 (0, xi_newa 1 0 (0, 0, 0) (xm_c mq_33) (xm_s mq_33) 285, 0, 0))))) (x_T 288 (x_T 285 (x_L 285 (0, xi_putf 12 45 2 288, 0, 0)) (x_L 288 (0, xi_load 0 2 289, 0, 0))) (x_T 289 (x_L 289 (0, xi_push (0, 8, 8) 291, 0, 0)) (x_T 291 (x_L 291 (0, xi_newa 1 0 (0, 0, 0) (xm_c mq_33) (xm_s mq_33) 293, 0, 0)) (x_L 293 (0, xi_putf 12 46 2 296, 0, 0)))))) (x_T 304 (x_T 297 (x_T 296 (x_L 296 (0, xi_load 0 2 297, 0, 0)) (x_L 297 (0, xi_push (0, 8, 8) 299, 0, 0))) (x_T 299 (x_L 299 (0, xi_newa 1 0 (0, 0, 0) (xm_c mq_33) (xm_s mq_33) 301, 0, 0)) (x_T 301 (x_L 301 (0, xi_putf 12 47 2 304, 0, 0)) (x_L 304 (0, xi_load 0 2 305, 0, 0))))) (x_T 309 (x_T 305 (x_L 305 (0, xi_push (0, 8, 8) 307, 0, 0)) (x_T 307 (x_L 307 (0, xi_newa 1 0 (0, 0, 0) (xm_c mq_33) (xm_s mq_33) 309, 0, 0)) (x_L 309 (0, xi_putf 12 48 2 312, 0, 0)))) (x_T 312 (x_L 312 (0, xi_load 0 2 313, 0, 0)) (x_T 313 (x_L 313 (0, xi_push (0, 8, 8) 315, 0, 0)) (x_L 315 (0, xi_newa 1 0 (0, 0, 0) (xm_c mq_33) (xm_s mq_33) 317, 0, 0)))))))
set_option maxRecDepth 20000 in
set_option maxHeartbeats 4000000 in
theorem tb_33_144_ok (K : xKx) (hK : x_KP K) : ∀ pc, x_EOq cls K xJ mq_33 pc (tb_33_144 pc) :=
  (x_Tok2
  (x_Tok2
  (x_Tok2
  (x_Tok2
  (x_Lok (x_st (I := xJ) (xr_newa (kd := 1) (b := false) (ty := .int) rfl rfl (in_t1 (List.mem_of_getElem? (i := 64) rfl) rfl) (x_dk dl_33_1_ok 44 rfl))))
  (x_Lok (x_st (I := xJ) (xr_putF (ci := 12) (k := 44) (ix := 119) (N := 119) (fk := 2) (C := RX12) (T := TX12) (ty0 := tyX12) (ty := .array .int) rfl in_X12 tyX12_ok nmX12 (by decide) (in_t9 (List.mem_of_getElem? (i := 159) rfl) rfl) rfl rfl rfl rfl x_fit_arr (x_dk dl_33_1_ok 45 rfl)))))
  (x_Tok2
  (x_Lok (x_st (I := xJ) (xr_aload_n (i := 0) (x_dk dl_33_1_ok 46 rfl))))
  (x_Tok2
  (x_Lok (x_st (I := xJ) (xr_bipush (n := 8) (z := 8) (v := 8) (x_dk dl_33_1_ok 47 rfl) (by decide) (by decide))))
  (x_Lok (x_st (I := xJ) (xr_newa (kd := 1) (b := false) (ty := .int) rfl rfl (in_t1 (List.mem_of_getElem? (i := 64) rfl) rfl) (x_dk dl_33_1_ok 48 rfl)))))))
  (x_Tok2
  (x_Tok2
  (x_Lok (x_st (I := xJ) (xr_putF (ci := 12) (k := 45) (ix := 122) (N := 119) (fk := 2) (C := RX12) (T := TX12) (ty0 := tyX12) (ty := .array .int) rfl in_X12 tyX12_ok nmX12 (by decide) (in_t9 (List.mem_of_getElem? (i := 160) rfl) rfl) rfl rfl rfl rfl x_fit_arr (x_dk dl_33_1_ok 49 rfl))))
  (x_Lok (x_st (I := xJ) (xr_aload_n (i := 0) (x_dk dl_33_1_ok 50 rfl)))))
  (x_Tok2
  (x_Lok (x_st (I := xJ) (xr_bipush (n := 8) (z := 8) (v := 8) (x_dk dl_33_1_ok 51 rfl) (by decide) (by decide))))
  (x_Tok2
  (x_Lok (x_st (I := xJ) (xr_newa (kd := 1) (b := false) (ty := .int) rfl rfl (in_t1 (List.mem_of_getElem? (i := 64) rfl) rfl) (x_dk dl_33_1_ok 52 rfl))))
  (x_Lok (x_st (I := xJ) (xr_putF (ci := 12) (k := 46) (ix := 125) (N := 119) (fk := 2) (C := RX12) (T := TX12) (ty0 := tyX12) (ty := .array .int) rfl in_X12 tyX12_ok nmX12 (by decide) (in_t9 (List.mem_of_getElem? (i := 161) rfl) rfl) rfl rfl rfl rfl x_fit_arr (x_dk dl_33_1_ok 53 rfl))))))))
  (x_Tok2
  (x_Tok2
  (x_Tok2
  (x_Lok (x_st (I := xJ) (xr_aload_n (i := 0) (x_dk dl_33_1_ok 54 rfl))))
  (x_Lok (x_st (I := xJ) (xr_bipush (n := 8) (z := 8) (v := 8) (x_dk dl_33_1_ok 55 rfl) (by decide) (by decide)))))
  (x_Tok2
  (x_Lok (x_st (I := xJ) (xr_newa (kd := 1) (b := false) (ty := .int) rfl rfl (in_t1 (List.mem_of_getElem? (i := 64) rfl) rfl) (x_dk dl_33_1_ok 56 rfl))))
  (x_Tok2
  (x_Lok (x_st (I := xJ) (xr_putF (ci := 12) (k := 47) (ix := 128) (N := 119) (fk := 2) (C := RX12) (T := TX12) (ty0 := tyX12) (ty := .array .int) rfl in_X12 tyX12_ok nmX12 (by decide) (in_t9 (List.mem_of_getElem? (i := 162) rfl) rfl) rfl rfl rfl rfl x_fit_arr (x_dk dl_33_1_ok 57 rfl))))
  (x_Lok (x_st (I := xJ) (xr_aload_n (i := 0) (x_dk dl_33_1_ok 58 rfl)))))))
  (x_Tok2
  (x_Tok2
  (x_Lok (x_st (I := xJ) (xr_bipush (n := 8) (z := 8) (v := 8) (x_dk dl_33_1_ok 59 rfl) (by decide) (by decide))))
  (x_Tok2
  (x_Lok (x_st (I := xJ) (xr_newa (kd := 1) (b := false) (ty := .int) rfl rfl (in_t1 (List.mem_of_getElem? (i := 64) rfl) rfl) (x_dk dl_33_1_ok 60 rfl))))
  (x_Lok (x_st (I := xJ) (xr_putF (ci := 12) (k := 48) (ix := 131) (N := 119) (fk := 2) (C := RX12) (T := TX12) (ty0 := tyX12) (ty := .array .int) rfl in_X12 tyX12_ok nmX12 (by decide) (in_t9 (List.mem_of_getElem? (i := 163) rfl) rfl) rfl rfl rfl rfl x_fit_arr (x_dk dl_33_1_ok 61 rfl))))))
  (x_Tok2
  (x_Lok (x_st (I := xJ) (xr_aload_n (i := 0) (x_dk dl_33_1_ok 62 rfl))))
  (x_Tok2
  (x_Lok (x_st (I := xJ) (xr_bipush (n := 8) (z := 8) (v := 8) (x_dk dl_33_1_ok 63 rfl) (by decide) (by decide))))
  (x_Lok (x_st (I := xJ) (xr_newa (kd := 1) (b := false) (ty := .int) rfl rfl (in_t1 (List.mem_of_getElem? (i := 64) rfl) rfl) (x_dk dl_33_1_ok 64 rfl)))))))))
def tb_33_165 : Nat → xE := (x_T 336 (x_T 325 (x_T 320 (x_T 317 (x_L 317 (0, xi_putf 12 50 2 320, 0, 0)) (x_L 320 (0, xi_load 0 2 321, 0, 0))) (x_T 321 (x_L 321 (0, xi_push (0, 8, 8) 323, 0, 0)) (x_T 323 (x_L 323 (0, xi_newa 3 0 (0, 0, 0) (xm_c mq_33) (xm_s mq_33) 325, 0, 0)) (x_L 325 (0, xi_putf 12 51 2 328, 0, 0))))) (x_T 329 (x_T 328 (x_L 328 (0, xi_load 0 2 329, 0, 0)) (x_L 329 (0, xi_push (0, 64, 64) 331, 0, 0))) (x_T 331 (x_L 331 (0, xi_newa 1 0 (0, 0, 0) (xm_c mq_33) (xm_s mq_33) 333, 0, 0)) (x_T 333 (x_L 333 (0, xi_putf 12 52 2 336, 0, 0)) (x_L 336 (0, xi_load 0 2 337, 0, 0)))))) (x_T 345 (x_T 339 (x_T 337 (x_L 337 (0, xi_push (0, 64, 64) 339, 0, 0)) (x_L 339 (0, xi_newa 3 0 (0, 0, 0) (xm_c mq_33) (xm_s mq_33) 341, 0, 0))) (x_T 341 (x_L 341 (0, xi_putf 12 53 2 344, 0, 0)) (x_T 344 (x_L 344 (0, xi_load 0 2 345, 0, 0)) (x_L 345 (0, xi_push (0, 1025, 1025) 348, 0, 0))))) (x_T 350 (x_T 348 (x_L 348 (0, xi_newa 1 0 (0, 0, 0) (xm_c mq_33) (xm_s mq_33) 350, 0, 0)) (x_L 350 (0, xi_putf 12 54 2 353, 0, 0))) (x_T 353 (x_L 353 (0, xi_load 0 2 354, 0, 0)) (x_T 354 (x_L 354 (0, xi_push (0, 35, 35) 356, 0, 0)) (x_L 356 (0, xi_newa 1 0 (0, 0, 0) (xm_c mq_33) (xm_s mq_33) 358, 0, 0)))))))
set_option maxRecDepth 20000 in
set_option maxHeartbeats 4000000 in
theorem tb_33_165_ok (K : xKx) (hK : x_KP K) : ∀ pc, x_EOq cls K xJ mq_33 pc (tb_33_165 pc) :=
  (x_Tok2
  (x_Tok2
  (x_Tok2
  (x_Tok2
  (x_Lok (x_st (I := xJ) (xr_putF (ci := 12) (k := 50) (ix := 134) (N := 119) (fk := 2) (C := RX12) (T := TX12) (ty0 := tyX12) (ty := .array .int) rfl in_X12 tyX12_ok nmX12 (by decide) (in_t9 (List.mem_of_getElem? (i := 165) rfl) rfl) rfl rfl rfl rfl x_fit_arr (x_dk dl_33_1_ok 65 rfl))))
  (x_Lok (x_st (I := xJ) (xr_aload_n (i := 0) (x_dk dl_33_1_ok 66 rfl)))))
  (x_Tok2
  (x_Lok (x_st (I := xJ) (xr_bipush (n := 8) (z := 8) (v := 8) (x_dk dl_33_1_ok 67 rfl) (by decide) (by decide))))
  (x_Tok2
  (x_Lok (x_st (I := xJ) (xr_newa (kd := 3) (b := true) (ty := .boolean) rfl rfl (in_t1 (List.mem_of_getElem? (i := 166) rfl) rfl) (x_dk dl_33_1_ok 68 rfl))))
  (x_Lok (x_st (I := xJ) (xr_putF (ci := 12) (k := 51) (ix := 137) (N := 119) (fk := 2) (C := RX12) (T := TX12) (ty0 := tyX12) (ty := .array .boolean) rfl in_X12 tyX12_ok nmX12 (by decide) (in_t9 (List.mem_of_getElem? (i := 166) rfl) rfl) rfl rfl rfl rfl x_fit_arr (x_dk dl_33_1_ok 69 rfl)))))))
  (x_Tok2
  (x_Tok2
  (x_Lok (x_st (I := xJ) (xr_aload_n (i := 0) (x_dk dl_33_1_ok 70 rfl))))
  (x_Lok (x_st (I := xJ) (xr_bipush (n := 64) (z := 64) (v := 64) (x_dk dl_33_1_ok 71 rfl) (by decide) (by decide)))))
  (x_Tok2
  (x_Lok (x_st (I := xJ) (xr_newa (kd := 1) (b := false) (ty := .int) rfl rfl (in_t1 (List.mem_of_getElem? (i := 64) rfl) rfl) (x_dk dl_33_1_ok 72 rfl))))
  (x_Tok2
  (x_Lok (x_st (I := xJ) (xr_putF (ci := 12) (k := 52) (ix := 140) (N := 119) (fk := 2) (C := RX12) (T := TX12) (ty0 := tyX12) (ty := .array .int) rfl in_X12 tyX12_ok nmX12 (by decide) (in_t9 (List.mem_of_getElem? (i := 167) rfl) rfl) rfl rfl rfl rfl x_fit_arr (x_dk dl_33_1_ok 73 rfl))))
  (x_Lok (x_st (I := xJ) (xr_aload_n (i := 0) (x_dk dl_33_1_ok 74 rfl))))))))
  (x_Tok2
  (x_Tok2
  (x_Tok2
  (x_Lok (x_st (I := xJ) (xr_bipush (n := 64) (z := 64) (v := 64) (x_dk dl_33_1_ok 75 rfl) (by decide) (by decide))))
  (x_Lok (x_st (I := xJ) (xr_newa (kd := 3) (b := true) (ty := .boolean) rfl rfl (in_t1 (List.mem_of_getElem? (i := 166) rfl) rfl) (x_dk dl_33_1_ok 76 rfl)))))
  (x_Tok2
  (x_Lok (x_st (I := xJ) (xr_putF (ci := 12) (k := 53) (ix := 143) (N := 119) (fk := 2) (C := RX12) (T := TX12) (ty0 := tyX12) (ty := .array .boolean) rfl in_X12 tyX12_ok nmX12 (by decide) (in_t9 (List.mem_of_getElem? (i := 168) rfl) rfl) rfl rfl rfl rfl x_fit_arr (x_dk dl_33_1_ok 77 rfl))))
  (x_Tok2
  (x_Lok (x_st (I := xJ) (xr_aload_n (i := 0) (x_dk dl_33_1_ok 78 rfl))))
  (x_Lok (x_st (I := xJ) (xr_sipush (n := 1025) (z := 1025) (v := 1025) (x_dk dl_33_1_ok 79 rfl) (by decide) (by decide)))))))
  (x_Tok2
  (x_Tok2
  (x_Lok (x_st (I := xJ) (xr_newa (kd := 1) (b := false) (ty := .int) rfl rfl (in_t1 (List.mem_of_getElem? (i := 64) rfl) rfl) (x_dk dl_33_1_ok 80 rfl))))
  (x_Lok (x_st (I := xJ) (xr_putF (ci := 12) (k := 54) (ix := 146) (N := 119) (fk := 2) (C := RX12) (T := TX12) (ty0 := tyX12) (ty := .array .int) rfl in_X12 tyX12_ok nmX12 (by decide) (in_t9 (List.mem_of_getElem? (i := 169) rfl) rfl) rfl rfl rfl rfl x_fit_arr (x_dk dl_33_1_ok 81 rfl)))))
  (x_Tok2
  (x_Lok (x_st (I := xJ) (xr_aload_n (i := 0) (x_dk dl_33_1_ok 82 rfl))))
  (x_Tok2
  (x_Lok (x_st (I := xJ) (xr_bipush (n := 35) (z := 35) (v := 35) (x_dk dl_33_1_ok 83 rfl) (by decide) (by decide))))
  (x_Lok (x_st (I := xJ) (xr_newa (kd := 1) (b := false) (ty := .int) rfl rfl (in_t1 (List.mem_of_getElem? (i := 64) rfl) rfl) (x_dk dl_33_1_ok 84 rfl)))))))))
def tb_33_185 : Nat → xE := (x_T 377 (x_T 366 (x_T 361 (x_T 358 (x_L 358 (0, xi_putf 12 55 2 361, 0, 0)) (x_L 361 (0, xi_load 0 2 362, 0, 0))) (x_T 362 (x_L 362 (0, xi_push (0, 35, 35) 364, 0, 0)) (x_T 364 (x_L 364 (0, xi_newa 1 0 (0, 0, 0) (xm_c mq_33) (xm_s mq_33) 366, 0, 0)) (x_L 366 (0, xi_putf 12 56 2 369, 0, 0))))) (x_T 370 (x_T 369 (x_L 369 (0, xi_load 0 2 370, 0, 0)) (x_L 370 (0, xi_push (0, 6, 6) 372, 0, 0))) (x_T 372 (x_L 372 (0, xi_newa 1 0 (0, 0, 0) (xm_c mq_33) (xm_s mq_33) 374, 0, 0)) (x_T 374 (x_L 374 (0, xi_putf 12 57 2 377, 0, 0)) (x_L 377 (0, xi_load 0 2 378, 0, 0)))))) (x_T 385 (x_T 379 (x_T 378 (x_L 378 (0, xi_push (0, 4, 4) 379, 0, 0)) (x_L 379 (0, xi_newa 1 0 (0, 0, 0) (xm_c mq_33) (xm_s mq_33) 381, 0, 0))) (x_T 381 (x_L 381 (0, xi_putf 12 61 2 384, 0, 0)) (x_T 384 (x_L 384 (0, xi_load 0 2 385, 0, 0)) (x_L 385 (0, xi_push (0, 4, 4) 386, 0, 0))))) (x_T 391 (x_T 386 (x_L 386 (0, xi_newa 1 0 (0, 0, 0) (xm_c mq_33) (xm_s mq_33) 388, 0, 0)) (x_T 388 (x_L 388 (0, xi_putf 12 62 2 391, 0, 0)) (x_L 391 (0, xi_load 0 2 392, 0, 0)))) (x_T 392 (x_L 392 (0, xi_push (0, 65, 65) 394, 0, 0)) (x_T 394 (x_L 394 (0, xi_newa 1 0 (0, 0, 0) (xm_c mq_33) (xm_s mq_33) 396, 0, 0)) (x_L 396 (0, xi_putf 12 63 2 399, 0, 0)))))))
set_option maxRecDepth 20000 in
set_option maxHeartbeats 4000000 in
theorem tb_33_185_ok (K : xKx) (hK : x_KP K) : ∀ pc, x_EOq cls K xJ mq_33 pc (tb_33_185 pc) :=
  (x_Tok2
  (x_Tok2
  (x_Tok2
  (x_Tok2
  (x_Lok (x_st (I := xJ) (xr_putF (ci := 12) (k := 55) (ix := 149) (N := 119) (fk := 2) (C := RX12) (T := TX12) (ty0 := tyX12) (ty := .array .int) rfl in_X12 tyX12_ok nmX12 (by decide) (in_t9 (List.mem_of_getElem? (i := 170) rfl) rfl) rfl rfl rfl rfl x_fit_arr (x_dk dl_33_1_ok 85 rfl))))
  (x_Lok (x_st (I := xJ) (xr_aload_n (i := 0) (x_dk dl_33_1_ok 86 rfl)))))
  (x_Tok2
  (x_Lok (x_st (I := xJ) (xr_bipush (n := 35) (z := 35) (v := 35) (x_dk dl_33_1_ok 87 rfl) (by decide) (by decide))))
  (x_Tok2
  (x_Lok (x_st (I := xJ) (xr_newa (kd := 1) (b := false) (ty := .int) rfl rfl (in_t1 (List.mem_of_getElem? (i := 64) rfl) rfl) (x_dk dl_33_1_ok 88 rfl))))
  (x_Lok (x_st (I := xJ) (xr_putF (ci := 12) (k := 56) (ix := 152) (N := 119) (fk := 2) (C := RX12) (T := TX12) (ty0 := tyX12) (ty := .array .int) rfl in_X12 tyX12_ok nmX12 (by decide) (in_t9 (List.mem_of_getElem? (i := 171) rfl) rfl) rfl rfl rfl rfl x_fit_arr (x_dk dl_33_1_ok 89 rfl)))))))
  (x_Tok2
  (x_Tok2
  (x_Lok (x_st (I := xJ) (xr_aload_n (i := 0) (x_dk dl_33_1_ok 90 rfl))))
  (x_Lok (x_st (I := xJ) (xr_bipush (n := 6) (z := 6) (v := 6) (x_dk dl_33_1_ok 91 rfl) (by decide) (by decide)))))
  (x_Tok2
  (x_Lok (x_st (I := xJ) (xr_newa (kd := 1) (b := false) (ty := .int) rfl rfl (in_t1 (List.mem_of_getElem? (i := 64) rfl) rfl) (x_dk dl_33_1_ok 92 rfl))))
  (x_Tok2
  (x_Lok (x_st (I := xJ) (xr_putF (ci := 12) (k := 57) (ix := 155) (N := 119) (fk := 2) (C := RX12) (T := TX12) (ty0 := tyX12) (ty := .array .int) rfl in_X12 tyX12_ok nmX12 (by decide) (in_t9 (List.mem_of_getElem? (i := 172) rfl) rfl) rfl rfl rfl rfl x_fit_arr (x_dk dl_33_1_ok 93 rfl))))
  (x_Lok (x_st (I := xJ) (xr_aload_n (i := 0) (x_dk dl_33_1_ok 94 rfl))))))))
  (x_Tok2
  (x_Tok2
  (x_Tok2
  (x_Lok (x_st (I := xJ) (xr_iconst (n := 4) (z := 4) (v := 4) (x_dk dl_33_1_ok 95 rfl) (by decide) (by decide))))
  (x_Lok (x_st (I := xJ) (xr_newa (kd := 1) (b := false) (ty := .int) rfl rfl (in_t1 (List.mem_of_getElem? (i := 64) rfl) rfl) (x_dk dl_33_1_ok 96 rfl)))))
  (x_Tok2
  (x_Lok (x_st (I := xJ) (xr_putF (ci := 12) (k := 61) (ix := 158) (N := 119) (fk := 2) (C := RX12) (T := TX12) (ty0 := tyX12) (ty := .array .int) rfl in_X12 tyX12_ok nmX12 (by decide) (in_t9 (List.mem_of_getElem? (i := 176) rfl) rfl) rfl rfl rfl rfl x_fit_arr (x_dk dl_33_1_ok 97 rfl))))
  (x_Tok2
  (x_Lok (x_st (I := xJ) (xr_aload_n (i := 0) (x_dk dl_33_1_ok 98 rfl))))
  (x_Lok (x_st (I := xJ) (xr_iconst (n := 4) (z := 4) (v := 4) (x_dk dl_33_1_ok 99 rfl) (by decide) (by decide)))))))
  (x_Tok2
  (x_Tok2
  (x_Lok (x_st (I := xJ) (xr_newa (kd := 1) (b := false) (ty := .int) rfl rfl (in_t1 (List.mem_of_getElem? (i := 64) rfl) rfl) (x_dk dl_33_2_ok 0 rfl))))
  (x_Tok2
  (x_Lok (x_st (I := xJ) (xr_putF (ci := 12) (k := 62) (ix := 161) (N := 119) (fk := 2) (C := RX12) (T := TX12) (ty0 := tyX12) (ty := .array .int) rfl in_X12 tyX12_ok nmX12 (by decide) (in_t9 (List.mem_of_getElem? (i := 177) rfl) rfl) rfl rfl rfl rfl x_fit_arr (x_dk dl_33_2_ok 1 rfl))))
  (x_Lok (x_st (I := xJ) (xr_aload_n (i := 0) (x_dk dl_33_2_ok 2 rfl))))))
  (x_Tok2
  (x_Lok (x_st (I := xJ) (xr_bipush (n := 65) (z := 65) (v := 65) (x_dk dl_33_2_ok 3 rfl) (by decide) (by decide))))
  (x_Tok2
  (x_Lok (x_st (I := xJ) (xr_newa (kd := 1) (b := false) (ty := .int) rfl rfl (in_t1 (List.mem_of_getElem? (i := 64) rfl) rfl) (x_dk dl_33_2_ok 4 rfl))))
  (x_Lok (x_st (I := xJ) (xr_putF (ci := 12) (k := 63) (ix := 164) (N := 119) (fk := 2) (C := RX12) (T := TX12) (ty0 := tyX12) (ty := .array .int) rfl in_X12 tyX12_ok nmX12 (by decide) (in_t9 (List.mem_of_getElem? (i := 178) rfl) rfl) rfl rfl rfl rfl x_fit_arr (x_dk dl_33_2_ok 5 rfl)))))))))
def tb_33_206 : Nat → xE := (x_T 416 (x_T 407 (x_T 400 (x_T 399 (x_L 399 (0, xi_load 0 2 400, 0, 0)) (x_L 400 (0, xi_push (0, 64, 64) 402, 0, 0))) (x_T 402 (x_L 402 (0, xi_newa 3 0 (0, 0, 0) (xm_c mq_33) (xm_s mq_33) 404, 0, 0)) (x_T 404 (x_L 404 (0, xi_putf 12 64 2 407, 0, 0)) (x_L 407 (0, xi_load 0 2 408, 0, 0))))) (x_T 410 (x_T 408 (x_L 408 (0, xi_push (0, 50000, 50000) 410, 0, 0)) (x_L 410 (0, xi_newa 1 0 (0, 0, 0) (xm_c mq_33) (xm_s mq_33) 412, 0, 0))) (x_T 412 (x_L 412 (0, xi_putf 12 65 2 415, 0, 0)) (x_T 415 (x_L 415 (0, xi_load 0 2 416, 0, 0)) (x_L 416 (0, xi_push (0, 50000, 50000) 418, 0, 0)))))) (x_T 426 (x_T 420 (x_T 418 (x_L 418 (0, xi_newa 1 0 (0, 0, 0) (xm_c mq_33) (xm_s mq_33) 420, 0, 0)) (x_L 420 (0, xi_putf 12 66 2 423, 0, 0))) (x_T 423 (x_L 423 (0, xi_load 0 2 424, 0, 0)) (x_T 424 (x_L 424 (0, xi_push (0, 50000, 50000) 426, 0, 0)) (x_L 426 (0, xi_newa 1 0 (0, 0, 0) (xm_c mq_33) (xm_s mq_33) 428, 0, 0))))) (x_T 432 (x_T 428 (x_L 428 (0, xi_putf 12 67 2 431, 0, 0)) (x_T 431 (x_L 431 (0, xi_load 0 2 432, 0, 0)) (x_L 432 (0, xi_push (0, 4500, 4500) 435, 0, 0)))) (x_T 435 (x_L 435 (0, xi_newa 1 0 (0, 0, 0) (xm_c mq_33) (xm_s mq_33) 437, 0, 0)) (x_T 437 (x_L 437 (0, xi_putf 12 68 2 440, 0, 0)) (x_L 440 (0, xi_load 0 2 441, 0, 0)))))))
set_option maxRecDepth 20000 in
set_option maxHeartbeats 4000000 in
theorem tb_33_206_ok (K : xKx) (hK : x_KP K) : ∀ pc, x_EOq cls K xJ mq_33 pc (tb_33_206 pc) :=
  (x_Tok2
  (x_Tok2
  (x_Tok2
  (x_Tok2
  (x_Lok (x_st (I := xJ) (xr_aload_n (i := 0) (x_dk dl_33_2_ok 6 rfl))))
  (x_Lok (x_st (I := xJ) (xr_bipush (n := 64) (z := 64) (v := 64) (x_dk dl_33_2_ok 7 rfl) (by decide) (by decide)))))
  (x_Tok2
  (x_Lok (x_st (I := xJ) (xr_newa (kd := 3) (b := true) (ty := .boolean) rfl rfl (in_t1 (List.mem_of_getElem? (i := 166) rfl) rfl) (x_dk dl_33_2_ok 8 rfl))))
  (x_Tok2
  (x_Lok (x_st (I := xJ) (xr_putF (ci := 12) (k := 64) (ix := 167) (N := 119) (fk := 2) (C := RX12) (T := TX12) (ty0 := tyX12) (ty := .array .boolean) rfl in_X12 tyX12_ok nmX12 (by decide) (in_t9 (List.mem_of_getElem? (i := 179) rfl) rfl) rfl rfl rfl rfl x_fit_arr (x_dk dl_33_2_ok 9 rfl))))
  (x_Lok (x_st (I := xJ) (xr_aload_n (i := 0) (x_dk dl_33_2_ok 10 rfl)))))))
  (x_Tok2
  (x_Tok2
  (x_Lok (x_st (I := xJ) (xr_ldc (ix := 170) (z := 50000) (v := 50000) (x_dk dl_33_2_ok 11 rfl) (in_t9 (List.mem_of_getElem? (i := 88) rfl) rfl) (by decide))))
  (x_Lok (x_st (I := xJ) (xr_newa (kd := 1) (b := false) (ty := .int) rfl rfl (in_t1 (List.mem_of_getElem? (i := 64) rfl) rfl) (x_dk dl_33_2_ok 12 rfl)))))
  (x_Tok2
  (x_Lok (x_st (I := xJ) (xr_putF (ci := 12) (k := 65) (ix := 171) (N := 119) (fk := 2) (C := RX12) (T := TX12) (ty0 := tyX12) (ty := .array .int) rfl in_X12 tyX12_ok nmX12 (by decide) (in_t9 (List.mem_of_getElem? (i := 180) rfl) rfl) rfl rfl rfl rfl x_fit_arr (x_dk dl_33_2_ok 13 rfl))))
  (x_Tok2
  (x_Lok (x_st (I := xJ) (xr_aload_n (i := 0) (x_dk dl_33_2_ok 14 rfl))))
  (x_Lok (x_st (I := xJ) (xr_ldc (ix := 170) (z := 50000) (v := 50000) (x_dk dl_33_2_ok 15 rfl) (in_t9 (List.mem_of_getElem? (i := 88) rfl) rfl) (by decide))))))))
  (x_Tok2
  (x_Tok2
  (x_Tok2
  (x_Lok (x_st (I := xJ) (xr_newa (kd := 1) (b := false) (ty := .int) rfl rfl (in_t1 (List.mem_of_getElem? (i := 64) rfl) rfl) (x_dk dl_33_2_ok 16 rfl))))
  (x_Lok (x_st (I := xJ) (xr_putF (ci := 12) (k := 66) (ix := 174) (N := 119) (fk := 2) (C := RX12) (T := TX12) (ty0 := tyX12) (ty := .array .int) rfl in_X12 tyX12_ok nmX12 (by decide) (in_t9 (List.mem_of_getElem? (i := 181) rfl) rfl) rfl rfl rfl rfl x_fit_arr (x_dk dl_33_2_ok 17 rfl)))))
  (x_Tok2
  (x_Lok (x_st (I := xJ) (xr_aload_n (i := 0) (x_dk dl_33_2_ok 18 rfl))))
  (x_Tok2
  (x_Lok (x_st (I := xJ) (xr_ldc (ix := 170) (z := 50000) (v := 50000) (x_dk dl_33_2_ok 19 rfl) (in_t9 (List.mem_of_getElem? (i := 88) rfl) rfl) (by decide))))
  (x_Lok (x_st (I := xJ) (xr_newa (kd := 1) (b := false) (ty := .int) rfl rfl (in_t1 (List.mem_of_getElem? (i := 64) rfl) rfl) (x_dk dl_33_2_ok 20 rfl)))))))
  (x_Tok2
  (x_Tok2
  (x_Lok (x_st (I := xJ) (xr_putF (ci := 12) (k := 67) (ix := 177) (N := 119) (fk := 2) (C := RX12) (T := TX12) (ty0 := tyX12) (ty := .array .int) rfl in_X12 tyX12_ok nmX12 (by decide) (in_t9 (List.mem_of_getElem? (i := 182) rfl) rfl) rfl rfl rfl rfl x_fit_arr (x_dk dl_33_2_ok 21 rfl))))
  (x_Tok2
  (x_Lok (x_st (I := xJ) (xr_aload_n (i := 0) (x_dk dl_33_2_ok 22 rfl))))
  (x_Lok (x_st (I := xJ) (xr_sipush (n := 4500) (z := 4500) (v := 4500) (x_dk dl_33_2_ok 23 rfl) (by decide) (by decide))))))
  (x_Tok2
  (x_Lok (x_st (I := xJ) (xr_newa (kd := 1) (b := false) (ty := .int) rfl rfl (in_t1 (List.mem_of_getElem? (i := 64) rfl) rfl) (x_dk dl_33_2_ok 24 rfl))))
  (x_Tok2
  (x_Lok (x_st (I := xJ) (xr_putF (ci := 12) (k := 68) (ix := 180) (N := 119) (fk := 2) (C := RX12) (T := TX12) (ty0 := tyX12) (ty := .array .int) rfl in_X12 tyX12_ok nmX12 (by decide) (in_t9 (List.mem_of_getElem? (i := 183) rfl) rfl) rfl rfl rfl rfl x_fit_arr (x_dk dl_33_2_ok 25 rfl))))
  (x_Lok (x_st (I := xJ) (xr_aload_n (i := 0) (x_dk dl_33_2_ok 26 rfl)))))))))
def tb_33_227 : Nat → xE := (x_T 462 (x_T 450 (x_T 444 (x_T 441 (x_L 441 (0, xi_push (0, 4500, 4500) 444, 0, 0)) (x_L 444 (0, xi_newa 1 0 (0, 0, 0) (xm_c mq_33) (xm_s mq_33) 446, 0, 0))) (x_T 446 (x_L 446 (0, xi_putf 12 69 2 449, 0, 0)) (x_T 449 (x_L 449 (0, xi_load 0 2 450, 0, 0)) (x_L 450 (0, xi_push (0, 4500, 4500) 453, 0, 0))))) (x_T 455 (x_T 453 (x_L 453 (0, xi_newa 1 0 (0, 0, 0) (xm_c mq_33) (xm_s mq_33) 455, 0, 0)) (x_L 455 (0, xi_putf 12 70 2 458, 0, 0))) (x_T 458 (x_L 458 (0, xi_load 0 2 459, 0, 0)) (x_T 459 (x_L 459 (0, xi_push (0, 4500, 4500) 462, 0, 0)) (x_L 462 (0, xi_newa 1 0 (0, 0, 0) (xm_c mq_33) (xm_s mq_33) 464, 0, 0)))))) (x_T 473 (x_T 467 (x_T 464 (x_L 464 (0, xi_putf 12 71 2 467, 0, 0)) (x_L 467 (0, xi_load 0 2 468, 0, 0))) (x_T 468 (x_L 468 (0, xi_push (0, 4500, 4500) 471, 0, 0)) (x_T 471 (x_L 471 (0, xi_newa 1 0 (0, 0, 0) (xm_c mq_33) (xm_s mq_33) 473, 0, 0)) (x_L 473 (0, xi_putf 12 72 2 476, 0, 0))))) (x_T 480 (x_T 476 (x_L 476 (0, xi_load 0 2 477, 0, 0)) (x_T 477 (x_L 477 (0, xi_push (0, 4500, 4500) 480, 0, 0)) (x_L 480 (0, xi_newa 1 0 (0, 0, 0) (xm_c mq_33) (xm_s mq_33) 482, 0, 0)))) (x_T 482 (x_L 482 (0, xi_putf 12 73 2 485, 0, 0)) (x_T 485 (x_L 485 (0, xi_load 0 2 486, 0, 0)) (x_L 486 (0, xi_push (0, 160, 160) 489, 0, 0)))))))
set_option maxRecDepth 20000 in
set_option maxHeartbeats 4000000 in
theorem tb_33_227_ok (K : xKx) (hK : x_KP K) : ∀ pc, x_EOq cls K xJ mq_33 pc (tb_33_227 pc) :=
  (x_Tok2
  (x_Tok2
  (x_Tok2
  (x_Tok2
  (x_Lok (x_st (I := xJ) (xr_sipush (n := 4500) (z := 4500) (v := 4500) (x_dk dl_33_2_ok 27 rfl) (by decide) (by decide))))
  (x_Lok (x_st (I := xJ) (xr_newa (kd := 1) (b := false) (ty := .int) rfl rfl (in_t1 (List.mem_of_getElem? (i := 64) rfl) rfl) (x_dk dl_33_2_ok 28 rfl)))))
  (x_Tok2
  (x_Lok (x_st (I := xJ) (xr_putF (ci := 12) (k := 69) (ix := 183) (N := 119) (fk := 2) (C := RX12) (T := TX12) (ty0 := tyX12) (ty := .array .int) rfl in_X12 tyX12_ok nmX12 (by decide) (in_t9 (List.mem_of_getElem? (i := 184) rfl) rfl) rfl rfl rfl rfl x_fit_arr (x_dk dl_33_2_ok 29 rfl))))
  (x_Tok2
  (x_Lok (x_st (I := xJ) (xr_aload_n (i := 0) (x_dk dl_33_2_ok 30 rfl))))
  (x_Lok (x_st (I := xJ) (xr_sipush (n := 4500) (z := 4500) (v := 4500) (x_dk dl_33_2_ok 31 rfl) (by decide) (by decide)))))))
  (x_Tok2
  (x_Tok2
  (x_Lok (x_st (I := xJ) (xr_newa (kd := 1) (b := false) (ty := .int) rfl rfl (in_t1 (List.mem_of_getElem? (i := 64) rfl) rfl) (x_dk dl_33_2_ok 32 rfl))))
  (x_Lok (x_st (I := xJ) (xr_putF (ci := 12) (k := 70) (ix := 186) (N := 119) (fk := 2) (C := RX12) (T := TX12) (ty0 := tyX12) (ty := .array .int) rfl in_X12 tyX12_ok nmX12 (by decide) (in_t9 (List.mem_of_getElem? (i := 185) rfl) rfl) rfl rfl rfl rfl x_fit_arr (x_dk dl_33_2_ok 33 rfl)))))
  (x_Tok2
  (x_Lok (x_st (I := xJ) (xr_aload_n (i := 0) (x_dk dl_33_2_ok 34 rfl))))
  (x_Tok2
  (x_Lok (x_st (I := xJ) (xr_sipush (n := 4500) (z := 4500) (v := 4500) (x_dk dl_33_2_ok 35 rfl) (by decide) (by decide))))
  (x_Lok (x_st (I := xJ) (xr_newa (kd := 1) (b := false) (ty := .int) rfl rfl (in_t1 (List.mem_of_getElem? (i := 64) rfl) rfl) (x_dk dl_33_2_ok 36 rfl))))))))
  (x_Tok2
  (x_Tok2
  (x_Tok2
  (x_Lok (x_st (I := xJ) (xr_putF (ci := 12) (k := 71) (ix := 189) (N := 119) (fk := 2) (C := RX12) (T := TX12) (ty0 := tyX12) (ty := .array .int) rfl in_X12 tyX12_ok nmX12 (by decide) (in_t9 (List.mem_of_getElem? (i := 186) rfl) rfl) rfl rfl rfl rfl x_fit_arr (x_dk dl_33_2_ok 37 rfl))))
  (x_Lok (x_st (I := xJ) (xr_aload_n (i := 0) (x_dk dl_33_2_ok 38 rfl)))))
  (x_Tok2
  (x_Lok (x_st (I := xJ) (xr_sipush (n := 4500) (z := 4500) (v := 4500) (x_dk dl_33_2_ok 39 rfl) (by decide) (by decide))))
  (x_Tok2
  (x_Lok (x_st (I := xJ) (xr_newa (kd := 1) (b := false) (ty := .int) rfl rfl (in_t1 (List.mem_of_getElem? (i := 64) rfl) rfl) (x_dk dl_33_2_ok 40 rfl))))
  (x_Lok (x_st (I := xJ) (xr_putF (ci := 12) (k := 72) (ix := 192) (N := 119) (fk := 2) (C := RX12) (T := TX12) (ty0 := tyX12) (ty := .array .int) rfl in_X12 tyX12_ok nmX12 (by decide) (in_t9 (List.mem_of_getElem? (i := 187) rfl) rfl) rfl rfl rfl rfl x_fit_arr (x_dk dl_33_2_ok 41 rfl)))))))
  (x_Tok2
  (x_Tok2
  (x_Lok (x_st (I := xJ) (xr_aload_n (i := 0) (x_dk dl_33_2_ok 42 rfl))))
  (x_Tok2
  (x_Lok (x_st (I := xJ) (xr_sipush (n := 4500) (z := 4500) (v := 4500) (x_dk dl_33_2_ok 43 rfl) (by decide) (by decide))))
  (x_Lok (x_st (I := xJ) (xr_newa (kd := 1) (b := false) (ty := .int) rfl rfl (in_t1 (List.mem_of_getElem? (i := 64) rfl) rfl) (x_dk dl_33_2_ok 44 rfl))))))
  (x_Tok2
  (x_Lok (x_st (I := xJ) (xr_putF (ci := 12) (k := 73) (ix := 195) (N := 119) (fk := 2) (C := RX12) (T := TX12) (ty0 := tyX12) (ty := .array .int) rfl in_X12 tyX12_ok nmX12 (by decide) (in_t9 (List.mem_of_getElem? (i := 188) rfl) rfl) rfl rfl rfl rfl x_fit_arr (x_dk dl_33_2_ok 45 rfl))))
  (x_Tok2
  (x_Lok (x_st (I := xJ) (xr_aload_n (i := 0) (x_dk dl_33_2_ok 46 rfl))))
  (x_Lok (x_st (I := xJ) (xr_sipush (n := 160) (z := 160) (v := 160) (x_dk dl_33_2_ok 47 rfl) (by decide) (by decide)))))))))
def tb_33_248 : Nat → xE := (x_T 505 (x_T 496 (x_T 491 (x_T 489 (x_L 489 (0, xi_newa 1 0 (0, 0, 0) (xm_c mq_33) (xm_s mq_33) 491, 0, 0)) (x_L 491 (0, xi_putf 12 74 2 494, 0, 0))) (x_T 494 (x_L 494 (0, xi_load 0 2 495, 0, 0)) (x_T 495 (x_L 495 (0, xi_push (0, 5, 5) 496, 0, 0)) (x_L 496 (0, xi_newa 1 0 (0, 0, 0) (xm_c mq_33) (xm_s mq_33) 498, 0, 0))))) (x_T 501 (x_T 498 (x_L 498 (0, xi_putf 12 75 2 501, 0, 0)) (x_L 501 (0, xi_load 0 2 502, 0, 0))) (x_T 502 (x_L 502 (0, xi_push (0, 5, 5) 503, 0, 0)) (x_T 503 (x_L 503 (0, xi_newa 1 0 (0, 0, 0) (xm_c mq_33) (xm_s mq_33) 505, 0, 0)) (x_L 505 (0, xi_putf 12 76 2 508, 0, 0)))))) (x_T 515 (x_T 509 (x_T 508 (x_L 508 (0, xi_load 0 2 509, 0, 0)) (x_L 509 (0, xi_push (0, 5, 5) 510, 0, 0))) (x_T 510 (x_L 510 (0, xi_newa 3 0 (0, 0, 0) (xm_c mq_33) (xm_s mq_33) 512, 0, 0)) (x_T 512 (x_L 512 (0, xi_putf 12 77 2 515, 0, 0)) (x_L 515 (0, xi_load 0 2 516, 0, 0))))) (x_T 519 (x_T 516 (x_L 516 (0, xi_push (0, 4100, 4100) 519, 0, 0)) (x_L 519 (0, xi_newa 1 0 (0, 0, 0) (xm_c mq_33) (xm_s mq_33) 521, 0, 0))) (x_T 521 (x_L 521 (0, xi_putf 12 90 2 524, 0, 0)) (x_T 524 (x_L 524 (0, xi_load 0 2 525, 0, 0)) (x_L 525 (0, xi_push (0, 4100, 4100) 528, 0, 0)))))))
set_option maxRecDepth 20000 in
set_option maxHeartbeats 4000000 in
theorem tb_33_248_ok (K : xKx) (hK : x_KP K) : ∀ pc, x_EOq cls K xJ mq_33 pc (tb_33_248 pc) :=
  (x_Tok2
  (x_Tok2
  (x_Tok2
  (x_Tok2
  (x_Lok (x_st (I := xJ) (xr_newa (kd := 1) (b := false) (ty := .int) rfl rfl (in_t1 (List.mem_of_getElem? (i := 64) rfl) rfl) (x_dk dl_33_2_ok 48 rfl))))
  (x_Lok (x_st (I := xJ) (xr_putF (ci := 12) (k := 74) (ix := 198) (N := 119) (fk := 2) (C := RX12) (T := TX12) (ty0 := tyX12) (ty := .array .int) rfl in_X12 tyX12_ok nmX12 (by decide) (in_t9 (List.mem_of_getElem? (i := 189) rfl) rfl) rfl rfl rfl rfl x_fit_arr (x_dk dl_33_2_ok 49 rfl)))))
  (x_Tok2
  (x_Lok (x_st (I := xJ) (xr_aload_n (i := 0) (x_dk dl_33_2_ok 50 rfl))))
  (x_Tok2
  (x_Lok (x_st (I := xJ) (xr_iconst (n := 5) (z := 5) (v := 5) (x_dk dl_33_2_ok 51 rfl) (by decide) (by decide))))
  (x_Lok (x_st (I := xJ) (xr_newa (kd := 1) (b := false) (ty := .int) rfl rfl (in_t1 (List.mem_of_getElem? (i := 64) rfl) rfl) (x_dk dl_33_2_ok 52 rfl)))))))
  (x_Tok2
  (x_Tok2
  (x_Lok (x_st (I := xJ) (xr_putF (ci := 12) (k := 75) (ix := 201) (N := 119) (fk := 2) (C := RX12) (T := TX12) (ty0 := tyX12) (ty := .array .int) rfl in_X12 tyX12_ok nmX12 (by decide) (in_t9 (List.mem_of_getElem? (i := 190) rfl) rfl) rfl rfl rfl rfl x_fit_arr (x_dk dl_33_2_ok 53 rfl))))
  (x_Lok (x_st (I := xJ) (xr_aload_n (i := 0) (x_dk dl_33_2_ok 54 rfl)))))
  (x_Tok2
  (x_Lok (x_st (I := xJ) (xr_iconst (n := 5) (z := 5) (v := 5) (x_dk dl_33_2_ok 55 rfl) (by decide) (by decide))))
  (x_Tok2
  (x_Lok (x_st (I := xJ) (xr_newa (kd := 1) (b := false) (ty := .int) rfl rfl (in_t1 (List.mem_of_getElem? (i := 64) rfl) rfl) (x_dk dl_33_2_ok 56 rfl))))
  (x_Lok (x_st (I := xJ) (xr_putF (ci := 12) (k := 76) (ix := 204) (N := 119) (fk := 2) (C := RX12) (T := TX12) (ty0 := tyX12) (ty := .array .int) rfl in_X12 tyX12_ok nmX12 (by decide) (in_t9 (List.mem_of_getElem? (i := 191) rfl) rfl) rfl rfl rfl rfl x_fit_arr (x_dk dl_33_2_ok 57 rfl))))))))
  (x_Tok2
  (x_Tok2
  (x_Tok2
  (x_Lok (x_st (I := xJ) (xr_aload_n (i := 0) (x_dk dl_33_2_ok 58 rfl))))
  (x_Lok (x_st (I := xJ) (xr_iconst (n := 5) (z := 5) (v := 5) (x_dk dl_33_2_ok 59 rfl) (by decide) (by decide)))))
  (x_Tok2
  (x_Lok (x_st (I := xJ) (xr_newa (kd := 3) (b := true) (ty := .boolean) rfl rfl (in_t1 (List.mem_of_getElem? (i := 166) rfl) rfl) (x_dk dl_33_2_ok 60 rfl))))
  (x_Tok2
  (x_Lok (x_st (I := xJ) (xr_putF (ci := 12) (k := 77) (ix := 207) (N := 119) (fk := 2) (C := RX12) (T := TX12) (ty0 := tyX12) (ty := .array .boolean) rfl in_X12 tyX12_ok nmX12 (by decide) (in_t9 (List.mem_of_getElem? (i := 192) rfl) rfl) rfl rfl rfl rfl x_fit_arr (x_dk dl_33_2_ok 61 rfl))))
  (x_Lok (x_st (I := xJ) (xr_aload_n (i := 0) (x_dk dl_33_2_ok 62 rfl)))))))
  (x_Tok2
  (x_Tok2
  (x_Lok (x_st (I := xJ) (xr_sipush (n := 4100) (z := 4100) (v := 4100) (x_dk dl_33_2_ok 63 rfl) (by decide) (by decide))))
  (x_Lok (x_st (I := xJ) (xr_newa (kd := 1) (b := false) (ty := .int) rfl rfl (in_t1 (List.mem_of_getElem? (i := 64) rfl) rfl) (x_dk dl_33_2_ok 64 rfl)))))
  (x_Tok2
  (x_Lok (x_st (I := xJ) (xr_putF (ci := 12) (k := 90) (ix := 210) (N := 119) (fk := 2) (C := RX12) (T := TX12) (ty0 := tyX12) (ty := .array .int) rfl in_X12 tyX12_ok nmX12 (by decide) (in_t9 (List.mem_of_getElem? (i := 205) rfl) rfl) rfl rfl rfl rfl x_fit_arr (x_dk dl_33_2_ok 65 rfl))))
  (x_Tok2
  (x_Lok (x_st (I := xJ) (xr_aload_n (i := 0) (x_dk dl_33_2_ok 66 rfl))))
  (x_Lok (x_st (I := xJ) (xr_sipush (n := 4100) (z := 4100) (v := 4100) (x_dk dl_33_2_ok 67 rfl) (by decide) (by decide)))))))))
def tb_33_268 : Nat → xE := (x_T 548 (x_T 537 (x_T 530 (x_T 528 (x_L 528 (0, xi_newa 1 0 (0, 0, 0) (xm_c mq_33) (xm_s mq_33) 530, 0, 0)) (x_L 530 (0, xi_putf 12 91 2 533, 0, 0))) (x_T 533 (x_L 533 (0, xi_load 0 2 534, 0, 0)) (x_T 534 (x_L 534 (0, xi_push (0, 4100, 4100) 537, 0, 0)) (x_L 537 (0, xi_newa 1 0 (0, 0, 0) (xm_c mq_33) (xm_s mq_33) 539, 0, 0))))) (x_T 542 (x_T 539 (x_L 539 (0, xi_putf 12 92 2 542, 0, 0)) (x_L 542 (0, xi_load 0 2 543, 0, 0))) (x_T 543 (x_L 543 (0, xi_push (0, 4100, 4100) 546, 0, 0)) (x_T 546 (x_L 546 (0, xi_newa 1 0 (0, 0, 0) (xm_c mq_33) (xm_s mq_33) 548, 0, 0)) (x_L 548 (0, xi_putf 12 93 2 551, 0, 0)))))) (x_T 560 (x_T 552 (x_T 551 (x_L 551 (0, xi_load 0 2 552, 0, 0)) (x_L 552 (0, xi_push (0, 4200, 4200) 555, 0, 0))) (x_T 555 (x_L 555 (0, xi_newa 1 0 (0, 0, 0) (xm_c mq_33) (xm_s mq_33) 557, 0, 0)) (x_T 557 (x_L 557 (0, xi_putf 12 101 2 560, 0, 0)) (x_L 560 (0, xi_load 0 2 561, 0, 0))))) (x_T 565 (x_T 561 (x_L 561 (0, xi_push (0, 24, 24) 563, 0, 0)) (x_T 563 (x_L 563 (0, xi_newa 1 0 (0, 0, 0) (xm_c mq_33) (xm_s mq_33) 565, 0, 0)) (x_L 565 (0, xi_putf 12 103 2 568, 0, 0)))) (x_T 568 (x_L 568 (0, xi_load 0 2 569, 0, 0)) (x_T 569 (x_L 569 (0, xi_push (0, 6, 6) 571, 0, 0)) (x_L 571 (0, xi_newa 1 0 (0, 0, 0) (xm_c mq_33) (xm_s mq_33) 573, 0, 0)))))))
set_option maxRecDepth 20000 in
set_option maxHeartbeats 4000000 in
theorem tb_33_268_ok (K : xKx) (hK : x_KP K) : ∀ pc, x_EOq cls K xJ mq_33 pc (tb_33_268 pc) :=
  (x_Tok2
  (x_Tok2
  (x_Tok2
  (x_Tok2
  (x_Lok (x_st (I := xJ) (xr_newa (kd := 1) (b := false) (ty := .int) rfl rfl (in_t1 (List.mem_of_getElem? (i := 64) rfl) rfl) (x_dk dl_33_2_ok 68 rfl))))
  (x_Lok (x_st (I := xJ) (xr_putF (ci := 12) (k := 91) (ix := 213) (N := 119) (fk := 2) (C := RX12) (T := TX12) (ty0 := tyX12) (ty := .array .int) rfl in_X12 tyX12_ok nmX12 (by decide) (in_t9 (List.mem_of_getElem? (i := 206) rfl) rfl) rfl rfl rfl rfl x_fit_arr (x_dk dl_33_2_ok 69 rfl)))))
  (x_Tok2
  (x_Lok (x_st (I := xJ) (xr_aload_n (i := 0) (x_dk dl_33_2_ok 70 rfl))))
  (x_Tok2
  (x_Lok (x_st (I := xJ) (xr_sipush (n := 4100) (z := 4100) (v := 4100) (x_dk dl_33_2_ok 71 rfl) (by decide) (by decide))))
  (x_Lok (x_st (I := xJ) (xr_newa (kd := 1) (b := false) (ty := .int) rfl rfl (in_t1 (List.mem_of_getElem? (i := 64) rfl) rfl) (x_dk dl_33_2_ok 72 rfl)))))))
  (x_Tok2
  (x_Tok2
  (x_Lok (x_st (I := xJ) (xr_putF (ci := 12) (k := 92) (ix := 216) (N := 119) (fk := 2) (C := RX12) (T := TX12) (ty0 := tyX12) (ty := .array .int) rfl in_X12 tyX12_ok nmX12 (by decide) (in_t9 (List.mem_of_getElem? (i := 207) rfl) rfl) rfl rfl rfl rfl x_fit_arr (x_dk dl_33_2_ok 73 rfl))))
  (x_Lok (x_st (I := xJ) (xr_aload_n (i := 0) (x_dk dl_33_2_ok 74 rfl)))))
  (x_Tok2
  (x_Lok (x_st (I := xJ) (xr_sipush (n := 4100) (z := 4100) (v := 4100) (x_dk dl_33_2_ok 75 rfl) (by decide) (by decide))))
  (x_Tok2
  (x_Lok (x_st (I := xJ) (xr_newa (kd := 1) (b := false) (ty := .int) rfl rfl (in_t1 (List.mem_of_getElem? (i := 64) rfl) rfl) (x_dk dl_33_2_ok 76 rfl))))
  (x_Lok (x_st (I := xJ) (xr_putF (ci := 12) (k := 93) (ix := 219) (N := 119) (fk := 2) (C := RX12) (T := TX12) (ty0 := tyX12) (ty := .array .int) rfl in_X12 tyX12_ok nmX12 (by decide) (in_t9 (List.mem_of_getElem? (i := 208) rfl) rfl) rfl rfl rfl rfl x_fit_arr (x_dk dl_33_2_ok 77 rfl))))))))
  (x_Tok2
  (x_Tok2
  (x_Tok2
  (x_Lok (x_st (I := xJ) (xr_aload_n (i := 0) (x_dk dl_33_2_ok 78 rfl))))
  (x_Lok (x_st (I := xJ) (xr_sipush (n := 4200) (z := 4200) (v := 4200) (x_dk dl_33_2_ok 79 rfl) (by decide) (by decide)))))
  (x_Tok2
  (x_Lok (x_st (I := xJ) (xr_newa (kd := 1) (b := false) (ty := .int) rfl rfl (in_t1 (List.mem_of_getElem? (i := 64) rfl) rfl) (x_dk dl_33_2_ok 80 rfl))))
  (x_Tok2
  (x_Lok (x_st (I := xJ) (xr_putF (ci := 12) (k := 101) (ix := 222) (N := 119) (fk := 2) (C := RX12) (T := TX12) (ty0 := tyX12) (ty := .array .int) rfl in_X12 tyX12_ok nmX12 (by decide) (in_t9 (List.mem_of_getElem? (i := 216) rfl) rfl) rfl rfl rfl rfl x_fit_arr (x_dk dl_33_2_ok 81 rfl))))
  (x_Lok (x_st (I := xJ) (xr_aload_n (i := 0) (x_dk dl_33_2_ok 82 rfl)))))))
  (x_Tok2
  (x_Tok2
  (x_Lok (x_st (I := xJ) (xr_bipush (n := 24) (z := 24) (v := 24) (x_dk dl_33_2_ok 83 rfl) (by decide) (by decide))))
  (x_Tok2
  (x_Lok (x_st (I := xJ) (xr_newa (kd := 1) (b := false) (ty := .int) rfl rfl (in_t1 (List.mem_of_getElem? (i := 64) rfl) rfl) (x_dk dl_33_2_ok 84 rfl))))
  (x_Lok (x_st (I := xJ) (xr_putF (ci := 12) (k := 103) (ix := 225) (N := 119) (fk := 2) (C := RX12) (T := TX12) (ty0 := tyX12) (ty := .array .int) rfl in_X12 tyX12_ok nmX12 (by decide) (in_t9 (List.mem_of_getElem? (i := 218) rfl) rfl) rfl rfl rfl rfl x_fit_arr (x_dk dl_33_2_ok 85 rfl))))))
  (x_Tok2
  (x_Lok (x_st (I := xJ) (xr_aload_n (i := 0) (x_dk dl_33_2_ok 86 rfl))))
  (x_Tok2
  (x_Lok (x_st (I := xJ) (xr_bipush (n := 6) (z := 6) (v := 6) (x_dk dl_33_2_ok 87 rfl) (by decide) (by decide))))
  (x_Lok (x_st (I := xJ) (xr_newa (kd := 1) (b := false) (ty := .int) rfl rfl (in_t1 (List.mem_of_getElem? (i := 64) rfl) rfl) (x_dk dl_33_2_ok 88 rfl)))))))))
def tb_33_289 : Nat → xE := (x_T 593 (x_T 581 (x_T 576 (x_T 573 (x_L 573 (0, xi_putf 12 104 2 576, 0, 0)) (x_L 576 (0, xi_load 0 2 577, 0, 0))) (x_T 577 (x_L 577 (0, xi_push (0, 6, 6) 579, 0, 0)) (x_T 579 (x_L 579 (0, xi_newa 1 0 (0, 0, 0) (xm_c mq_33) (xm_s mq_33) 581, 0, 0)) (x_L 581 (0, xi_putf 12 105 2 584, 0, 0))))) (x_T 585 (x_T 584 (x_L 584 (0, xi_load 0 2 585, 0, 0)) (x_L 585 (0, xi_push (0, 1000, 1000) 588, 0, 0))) (x_T 588 (x_L 588 (0, xi_newa 1 0 (0, 0, 0) (xm_c mq_33) (xm_s mq_33) 590, 0, 0)) (x_T 590 (x_L 590 (0, xi_putf 12 106 2 593, 0, 0)) (x_L 593 (0, xi_load 0 2 594, 0, 0)))))) (x_T 603 (x_T 597 (x_T 594 (x_L 594 (0, xi_push (0, 1000, 1000) 597, 0, 0)) (x_L 597 (0, xi_newa 1 0 (0, 0, 0) (xm_c mq_33) (xm_s mq_33) 599, 0, 0))) (x_T 599 (x_L 599 (0, xi_putf 12 107 2 602, 0, 0)) (x_T 602 (x_L 602 (0, xi_load 0 2 603, 0, 0)) (x_L 603 (0, xi_push (0, 1000, 1000) 606, 0, 0))))) (x_T 611 (x_T 606 (x_L 606 (0, xi_newa 1 0 (0, 0, 0) (xm_c mq_33) (xm_s mq_33) 608, 0, 0)) (x_T 608 (x_L 608 (0, xi_putf 12 108 2 611, 0, 0)) (x_L 611 (0, xi_load 0 2 612, 0, 0)))) (x_T 612 (x_L 612 (0, xi_push (0, 6000, 6000) 615, 0, 0)) (x_T 615 (x_L 615 (0, xi_newa 1 0 (0, 0, 0) (xm_c mq_33) (xm_s mq_33) 617, 0, 0)) (x_L 617 (0, xi_putf 12 109 2 620, 0, 0)))))))
set_option maxRecDepth 20000 in
set_option maxHeartbeats 4000000 in
theorem tb_33_289_ok (K : xKx) (hK : x_KP K) : ∀ pc, x_EOq cls K xJ mq_33 pc (tb_33_289 pc) :=
  (x_Tok2
  (x_Tok2
  (x_Tok2
  (x_Tok2
  (x_Lok (x_st (I := xJ) (xr_putF (ci := 12) (k := 104) (ix := 228) (N := 119) (fk := 2) (C := RX12) (T := TX12) (ty0 := tyX12) (ty := .array .int) rfl in_X12 tyX12_ok nmX12 (by decide) (in_t9 (List.mem_of_getElem? (i := 219) rfl) rfl) rfl rfl rfl rfl x_fit_arr (x_dk dl_33_2_ok 89 rfl))))
  (x_Lok (x_st (I := xJ) (xr_aload_n (i := 0) (x_dk dl_33_2_ok 90 rfl)))))
  (x_Tok2
  (x_Lok (x_st (I := xJ) (xr_bipush (n := 6) (z := 6) (v := 6) (x_dk dl_33_2_ok 91 rfl) (by decide) (by decide))))
  (x_Tok2
  (x_Lok (x_st (I := xJ) (xr_newa (kd := 1) (b := false) (ty := .int) rfl rfl (in_t1 (List.mem_of_getElem? (i := 64) rfl) rfl) (x_dk dl_33_2_ok 92 rfl))))
  (x_Lok (x_st (I := xJ) (xr_putF (ci := 12) (k := 105) (ix := 231) (N := 119) (fk := 2) (C := RX12) (T := TX12) (ty0 := tyX12) (ty := .array .int) rfl in_X12 tyX12_ok nmX12 (by decide) (in_t9 (List.mem_of_getElem? (i := 220) rfl) rfl) rfl rfl rfl rfl x_fit_arr (x_dk dl_33_2_ok 93 rfl)))))))
  (x_Tok2
  (x_Tok2
  (x_Lok (x_st (I := xJ) (xr_aload_n (i := 0) (x_dk dl_33_2_ok 94 rfl))))
  (x_Lok (x_st (I := xJ) (xr_sipush (n := 1000) (z := 1000) (v := 1000) (x_dk dl_33_2_ok 95 rfl) (by decide) (by decide)))))
  (x_Tok2
  (x_Lok (x_st (I := xJ) (xr_newa (kd := 1) (b := false) (ty := .int) rfl rfl (in_t1 (List.mem_of_getElem? (i := 64) rfl) rfl) (x_dk dl_33_2_ok 96 rfl))))
  (x_Tok2
  (x_Lok (x_st (I := xJ) (xr_putF (ci := 12) (k := 106) (ix := 234) (N := 119) (fk := 2) (C := RX12) (T := TX12) (ty0 := tyX12) (ty := .array .int) rfl in_X12 tyX12_ok nmX12 (by decide) (in_t9 (List.mem_of_getElem? (i := 221) rfl) rfl) rfl rfl rfl rfl x_fit_arr (x_dk dl_33_2_ok 97 rfl))))
  (x_Lok (x_st (I := xJ) (xr_aload_n (i := 0) (x_dk dl_33_2_ok 98 rfl))))))))
  (x_Tok2
  (x_Tok2
  (x_Tok2
  (x_Lok (x_st (I := xJ) (xr_sipush (n := 1000) (z := 1000) (v := 1000) (x_dk dl_33_2_ok 99 rfl) (by decide) (by decide))))
  (x_Lok (x_st (I := xJ) (xr_newa (kd := 1) (b := false) (ty := .int) rfl rfl (in_t1 (List.mem_of_getElem? (i := 64) rfl) rfl) (x_dk dl_33_3_ok 0 rfl)))))
  (x_Tok2
  (x_Lok (x_st (I := xJ) (xr_putF (ci := 12) (k := 107) (ix := 237) (N := 119) (fk := 2) (C := RX12) (T := TX12) (ty0 := tyX12) (ty := .array .int) rfl in_X12 tyX12_ok nmX12 (by decide) (in_t9 (List.mem_of_getElem? (i := 222) rfl) rfl) rfl rfl rfl rfl x_fit_arr (x_dk dl_33_3_ok 1 rfl))))
  (x_Tok2
  (x_Lok (x_st (I := xJ) (xr_aload_n (i := 0) (x_dk dl_33_3_ok 2 rfl))))
  (x_Lok (x_st (I := xJ) (xr_sipush (n := 1000) (z := 1000) (v := 1000) (x_dk dl_33_3_ok 3 rfl) (by decide) (by decide)))))))
  (x_Tok2
  (x_Tok2
  (x_Lok (x_st (I := xJ) (xr_newa (kd := 1) (b := false) (ty := .int) rfl rfl (in_t1 (List.mem_of_getElem? (i := 64) rfl) rfl) (x_dk dl_33_3_ok 4 rfl))))
  (x_Tok2
  (x_Lok (x_st (I := xJ) (xr_putF (ci := 12) (k := 108) (ix := 240) (N := 119) (fk := 2) (C := RX12) (T := TX12) (ty0 := tyX12) (ty := .array .int) rfl in_X12 tyX12_ok nmX12 (by decide) (in_t9 (List.mem_of_getElem? (i := 223) rfl) rfl) rfl rfl rfl rfl x_fit_arr (x_dk dl_33_3_ok 5 rfl))))
  (x_Lok (x_st (I := xJ) (xr_aload_n (i := 0) (x_dk dl_33_3_ok 6 rfl))))))
  (x_Tok2
  (x_Lok (x_st (I := xJ) (xr_sipush (n := 6000) (z := 6000) (v := 6000) (x_dk dl_33_3_ok 7 rfl) (by decide) (by decide))))
  (x_Tok2
  (x_Lok (x_st (I := xJ) (xr_newa (kd := 1) (b := false) (ty := .int) rfl rfl (in_t1 (List.mem_of_getElem? (i := 64) rfl) rfl) (x_dk dl_33_3_ok 8 rfl))))
  (x_Lok (x_st (I := xJ) (xr_putF (ci := 12) (k := 109) (ix := 243) (N := 119) (fk := 2) (C := RX12) (T := TX12) (ty0 := tyX12) (ty := .array .int) rfl in_X12 tyX12_ok nmX12 (by decide) (in_t9 (List.mem_of_getElem? (i := 224) rfl) rfl) rfl rfl rfl rfl x_fit_arr (x_dk dl_33_3_ok 9 rfl)))))))))
def tb_33_310 : Nat → xE := (x_T 638 (x_T 629 (x_T 621 (x_T 620 (x_L 620 (0, xi_load 0 2 621, 0, 0)) (x_L 621 (0, xi_push (0, 1000, 1000) 624, 0, 0))) (x_T 624 (x_L 624 (0, xi_newa 1 0 (0, 0, 0) (xm_c mq_33) (xm_s mq_33) 626, 0, 0)) (x_T 626 (x_L 626 (0, xi_putf 12 113 2 629, 0, 0)) (x_L 629 (0, xi_load 0 2 630, 0, 0))))) (x_T 632 (x_T 630 (x_L 630 (0, xi_push (0, 200000, 200000) 632, 0, 0)) (x_L 632 (0, xi_newa 1 0 (0, 0, 0) (xm_c mq_33) (xm_s mq_33) 634, 0, 0))) (x_T 634 (x_L 634 (0, xi_putf 12 114 2 637, 0, 0)) (x_T 637 (x_L 637 (0, xi_load 0 2 638, 0, 0)) (x_L 638 (0, xi_push (0, 2000, 2000) 641, 0, 0)))))) (x_T 650 (x_T 643 (x_T 641 (x_L 641 (0, xi_newa 1 0 (0, 0, 0) (xm_c mq_33) (xm_s mq_33) 643, 0, 0)) (x_L 643 (0, xi_putf 12 115 2 646, 0, 0))) (x_T 646 (x_L 646 (0, xi_load 0 2 647, 0, 0)) (x_T 647 (x_L 647 (0, xi_push (0, 2000, 2000) 650, 0, 0)) (x_L 650 (0, xi_newa 1 0 (0, 0, 0) (xm_c mq_33) (xm_s mq_33) 652, 0, 0))))) (x_T 656 (x_T 652 (x_L 652 (0, xi_putf 12 116 2 655, 0, 0)) (x_T 655 (x_L 655 (0, xi_load 0 2 656, 0, 0)) (x_L 656 (2, x_nof, 39, 1)))) (x_T 659 (x_L 659 (0, xi_load 0 2 660, 0, 0)) (x_T 660 (x_L 660 (2, x_nof, 34, 1)) (x_L 663 (1, x_nof, 0, 0)))))))
set_option maxRecDepth 20000 in
set_option maxHeartbeats 4000000 in
theorem tb_33_310_ok (K : xKx) (hK : x_KP K) : ∀ pc, x_EOq cls K xJ mq_33 pc (tb_33_310 pc) :=
  (x_Tok2
  (x_Tok2
  (x_Tok2
  (x_Tok2
  (x_Lok (x_st (I := xJ) (xr_aload_n (i := 0) (x_dk dl_33_3_ok 10 rfl))))
  (x_Lok (x_st (I := xJ) (xr_sipush (n := 1000) (z := 1000) (v := 1000) (x_dk dl_33_3_ok 11 rfl) (by decide) (by decide)))))
  (x_Tok2
  (x_Lok (x_st (I := xJ) (xr_newa (kd := 1) (b := false) (ty := .int) rfl rfl (in_t1 (List.mem_of_getElem? (i := 64) rfl) rfl) (x_dk dl_33_3_ok 12 rfl))))
  (x_Tok2
  (x_Lok (x_st (I := xJ) (xr_putF (ci := 12) (k := 113) (ix := 246) (N := 119) (fk := 2) (C := RX12) (T := TX12) (ty0 := tyX12) (ty := .array .int) rfl in_X12 tyX12_ok nmX12 (by decide) (in_t9 (List.mem_of_getElem? (i := 228) rfl) rfl) rfl rfl rfl rfl x_fit_arr (x_dk dl_33_3_ok 13 rfl))))
  (x_Lok (x_st (I := xJ) (xr_aload_n (i := 0) (x_dk dl_33_3_ok 14 rfl)))))))
  (x_Tok2
  (x_Tok2
  (x_Lok (x_st (I := xJ) (xr_ldc (ix := 249) (z := 200000) (v := 200000) (x_dk dl_33_3_ok 15 rfl) (in_t9 (List.mem_of_getElem? (i := 89) rfl) rfl) (by decide))))
  (x_Lok (x_st (I := xJ) (xr_newa (kd := 1) (b := false) (ty := .int) rfl rfl (in_t1 (List.mem_of_getElem? (i := 64) rfl) rfl) (x_dk dl_33_3_ok 16 rfl)))))
  (x_Tok2
  (x_Lok (x_st (I := xJ) (xr_putF (ci := 12) (k := 114) (ix := 250) (N := 119) (fk := 2) (C := RX12) (T := TX12) (ty0 := tyX12) (ty := .array .int) rfl in_X12 tyX12_ok nmX12 (by decide) (in_t9 (List.mem_of_getElem? (i := 229) rfl) rfl) rfl rfl rfl rfl x_fit_arr (x_dk dl_33_3_ok 17 rfl))))
  (x_Tok2
  (x_Lok (x_st (I := xJ) (xr_aload_n (i := 0) (x_dk dl_33_3_ok 18 rfl))))
  (x_Lok (x_st (I := xJ) (xr_sipush (n := 2000) (z := 2000) (v := 2000) (x_dk dl_33_3_ok 19 rfl) (by decide) (by decide))))))))
  (x_Tok2
  (x_Tok2
  (x_Tok2
  (x_Lok (x_st (I := xJ) (xr_newa (kd := 1) (b := false) (ty := .int) rfl rfl (in_t1 (List.mem_of_getElem? (i := 64) rfl) rfl) (x_dk dl_33_3_ok 20 rfl))))
  (x_Lok (x_st (I := xJ) (xr_putF (ci := 12) (k := 115) (ix := 253) (N := 119) (fk := 2) (C := RX12) (T := TX12) (ty0 := tyX12) (ty := .array .int) rfl in_X12 tyX12_ok nmX12 (by decide) (in_t9 (List.mem_of_getElem? (i := 230) rfl) rfl) rfl rfl rfl rfl x_fit_arr (x_dk dl_33_3_ok 21 rfl)))))
  (x_Tok2
  (x_Lok (x_st (I := xJ) (xr_aload_n (i := 0) (x_dk dl_33_3_ok 22 rfl))))
  (x_Tok2
  (x_Lok (x_st (I := xJ) (xr_sipush (n := 2000) (z := 2000) (v := 2000) (x_dk dl_33_3_ok 23 rfl) (by decide) (by decide))))
  (x_Lok (x_st (I := xJ) (xr_newa (kd := 1) (b := false) (ty := .int) rfl rfl (in_t1 (List.mem_of_getElem? (i := 64) rfl) rfl) (x_dk dl_33_3_ok 24 rfl)))))))
  (x_Tok2
  (x_Tok2
  (x_Lok (x_st (I := xJ) (xr_putF (ci := 12) (k := 116) (ix := 256) (N := 119) (fk := 2) (C := RX12) (T := TX12) (ty0 := tyX12) (ty := .array .int) rfl in_X12 tyX12_ok nmX12 (by decide) (in_t9 (List.mem_of_getElem? (i := 231) rfl) rfl) rfl rfl rfl rfl x_fit_arr (x_dk dl_33_3_ok 25 rfl))))
  (x_Tok2
  (x_Lok (x_st (I := xJ) (xr_aload_n (i := 0) (x_dk dl_33_3_ok 26 rfl))))
  (x_Lok (x_ca (I := xJ) (q' := mq_39) rfl (xr_callV (q' := mq_39) (ix := 259) (n := 0) (in_t9 (List.mem_of_getElem? (i := 93) rfl) rfl) good_w (in_t1 (List.mem_of_getElem? (i := 14) rfl) rfl) (in_t9 (List.mem_of_getElem? (i := 90) rfl) rfl) (in_t9 (List.mem_of_getElem? (i := 92) rfl) rfl) (in_s7 (List.mem_of_getElem? (i := 15) rfl)) (by decide +kernel) (by decide +kernel) (by decide +kernel) (x_dk dl_33_3_ok 27 rfl))))))
  (x_Tok2
  (x_Lok (x_st (I := xJ) (xr_aload_n (i := 0) (x_dk dl_33_3_ok 28 rfl))))
  (x_Tok2
  (x_Lok (x_ca (I := xJ) (q' := mq_34) rfl (xr_callV (q' := mq_34) (ix := 262) (n := 0) (in_t9 (List.mem_of_getElem? (i := 108) rfl) rfl) good_w (in_t1 (List.mem_of_getElem? (i := 14) rfl) rfl) (in_t9 (List.mem_of_getElem? (i := 105) rfl) rfl) (in_t9 (List.mem_of_getElem? (i := 107) rfl) rfl) (in_s8 (List.mem_of_getElem? (i := 0) rfl)) (by decide +kernel) (by decide +kernel) (by decide +kernel) (x_dk dl_33_3_ok 29 rfl))))
  (x_Lok (x_rt (I := xJ) (k := 0) ⟨(x_dk dl_33_3_ok 30 rfl), rfl⟩)))))))
def tb_33 : Nat → xE := (x_T 315 (x_T 157 (x_T 76 (x_T 38 tb_33_0 tb_33_20) (x_T 115 tb_33_41 tb_33_61)) (x_T 235 (x_T 197 tb_33_82 tb_33_102) (x_T 273 tb_33_123 tb_33_144))) (x_T 486 (x_T 396 (x_T 356 tb_33_165 tb_33_185) (x_T 440 tb_33_206 tb_33_227)) (x_T 571 (x_T 525 tb_33_248 tb_33_268) (x_T 617 tb_33_289 tb_33_310))))
theorem tb_33_ok (K : xKx) (hK : x_KP K) : ∀ pc, x_EOq cls K xJ mq_33 pc (tb_33 pc) := (x_Tok2 ((x_Tok2 ((x_Tok2 ((x_Tok2 (tb_33_0_ok K hK) (tb_33_20_ok K hK))) ((x_Tok2 (tb_33_41_ok K hK) (tb_33_61_ok K hK))))) ((x_Tok2 ((x_Tok2 (tb_33_82_ok K hK) (tb_33_102_ok K hK))) ((x_Tok2 (tb_33_123_ok K hK) (tb_33_144_ok K hK))))))) ((x_Tok2 ((x_Tok2 ((x_Tok2 (tb_33_165_ok K hK) (tb_33_185_ok K hK))) ((x_Tok2 (tb_33_206_ok K hK) (tb_33_227_ok K hK))))) ((x_Tok2 ((x_Tok2 (tb_33_248_ok K hK) (tb_33_268_ok K hK))) ((x_Tok2 (tb_33_289_ok K hK) (tb_33_310_ok K hK))))))))
end
end
-- part 49nd
section
noncomputable section
def dl_34_0 : List (Nat × Instr × Nat) := [(0, .aload_n 0, 1), (1, .iconst 0, 1), (2, .putfield 265, 3), (5, .aload_n 0, 1), (6, .iconst 0, 1), (7, .putfield 269, 3), (10, .aload_n 0, 1), (11, .iconst 0, 1), (12, .putfield 273, 3), (15, .aload_n 0, 1), (16, .iconst 0, 1), (17, .putfield 276, 3), (20, .aload_n 0, 1), (21, .iconst 0, 1), (22, .putfield 279, 3), (25, .aload_n 0, 1), (26, .iconst 0, 1), (27, .putfield 282, 3), (30, .aload_n 0, 1), (31, .iconst 0, 1), (32, .putfield 285, 3), (35, .aload_n 0, 1), (36, .iconst 0, 1), (37, .putfield 288, 3), (40, .aload_n 0, 1), (41, .iconst 0, 1), (42, .putfield 291, 3), (45, .iconst 0, 1), (46, .istore_n 1, 1), (47, .iload_n 1, 1), (48, .ldc 7, 2), (50, .if_icmp .ge 16, 3), (53, .aload_n 0, 1), (54, .getfield 8, 3), (57, .iload_n 1, 1), (58, .iconst 0, 1), (59, .iastore, 1), (60, .iinc 1 1, 3), (63, .goto (-16), 3), (66, .iconst 0, 1), (67, .istore_n 1, 1), (68, .iload_n 1, 1), (69, .iconst 4, 1), (70, .if_icmp .ge 100, 3), (73, .aload_n 0, 1), (74, .getfield 43, 3), (77, .iload_n 1, 1), (78, .iconst 0, 1), (79, .iastore, 1), (80, .aload_n 0, 1), (81, .getfield 8, 3), (84, .iload_n 1, 1), (85, .invokestatic 294, 3), (88, .iconst 1, 1), (89, .iadd, 1), (90, .iconst (-1), 1), (91, .iastore, 1), (92, .aload_n 0, 1), (93, .getfield 8, 3), (96, .iload_n 1, 1), (97, .invokestatic 294, 3), (100, .iconst 2, 1), (101, .iadd, 1), (102, .iconst (-1), 1), (103, .iastore, 1), (104, .aload_n 0, 1), (105, .getfield 8, 3), (108, .iload_n 1, 1), (109, .invokestatic 294, 3), (112, .iconst 3, 1), (113, .iadd, 1), (114, .iconst (-1), 1), (115, .iastore, 1), (116, .aload_n 0, 1), (117, .getfield 8, 3), (120, .iload_n 1, 1), (121, .invokestatic 294, 3), (124, .bipush 9, 2), (126, .iadd, 1), (127, .iconst (-1), 1), (128, .iastore, 1), (129, .aload_n 0, 1), (130, .getfield 104, 3), (133, .iload_n 1, 1), (134, .iconst (-1), 1), (135, .iastore, 1), (136, .aload_n 0, 1), (137, .getfield 24, 3), (140, .iload_n 1, 1), (141, .iconst 0, 1), (142, .iastore, 1), (143, .aload_n 0, 1), (144, .getfield 201, 3), (147, .iload_n 1, 1), (148, .iconst 0, 1), (149, .iastore, 1), (150, .aload_n 0, 1), (151, .getfield 204, 3), (154, .iload_n 1, 1), (155, .iconst 0, 1)]
set_option maxRecDepth 20000 in
theorem dl_34_0_ok : dl_34_0.all (fun q => decide (decode prog_14_method_3_code q.1 = .ok (q.2.1, q.2.2))) = true := xa_g_ok (by decide +kernel)
def dl_34_1 : List (Nat × Instr × Nat) := [(156, .iastore, 1), (157, .aload_n 0, 1), (158, .getfield 207, 3), (161, .iload_n 1, 1), (162, .iconst 0, 1), (163, .bastore, 1), (164, .iinc 1 1, 3), (167, .goto (-99), 3), (170, .iconst 0, 1), (171, .istore_n 1, 1), (172, .iload_n 1, 1), (173, .bipush 16, 2), (175, .if_icmp .ge 21, 3), (178, .aload_n 0, 1), (179, .getfield 8, 3), (182, .iload_n 1, 1), (183, .invokestatic 298, 3), (186, .iconst 1, 1), (187, .iadd, 1), (188, .iconst (-1), 1), (189, .iastore, 1), (190, .iinc 1 1, 3), (193, .goto (-21), 3), (196, .iconst 0, 1), (197, .istore_n 1, 1), (198, .iload_n 1, 1), (199, .bipush 8, 2), (201, .if_icmp .ge 55, 3), (204, .aload_n 0, 1), (205, .getfield 8, 3), (208, .sipush 20868, 3), (211, .iload_n 1, 1), (212, .iadd, 1), (213, .iconst (-1), 1), (214, .iastore, 1), (215, .aload_n 0, 1), (216, .getfield 8, 3), (219, .sipush 20836, 3), (222, .iconst 4, 1), (223, .iload_n 1, 1), (224, .imul, 1), (225, .iadd, 1), (226, .iconst 1, 1), (227, .iastore, 1), (228, .aload_n 0, 1), (229, .getfield 8, 3), (232, .sipush 20836, 3), (235, .iconst 4, 1), (236, .iload_n 1, 1), (237, .imul, 1), (238, .iadd, 1), (239, .iconst 1, 1), (240, .iadd, 1), (241, .iconst 1, 1), (242, .iastore, 1), (243, .aload_n 0, 1), (244, .getfield 137, 3), (247, .iload_n 1, 1), (248, .iconst 0, 1), (249, .bastore, 1), (250, .iinc 1 1, 3), (253, .goto (-55), 3), (256, .iconst 0, 1), (257, .istore_n 1, 1), (258, .iload_n 1, 1), (259, .bipush 64, 2), (261, .if_icmp .ge 16, 3), (264, .aload_n 0, 1), (265, .getfield 140, 3), (268, .iload_n 1, 1), (269, .iconst (-1), 1), (270, .iastore, 1), (271, .iinc 1 1, 3), (274, .goto (-16), 3), (277, .iconst 0, 1), (278, .istore_n 1, 1), (279, .iload_n 1, 1), (280, .sipush 448, 3), (283, .if_icmp .ge 16, 3), (286, .aload_n 0, 1), (287, .getfield 83, 3), (290, .iload_n 1, 1), (291, .iconst 0, 1), (292, .bastore, 1), (293, .iinc 1 1, 3), (296, .goto (-17), 3), (299, .return_, 1)]
set_option maxRecDepth 20000 in
theorem dl_34_1_ok : dl_34_1.all (fun q => decide (decode prog_14_method_3_code q.1 = .ok (q.2.1, q.2.2))) = true := xa_g_ok (by decide +kernel)
def tb_34_0 : Nat → xE := (x_T 16 (x_T 6 (x_T 1 (x_T 0 (x_L 0 (0, xi_load 0 2 1, 0, 0)) (x_L 1 (0, xi_push (0, 0, 0) 2, 0, 0))) (x_T 2 (x_L 2 (0, xi_putf 12 3 1 5, 0, 0)) (x_T 5 (x_L 5 (0, xi_load 0 2 6, 0, 0)) (x_L 6 (0, xi_push (0, 0, 0) 7, 0, 0))))) (x_T 11 (x_T 7 (x_L 7 (0, xi_putf 12 10 0 10, 0, 0)) (x_T 10 (x_L 10 (0, xi_load 0 2 11, 0, 0)) (x_L 11 (0, xi_push (0, 0, 0) 12, 0, 0)))) (x_T 12 (x_L 12 (0, xi_putf 12 23 0 15, 0, 0)) (x_T 15 (x_L 15 (0, xi_load 0 2 16, 0, 0)) (x_L 16 (0, xi_push (0, 0, 0) 17, 0, 0)))))) (x_T 26 (x_T 21 (x_T 17 (x_L 17 (0, xi_putf 12 30 0 20, 0, 0)) (x_T 20 (x_L 20 (0, xi_load 0 2 21, 0, 0)) (x_L 21 (0, xi_push (0, 0, 0) 22, 0, 0)))) (x_T 22 (x_L 22 (0, xi_putf 12 40 0 25, 0, 0)) (x_T 25 (x_L 25 (0, xi_load 0 2 26, 0, 0)) (x_L 26 (0, xi_push (0, 0, 0) 27, 0, 0))))) (x_T 31 (x_T 27 (x_L 27 (0, xi_putf 12 42 0 30, 0, 0)) (x_T 30 (x_L 30 (0, xi_load 0 2 31, 0, 0)) (x_L 31 (0, xi_push (0, 0, 0) 32, 0, 0)))) (x_T 32 (x_L 32 (0, xi_putf 12 49 0 35, 0, 0)) (x_T 35 (x_L 35 (0, xi_load 0 2 36, 0, 0)) (x_L 36 (0, xi_push (0, 0, 0) 37, 0, 0)))))))
set_option maxRecDepth 20000 in
set_option maxHeartbeats 4000000 in
theorem tb_34_0_ok (K : xKx) (hK : x_KP K) : ∀ pc, x_EOq cls K xJ mq_34 pc (tb_34_0 pc) :=
  (x_Tok2
  (x_Tok2
  (x_Tok2
  (x_Tok2
  (x_Lok (x_st (I := xJ) (xr_aload_n (i := 0) (x_dk dl_34_0_ok 0 rfl))))
  (x_Lok (x_st (I := xJ) (xr_iconst (n := 0) (z := 0) (v := 0) (x_dk dl_34_0_ok 1 rfl) (by decide) (by decide)))))
  (x_Tok2
  (x_Lok (x_st (I := xJ) (xr_putf (ci := 12) (k := 3) (ix := 265) (N := 119) (fk := 1) (C := RX12) (T := TX12) (ty0 := tyX12) (ty := .boolean) rfl in_X12 tyX12_ok nmX12 (by decide) (in_t9 (List.mem_of_getElem? (i := 118) rfl) rfl) rfl rfl x_fit_bool (x_dk dl_34_0_ok 2 rfl))))
  (x_Tok2
  (x_Lok (x_st (I := xJ) (xr_aload_n (i := 0) (x_dk dl_34_0_ok 3 rfl))))
  (x_Lok (x_st (I := xJ) (xr_iconst (n := 0) (z := 0) (v := 0) (x_dk dl_34_0_ok 4 rfl) (by decide) (by decide)))))))
  (x_Tok2
  (x_Tok2
  (x_Lok (x_st (I := xJ) (xr_putf (ci := 12) (k := 10) (ix := 269) (N := 119) (fk := 0) (C := RX12) (T := TX12) (ty0 := tyX12) (ty := .int) rfl in_X12 tyX12_ok nmX12 (by decide) (in_t9 (List.mem_of_getElem? (i := 125) rfl) rfl) rfl rfl x_fit_int (x_dk dl_34_0_ok 5 rfl))))
  (x_Tok2
  (x_Lok (x_st (I := xJ) (xr_aload_n (i := 0) (x_dk dl_34_0_ok 6 rfl))))
  (x_Lok (x_st (I := xJ) (xr_iconst (n := 0) (z := 0) (v := 0) (x_dk dl_34_0_ok 7 rfl) (by decide) (by decide))))))
  (x_Tok2
  (x_Lok (x_st (I := xJ) (xr_putf (ci := 12) (k := 23) (ix := 273) (N := 119) (fk := 0) (C := RX12) (T := TX12) (ty0 := tyX12) (ty := .int) rfl in_X12 tyX12_ok nmX12 (by decide) (in_t9 (List.mem_of_getElem? (i := 138) rfl) rfl) rfl rfl x_fit_int (x_dk dl_34_0_ok 8 rfl))))
  (x_Tok2
  (x_Lok (x_st (I := xJ) (xr_aload_n (i := 0) (x_dk dl_34_0_ok 9 rfl))))
  (x_Lok (x_st (I := xJ) (xr_iconst (n := 0) (z := 0) (v := 0) (x_dk dl_34_0_ok 10 rfl) (by decide) (by decide))))))))
  (x_Tok2
  (x_Tok2
  (x_Tok2
  (x_Lok (x_st (I := xJ) (xr_putf (ci := 12) (k := 30) (ix := 276) (N := 119) (fk := 0) (C := RX12) (T := TX12) (ty0 := tyX12) (ty := .int) rfl in_X12 tyX12_ok nmX12 (by decide) (in_t9 (List.mem_of_getElem? (i := 145) rfl) rfl) rfl rfl x_fit_int (x_dk dl_34_0_ok 11 rfl))))
  (x_Tok2
  (x_Lok (x_st (I := xJ) (xr_aload_n (i := 0) (x_dk dl_34_0_ok 12 rfl))))
  (x_Lok (x_st (I := xJ) (xr_iconst (n := 0) (z := 0) (v := 0) (x_dk dl_34_0_ok 13 rfl) (by decide) (by decide))))))
  (x_Tok2
  (x_Lok (x_st (I := xJ) (xr_putf (ci := 12) (k := 40) (ix := 279) (N := 119) (fk := 0) (C := RX12) (T := TX12) (ty0 := tyX12) (ty := .int) rfl in_X12 tyX12_ok nmX12 (by decide) (in_t9 (List.mem_of_getElem? (i := 155) rfl) rfl) rfl rfl x_fit_int (x_dk dl_34_0_ok 14 rfl))))
  (x_Tok2
  (x_Lok (x_st (I := xJ) (xr_aload_n (i := 0) (x_dk dl_34_0_ok 15 rfl))))
  (x_Lok (x_st (I := xJ) (xr_iconst (n := 0) (z := 0) (v := 0) (x_dk dl_34_0_ok 16 rfl) (by decide) (by decide)))))))
  (x_Tok2
  (x_Tok2
  (x_Lok (x_st (I := xJ) (xr_putf (ci := 12) (k := 42) (ix := 282) (N := 119) (fk := 0) (C := RX12) (T := TX12) (ty0 := tyX12) (ty := .int) rfl in_X12 tyX12_ok nmX12 (by decide) (in_t9 (List.mem_of_getElem? (i := 157) rfl) rfl) rfl rfl x_fit_int (x_dk dl_34_0_ok 17 rfl))))
  (x_Tok2
  (x_Lok (x_st (I := xJ) (xr_aload_n (i := 0) (x_dk dl_34_0_ok 18 rfl))))
  (x_Lok (x_st (I := xJ) (xr_iconst (n := 0) (z := 0) (v := 0) (x_dk dl_34_0_ok 19 rfl) (by decide) (by decide))))))
  (x_Tok2
  (x_Lok (x_st (I := xJ) (xr_putf (ci := 12) (k := 49) (ix := 285) (N := 119) (fk := 0) (C := RX12) (T := TX12) (ty0 := tyX12) (ty := .int) rfl in_X12 tyX12_ok nmX12 (by decide) (in_t9 (List.mem_of_getElem? (i := 164) rfl) rfl) rfl rfl x_fit_int (x_dk dl_34_0_ok 20 rfl))))
  (x_Tok2
  (x_Lok (x_st (I := xJ) (xr_aload_n (i := 0) (x_dk dl_34_0_ok 21 rfl))))
  (x_Lok (x_st (I := xJ) (xr_iconst (n := 0) (z := 0) (v := 0) (x_dk dl_34_0_ok 22 rfl) (by decide) (by decide)))))))))
def tb_34_23 : Nat → xE := (x_T 54 (x_T 45 (x_T 40 (x_T 37 (x_L 37 (0, xi_putf 12 5 0 40, 0, 0)) (x_L 40 (0, xi_load 0 2 41, 0, 0))) (x_T 41 (x_L 41 (0, xi_push (0, 0, 0) 42, 0, 0)) (x_T 42 (x_L 42 (0, xi_putf 12 118 0 45, 0, 0)) (x_L 45 (0, xi_push (0, 0, 0) 46, 0, 0))))) (x_T 48 (x_T 46 (x_L 46 (0, xi_stor 1 0 47, 0, 0)) (x_T 47 (x_L 47 (3, xi_load 1 0 48, 0, 0)) (x_L 48 (0, xi_push (0, 33060, 33060) 50, 0, 0)))) (x_T 50 (x_L 50 (0, xi_if2 3 66 53, 0, 0)) (x_T 53 (x_L 53 (0, xi_load 0 2 54, 0, 0)) (x_L 54 (0, xi_getf 12 0 57, 0, 0)))))) (x_T 66 (x_T 59 (x_T 57 (x_L 57 (0, xi_load 1 0 58, 0, 0)) (x_T 58 (x_L 58 (0, xi_push (0, 0, 0) 59, 0, 0)) (x_L 59 (0, xi_ast false 60, 0, 0)))) (x_T 60 (x_L 60 (0, xi_incT 1 63, 0, 0)) (x_T 63 (x_L 63 (0, xi_goto 47, 0, 0)) (x_L 66 (0, xi_push (0, 0, 0) 67, 0, 0))))) (x_T 69 (x_T 67 (x_L 67 (0, xi_stor 1 0 68, 0, 0)) (x_T 68 (x_L 68 (0, xi_load 1 0 69, 0, 0)) (x_L 69 (0, xi_push (0, 4, 4) 70, 0, 0)))) (x_T 70 (x_L 70 (0, xi_if2 3 170 73, 0, 0)) (x_T 73 (x_L 73 (0, xi_load 0 2 74, 0, 0)) (x_L 74 (0, xi_getf 12 15 77, 0, 0)))))))
set_option maxRecDepth 20000 in
set_option maxHeartbeats 4000000 in
theorem tb_34_23_ok (K : xKx) (hK : x_KP K) : ∀ pc, x_EOq cls K xJ mq_34 pc (tb_34_23 pc) :=
  (x_Tok2
  (x_Tok2
  (x_Tok2
  (x_Tok2
  (x_Lok (x_st (I := xJ) (xr_putf (ci := 12) (k := 5) (ix := 288) (N := 119) (fk := 0) (C := RX12) (T := TX12) (ty0 := tyX12) (ty := .int) rfl in_X12 tyX12_ok nmX12 (by decide) (in_t9 (List.mem_of_getElem? (i := 120) rfl) rfl) rfl rfl x_fit_int (x_dk dl_34_0_ok 23 rfl))))
  (x_Lok (x_st (I := xJ) (xr_aload_n (i := 0) (x_dk dl_34_0_ok 24 rfl)))))
  (x_Tok2
  (x_Lok (x_st (I := xJ) (xr_iconst (n := 0) (z := 0) (v := 0) (x_dk dl_34_0_ok 25 rfl) (by decide) (by decide))))
  (x_Tok2
  (x_Lok (x_st (I := xJ) (xr_putf (ci := 12) (k := 118) (ix := 291) (N := 119) (fk := 0) (C := RX12) (T := TX12) (ty0 := tyX12) (ty := .int) rfl in_X12 tyX12_ok nmX12 (by decide) (in_t9 (List.mem_of_getElem? (i := 233) rfl) rfl) rfl rfl x_fit_int (x_dk dl_34_0_ok 26 rfl))))
  (x_Lok (x_st (I := xJ) (xr_iconst (n := 0) (z := 0) (v := 0) (x_dk dl_34_0_ok 27 rfl) (by decide) (by decide)))))))
  (x_Tok2
  (x_Tok2
  (x_Lok (x_st (I := xJ) (xr_istore_n (i := 1) (x_dk dl_34_0_ok 28 rfl) (by decide +kernel))))
  (x_Tok2
  (x_Lok (x_lo (I := xJ) (L := 0) (xr_iload_n (i := 1) (x_dk dl_34_0_ok 29 rfl))))
  (x_Lok (x_st (I := xJ) (xr_ldc (ix := 7) (z := 33060) (v := 33060) (x_dk dl_34_0_ok 30 rfl) (in_t9 (List.mem_of_getElem? (i := 86) rfl) rfl) (by decide))))))
  (x_Tok2
  (x_Lok (x_st (I := xJ) (xr_icmpge (off := 16) (tg := 66) (x_dk dl_34_0_ok 31 rfl) (by decide))))
  (x_Tok2
  (x_Lok (x_st (I := xJ) (xr_aload_n (i := 0) (x_dk dl_34_0_ok 32 rfl))))
  (x_Lok (x_st (I := xJ) (xr_getf (ci := 12) (k := 0) (ix := 8) (N := 119) (C := RX12) (T := TX12) rfl in_X12 (by decide) (in_t9 (List.mem_of_getElem? (i := 115) rfl) rfl) (x_dk dl_34_0_ok 33 rfl))))))))
  (x_Tok2
  (x_Tok2
  (x_Tok2
  (x_Lok (x_st (I := xJ) (xr_iload_n (i := 1) (x_dk dl_34_0_ok 34 rfl))))
  (x_Tok2
  (x_Lok (x_st (I := xJ) (xr_iconst (n := 0) (z := 0) (v := 0) (x_dk dl_34_0_ok 35 rfl) (by decide) (by decide))))
  (x_Lok (x_st (I := xJ) (xr_iastore (x_dk dl_34_0_ok 36 rfl))))))
  (x_Tok2
  (x_Lok (x_st (I := xJ) (xr_iincT (i := 1) (x_hev hK) (x_dk dl_34_0_ok 37 rfl) (by decide +kernel))))
  (x_Tok2
  (x_Lok (x_st (I := xJ) (xr_goto (off := (-16)) (tg := 47) (x_dk dl_34_0_ok 38 rfl) (by decide))))
  (x_Lok (x_st (I := xJ) (xr_iconst (n := 0) (z := 0) (v := 0) (x_dk dl_34_0_ok 39 rfl) (by decide) (by decide)))))))
  (x_Tok2
  (x_Tok2
  (x_Lok (x_st (I := xJ) (xr_istore_n (i := 1) (x_dk dl_34_0_ok 40 rfl) (by decide +kernel))))
  (x_Tok2
  (x_Lok (x_st (I := xJ) (xr_iload_n (i := 1) (x_dk dl_34_0_ok 41 rfl))))
  (x_Lok (x_st (I := xJ) (xr_iconst (n := 4) (z := 4) (v := 4) (x_dk dl_34_0_ok 42 rfl) (by decide) (by decide))))))
  (x_Tok2
  (x_Lok (x_st (I := xJ) (xr_icmpge (off := 100) (tg := 170) (x_dk dl_34_0_ok 43 rfl) (by decide))))
  (x_Tok2
  (x_Lok (x_st (I := xJ) (xr_aload_n (i := 0) (x_dk dl_34_0_ok 44 rfl))))
  (x_Lok (x_st (I := xJ) (xr_getf (ci := 12) (k := 15) (ix := 43) (N := 119) (C := RX12) (T := TX12) rfl in_X12 (by decide) (in_t9 (List.mem_of_getElem? (i := 130) rfl) rfl) (x_dk dl_34_0_ok 45 rfl)))))))))
def tb_34_46 : Nat → xE := (x_T 91 (x_T 81 (x_T 78 (x_T 77 (x_L 77 (0, xi_load 1 0 78, 0, 0)) (x_L 78 (0, xi_push (0, 0, 0) 79, 0, 0))) (x_T 79 (x_L 79 (0, xi_ast false 80, 0, 0)) (x_T 80 (x_L 80 (0, xi_load 0 2 81, 0, 0)) (x_L 81 (0, xi_getf 12 0 84, 0, 0))))) (x_T 88 (x_T 84 (x_L 84 (0, xi_load 1 0 85, 0, 0)) (x_T 85 (x_L 85 (2, x_nof, 35, 1)) (x_L 88 (0, xi_push (0, 1, 1) 89, 0, 0)))) (x_T 89 (x_L 89 (0, xi_bin xF_add 90, 0, 0)) (x_T 90 (x_L 90 (0, xi_push (0, (-1), (-1)) 91, 0, 0)) (x_L 91 (0, xi_ast false 92, 0, 0)))))) (x_T 101 (x_T 96 (x_T 92 (x_L 92 (0, xi_load 0 2 93, 0, 0)) (x_T 93 (x_L 93 (0, xi_getf 12 0 96, 0, 0)) (x_L 96 (0, xi_load 1 0 97, 0, 0)))) (x_T 97 (x_L 97 (2, x_nof, 35, 1)) (x_T 100 (x_L 100 (0, xi_push (0, 2, 2) 101, 0, 0)) (x_L 101 (0, xi_bin xF_add 102, 0, 0))))) (x_T 104 (x_T 102 (x_L 102 (0, xi_push (0, (-1), (-1)) 103, 0, 0)) (x_T 103 (x_L 103 (0, xi_ast false 104, 0, 0)) (x_L 104 (0, xi_load 0 2 105, 0, 0)))) (x_T 105 (x_L 105 (0, xi_getf 12 0 108, 0, 0)) (x_T 108 (x_L 108 (0, xi_load 1 0 109, 0, 0)) (x_L 109 (2, x_nof, 35, 1)))))))
set_option maxRecDepth 20000 in
set_option maxHeartbeats 4000000 in
theorem tb_34_46_ok (K : xKx) (hK : x_KP K) : ∀ pc, x_EOq cls K xJ mq_34 pc (tb_34_46 pc) :=
  (x_Tok2
  (x_Tok2
  (x_Tok2
  (x_Tok2
  (x_Lok (x_st (I := xJ) (xr_iload_n (i := 1) (x_dk dl_34_0_ok 46 rfl))))
  (x_Lok (x_st (I := xJ) (xr_iconst (n := 0) (z := 0) (v := 0) (x_dk dl_34_0_ok 47 rfl) (by decide) (by decide)))))
  (x_Tok2
  (x_Lok (x_st (I := xJ) (xr_iastore (x_dk dl_34_0_ok 48 rfl))))
  (x_Tok2
  (x_Lok (x_st (I := xJ) (xr_aload_n (i := 0) (x_dk dl_34_0_ok 49 rfl))))
  (x_Lok (x_st (I := xJ) (xr_getf (ci := 12) (k := 0) (ix := 8) (N := 119) (C := RX12) (T := TX12) rfl in_X12 (by decide) (in_t9 (List.mem_of_getElem? (i := 115) rfl) rfl) (x_dk dl_34_0_ok 50 rfl)))))))
  (x_Tok2
  (x_Tok2
  (x_Lok (x_st (I := xJ) (xr_iload_n (i := 1) (x_dk dl_34_0_ok 51 rfl))))
  (x_Tok2
  (x_Lok (x_ca (I := xJ) (q' := mq_35) rfl (xr_callS (q' := mq_35) (ix := 294) (n := 1) (in_t9 (List.mem_of_getElem? (i := 111) rfl) rfl) good_w (in_t1 (List.mem_of_getElem? (i := 14) rfl) rfl) (in_t9 (List.mem_of_getElem? (i := 109) rfl) rfl) (in_t9 (List.mem_of_getElem? (i := 110) rfl) rfl) (by decide +kernel) (by decide +kernel) (x_dk dl_34_0_ok 52 rfl))))
  (x_Lok (x_st (I := xJ) (xr_iconst (n := 1) (z := 1) (v := 1) (x_dk dl_34_0_ok 53 rfl) (by decide) (by decide))))))
  (x_Tok2
  (x_Lok (x_st (I := xJ) (xr_iadd (x_dk dl_34_0_ok 54 rfl))))
  (x_Tok2
  (x_Lok (x_st (I := xJ) (xr_iconst (n := (-1)) (z := (-1)) (v := (-1)) (x_dk dl_34_0_ok 55 rfl) (by decide) (by decide))))
  (x_Lok (x_st (I := xJ) (xr_iastore (x_dk dl_34_0_ok 56 rfl))))))))
  (x_Tok2
  (x_Tok2
  (x_Tok2
  (x_Lok (x_st (I := xJ) (xr_aload_n (i := 0) (x_dk dl_34_0_ok 57 rfl))))
  (x_Tok2
  (x_Lok (x_st (I := xJ) (xr_getf (ci := 12) (k := 0) (ix := 8) (N := 119) (C := RX12) (T := TX12) rfl in_X12 (by decide) (in_t9 (List.mem_of_getElem? (i := 115) rfl) rfl) (x_dk dl_34_0_ok 58 rfl))))
  (x_Lok (x_st (I := xJ) (xr_iload_n (i := 1) (x_dk dl_34_0_ok 59 rfl))))))
  (x_Tok2
  (x_Lok (x_ca (I := xJ) (q' := mq_35) rfl (xr_callS (q' := mq_35) (ix := 294) (n := 1) (in_t9 (List.mem_of_getElem? (i := 111) rfl) rfl) good_w (in_t1 (List.mem_of_getElem? (i := 14) rfl) rfl) (in_t9 (List.mem_of_getElem? (i := 109) rfl) rfl) (in_t9 (List.mem_of_getElem? (i := 110) rfl) rfl) (by decide +kernel) (by decide +kernel) (x_dk dl_34_0_ok 60 rfl))))
  (x_Tok2
  (x_Lok (x_st (I := xJ) (xr_iconst (n := 2) (z := 2) (v := 2) (x_dk dl_34_0_ok 61 rfl) (by decide) (by decide))))
  (x_Lok (x_st (I := xJ) (xr_iadd (x_dk dl_34_0_ok 62 rfl)))))))
  (x_Tok2
  (x_Tok2
  (x_Lok (x_st (I := xJ) (xr_iconst (n := (-1)) (z := (-1)) (v := (-1)) (x_dk dl_34_0_ok 63 rfl) (by decide) (by decide))))
  (x_Tok2
  (x_Lok (x_st (I := xJ) (xr_iastore (x_dk dl_34_0_ok 64 rfl))))
  (x_Lok (x_st (I := xJ) (xr_aload_n (i := 0) (x_dk dl_34_0_ok 65 rfl))))))
  (x_Tok2
  (x_Lok (x_st (I := xJ) (xr_getf (ci := 12) (k := 0) (ix := 8) (N := 119) (C := RX12) (T := TX12) rfl in_X12 (by decide) (in_t9 (List.mem_of_getElem? (i := 115) rfl) rfl) (x_dk dl_34_0_ok 66 rfl))))
  (x_Tok2
  (x_Lok (x_st (I := xJ) (xr_iload_n (i := 1) (x_dk dl_34_0_ok 67 rfl))))
  (x_Lok (x_ca (I := xJ) (q' := mq_35) rfl (xr_callS (q' := mq_35) (ix := 294) (n := 1) (in_t9 (List.mem_of_getElem? (i := 111) rfl) rfl) good_w (in_t1 (List.mem_of_getElem? (i := 14) rfl) rfl) (in_t9 (List.mem_of_getElem? (i := 109) rfl) rfl) (in_t9 (List.mem_of_getElem? (i := 110) rfl) rfl) (by decide +kernel) (by decide +kernel) (x_dk dl_34_0_ok 68 rfl)))))))))
def tb_34_69 : Nat → xE := (x_T 128 (x_T 117 (x_T 114 (x_T 112 (x_L 112 (0, xi_push (0, 3, 3) 113, 0, 0)) (x_T 113 (x_L 113 (0, xi_bin xF_add 114, 0, 0)) (x_L 114 (0, xi_push (0, (-1), (-1)) 115, 0, 0)))) (x_T 115 (x_L 115 (0, xi_ast false 116, 0, 0)) (x_T 116 (x_L 116 (0, xi_load 0 2 117, 0, 0)) (x_L 117 (0, xi_getf 12 0 120, 0, 0))))) (x_T 124 (x_T 120 (x_L 120 (0, xi_load 1 0 121, 0, 0)) (x_T 121 (x_L 121 (2, x_nof, 35, 1)) (x_L 124 (0, xi_push (0, 9, 9) 126, 0, 0)))) (x_T 126 (x_L 126 (0, xi_bin xF_add 127, 0, 0)) (x_T 127 (x_L 127 (0, xi_push (0, (-1), (-1)) 128, 0, 0)) (x_L 128 (0, xi_ast false 129, 0, 0)))))) (x_T 136 (x_T 133 (x_T 129 (x_L 129 (0, xi_load 0 2 130, 0, 0)) (x_T 130 (x_L 130 (0, xi_getf 12 37 133, 0, 0)) (x_L 133 (0, xi_load 1 0 134, 0, 0)))) (x_T 134 (x_L 134 (0, xi_push (0, (-1), (-1)) 135, 0, 0)) (x_T 135 (x_L 135 (0, xi_ast false 136, 0, 0)) (x_L 136 (0, xi_load 0 2 137, 0, 0))))) (x_T 141 (x_T 137 (x_L 137 (0, xi_getf 12 7 140, 0, 0)) (x_T 140 (x_L 140 (0, xi_load 1 0 141, 0, 0)) (x_L 141 (0, xi_push (0, 0, 0) 142, 0, 0)))) (x_T 142 (x_L 142 (0, xi_ast false 143, 0, 0)) (x_T 143 (x_L 143 (0, xi_load 0 2 144, 0, 0)) (x_L 144 (0, xi_getf 12 75 147, 0, 0)))))))
set_option maxRecDepth 20000 in
set_option maxHeartbeats 4000000 in
theorem tb_34_69_ok (K : xKx) (hK : x_KP K) : ∀ pc, x_EOq cls K xJ mq_34 pc (tb_34_69 pc) :=
  (x_Tok2
  (x_Tok2
  (x_Tok2
  (x_Tok2
  (x_Lok (x_st (I := xJ) (xr_iconst (n := 3) (z := 3) (v := 3) (x_dk dl_34_0_ok 69 rfl) (by decide) (by decide))))
  (x_Tok2
  (x_Lok (x_st (I := xJ) (xr_iadd (x_dk dl_34_0_ok 70 rfl))))
  (x_Lok (x_st (I := xJ) (xr_iconst (n := (-1)) (z := (-1)) (v := (-1)) (x_dk dl_34_0_ok 71 rfl) (by decide) (by decide))))))
  (x_Tok2
  (x_Lok (x_st (I := xJ) (xr_iastore (x_dk dl_34_0_ok 72 rfl))))
  (x_Tok2
  (x_Lok (x_st (I := xJ) (xr_aload_n (i := 0) (x_dk dl_34_0_ok 73 rfl))))
  (x_Lok (x_st (I := xJ) (xr_getf (ci := 12) (k := 0) (ix := 8) (N := 119) (C := RX12) (T := TX12) rfl in_X12 (by decide) (in_t9 (List.mem_of_getElem? (i := 115) rfl) rfl) (x_dk dl_34_0_ok 74 rfl)))))))
  (x_Tok2
  (x_Tok2
  (x_Lok (x_st (I := xJ) (xr_iload_n (i := 1) (x_dk dl_34_0_ok 75 rfl))))
  (x_Tok2
  (x_Lok (x_ca (I := xJ) (q' := mq_35) rfl (xr_callS (q' := mq_35) (ix := 294) (n := 1) (in_t9 (List.mem_of_getElem? (i := 111) rfl) rfl) good_w (in_t1 (List.mem_of_getElem? (i := 14) rfl) rfl) (in_t9 (List.mem_of_getElem? (i := 109) rfl) rfl) (in_t9 (List.mem_of_getElem? (i := 110) rfl) rfl) (by decide +kernel) (by decide +kernel) (x_dk dl_34_0_ok 76 rfl))))
  (x_Lok (x_st (I := xJ) (xr_bipush (n := 9) (z := 9) (v := 9) (x_dk dl_34_0_ok 77 rfl) (by decide) (by decide))))))
  (x_Tok2
  (x_Lok (x_st (I := xJ) (xr_iadd (x_dk dl_34_0_ok 78 rfl))))
  (x_Tok2
  (x_Lok (x_st (I := xJ) (xr_iconst (n := (-1)) (z := (-1)) (v := (-1)) (x_dk dl_34_0_ok 79 rfl) (by decide) (by decide))))
  (x_Lok (x_st (I := xJ) (xr_iastore (x_dk dl_34_0_ok 80 rfl))))))))
  (x_Tok2
  (x_Tok2
  (x_Tok2
  (x_Lok (x_st (I := xJ) (xr_aload_n (i := 0) (x_dk dl_34_0_ok 81 rfl))))
  (x_Tok2
  (x_Lok (x_st (I := xJ) (xr_getf (ci := 12) (k := 37) (ix := 104) (N := 119) (C := RX12) (T := TX12) rfl in_X12 (by decide) (in_t9 (List.mem_of_getElem? (i := 152) rfl) rfl) (x_dk dl_34_0_ok 82 rfl))))
  (x_Lok (x_st (I := xJ) (xr_iload_n (i := 1) (x_dk dl_34_0_ok 83 rfl))))))
  (x_Tok2
  (x_Lok (x_st (I := xJ) (xr_iconst (n := (-1)) (z := (-1)) (v := (-1)) (x_dk dl_34_0_ok 84 rfl) (by decide) (by decide))))
  (x_Tok2
  (x_Lok (x_st (I := xJ) (xr_iastore (x_dk dl_34_0_ok 85 rfl))))
  (x_Lok (x_st (I := xJ) (xr_aload_n (i := 0) (x_dk dl_34_0_ok 86 rfl)))))))
  (x_Tok2
  (x_Tok2
  (x_Lok (x_st (I := xJ) (xr_getf (ci := 12) (k := 7) (ix := 24) (N := 119) (C := RX12) (T := TX12) rfl in_X12 (by decide) (in_t9 (List.mem_of_getElem? (i := 122) rfl) rfl) (x_dk dl_34_0_ok 87 rfl))))
  (x_Tok2
  (x_Lok (x_st (I := xJ) (xr_iload_n (i := 1) (x_dk dl_34_0_ok 88 rfl))))
  (x_Lok (x_st (I := xJ) (xr_iconst (n := 0) (z := 0) (v := 0) (x_dk dl_34_0_ok 89 rfl) (by decide) (by decide))))))
  (x_Tok2
  (x_Lok (x_st (I := xJ) (xr_iastore (x_dk dl_34_0_ok 90 rfl))))
  (x_Tok2
  (x_Lok (x_st (I := xJ) (xr_aload_n (i := 0) (x_dk dl_34_0_ok 91 rfl))))
  (x_Lok (x_st (I := xJ) (xr_getf (ci := 12) (k := 75) (ix := 201) (N := 119) (C := RX12) (T := TX12) rfl in_X12 (by decide) (in_t9 (List.mem_of_getElem? (i := 190) rfl) rfl) (x_dk dl_34_0_ok 92 rfl)))))))))
def tb_34_93 : Nat → xE := (x_T 161 (x_T 151 (x_T 148 (x_T 147 (x_L 147 (0, xi_load 1 0 148, 0, 0)) (x_L 148 (0, xi_push (0, 0, 0) 149, 0, 0))) (x_T 149 (x_L 149 (0, xi_ast false 150, 0, 0)) (x_T 150 (x_L 150 (0, xi_load 0 2 151, 0, 0)) (x_L 151 (0, xi_getf 12 76 154, 0, 0))))) (x_T 156 (x_T 154 (x_L 154 (0, xi_load 1 0 155, 0, 0)) (x_T 155 (x_L 155 (0, xi_push (0, 0, 0) 156, 0, 0)) (x_L 156 (0, xi_ast false 157, 0, 0)))) (x_T 157 (x_L 157 (0, xi_load 0 2 158, 0, 0)) (x_T 158 (x_L 158 (0, xi_getf 12 77 161, 0, 0)) (x_L 161 (0, xi_load 1 0 162, 0, 0)))))) (x_T 171 (x_T 164 (x_T 162 (x_L 162 (0, xi_push (0, 0, 0) 163, 0, 0)) (x_T 163 (x_L 163 (0, xi_ast true 164, 0, 0)) (x_L 164 (0, xi_inc 1 1 167, 0, 0)))) (x_T 167 (x_L 167 (0, xi_goto 68, 0, 0)) (x_T 170 (x_L 170 (0, xi_push (0, 0, 0) 171, 0, 0)) (x_L 171 (0, xi_stor 1 0 172, 0, 0))))) (x_T 175 (x_T 172 (x_L 172 (0, xi_load 1 0 173, 0, 0)) (x_T 173 (x_L 173 (0, xi_push (0, 16, 16) 175, 0, 0)) (x_L 175 (0, xi_if2 3 196 178, 0, 0)))) (x_T 178 (x_L 178 (0, xi_load 0 2 179, 0, 0)) (x_T 179 (x_L 179 (0, xi_getf 12 0 182, 0, 0)) (x_L 182 (0, xi_load 1 0 183, 0, 0)))))))
set_option maxRecDepth 20000 in
set_option maxHeartbeats 4000000 in
theorem tb_34_93_ok (K : xKx) (hK : x_KP K) : ∀ pc, x_EOq cls K xJ mq_34 pc (tb_34_93 pc) :=
  (x_Tok2
  (x_Tok2
  (x_Tok2
  (x_Tok2
  (x_Lok (x_st (I := xJ) (xr_iload_n (i := 1) (x_dk dl_34_0_ok 93 rfl))))
  (x_Lok (x_st (I := xJ) (xr_iconst (n := 0) (z := 0) (v := 0) (x_dk dl_34_0_ok 94 rfl) (by decide) (by decide)))))
  (x_Tok2
  (x_Lok (x_st (I := xJ) (xr_iastore (x_dk dl_34_0_ok 95 rfl))))
  (x_Tok2
  (x_Lok (x_st (I := xJ) (xr_aload_n (i := 0) (x_dk dl_34_0_ok 96 rfl))))
  (x_Lok (x_st (I := xJ) (xr_getf (ci := 12) (k := 76) (ix := 204) (N := 119) (C := RX12) (T := TX12) rfl in_X12 (by decide) (in_t9 (List.mem_of_getElem? (i := 191) rfl) rfl) (x_dk dl_34_0_ok 97 rfl)))))))
  (x_Tok2
  (x_Tok2
  (x_Lok (x_st (I := xJ) (xr_iload_n (i := 1) (x_dk dl_34_0_ok 98 rfl))))
  (x_Tok2
  (x_Lok (x_st (I := xJ) (xr_iconst (n := 0) (z := 0) (v := 0) (x_dk dl_34_0_ok 99 rfl) (by decide) (by decide))))
  (x_Lok (x_st (I := xJ) (xr_iastore (x_dk dl_34_1_ok 0 rfl))))))
  (x_Tok2
  (x_Lok (x_st (I := xJ) (xr_aload_n (i := 0) (x_dk dl_34_1_ok 1 rfl))))
  (x_Tok2
  (x_Lok (x_st (I := xJ) (xr_getf (ci := 12) (k := 77) (ix := 207) (N := 119) (C := RX12) (T := TX12) rfl in_X12 (by decide) (in_t9 (List.mem_of_getElem? (i := 192) rfl) rfl) (x_dk dl_34_1_ok 2 rfl))))
  (x_Lok (x_st (I := xJ) (xr_iload_n (i := 1) (x_dk dl_34_1_ok 3 rfl))))))))
  (x_Tok2
  (x_Tok2
  (x_Tok2
  (x_Lok (x_st (I := xJ) (xr_iconst (n := 0) (z := 0) (v := 0) (x_dk dl_34_1_ok 4 rfl) (by decide) (by decide))))
  (x_Tok2
  (x_Lok (x_st (I := xJ) (xr_bastore (x_dk dl_34_1_ok 5 rfl))))
  (x_Lok (x_st (I := xJ) (xr_iinc (i := 1) (n := 1) (x_dk dl_34_1_ok 6 rfl) (by decide +kernel) (by decide))))))
  (x_Tok2
  (x_Lok (x_st (I := xJ) (xr_goto (off := (-99)) (tg := 68) (x_dk dl_34_1_ok 7 rfl) (by decide))))
  (x_Tok2
  (x_Lok (x_st (I := xJ) (xr_iconst (n := 0) (z := 0) (v := 0) (x_dk dl_34_1_ok 8 rfl) (by decide) (by decide))))
  (x_Lok (x_st (I := xJ) (xr_istore_n (i := 1) (x_dk dl_34_1_ok 9 rfl) (by decide +kernel)))))))
  (x_Tok2
  (x_Tok2
  (x_Lok (x_st (I := xJ) (xr_iload_n (i := 1) (x_dk dl_34_1_ok 10 rfl))))
  (x_Tok2
  (x_Lok (x_st (I := xJ) (xr_bipush (n := 16) (z := 16) (v := 16) (x_dk dl_34_1_ok 11 rfl) (by decide) (by decide))))
  (x_Lok (x_st (I := xJ) (xr_icmpge (off := 21) (tg := 196) (x_dk dl_34_1_ok 12 rfl) (by decide))))))
  (x_Tok2
  (x_Lok (x_st (I := xJ) (xr_aload_n (i := 0) (x_dk dl_34_1_ok 13 rfl))))
  (x_Tok2
  (x_Lok (x_st (I := xJ) (xr_getf (ci := 12) (k := 0) (ix := 8) (N := 119) (C := RX12) (T := TX12) rfl in_X12 (by decide) (in_t9 (List.mem_of_getElem? (i := 115) rfl) rfl) (x_dk dl_34_1_ok 14 rfl))))
  (x_Lok (x_st (I := xJ) (xr_iload_n (i := 1) (x_dk dl_34_1_ok 15 rfl)))))))))
def tb_34_116 : Nat → xE := (x_T 201 (x_T 190 (x_T 187 (x_T 183 (x_L 183 (2, x_nof, 36, 1)) (x_T 186 (x_L 186 (0, xi_push (0, 1, 1) 187, 0, 0)) (x_L 187 (0, xi_bin xF_add 188, 0, 0)))) (x_T 188 (x_L 188 (0, xi_push (0, (-1), (-1)) 189, 0, 0)) (x_T 189 (x_L 189 (0, xi_ast false 190, 0, 0)) (x_L 190 (0, xi_inc 1 1 193, 0, 0))))) (x_T 197 (x_T 193 (x_L 193 (0, xi_goto 172, 0, 0)) (x_T 196 (x_L 196 (0, xi_push (0, 0, 0) 197, 0, 0)) (x_L 197 (0, xi_stor 1 0 198, 0, 0)))) (x_T 198 (x_L 198 (0, xi_load 1 0 199, 0, 0)) (x_T 199 (x_L 199 (0, xi_push (0, 8, 8) 201, 0, 0)) (x_L 201 (0, xi_if2 3 256 204, 0, 0)))))) (x_T 213 (x_T 208 (x_T 204 (x_L 204 (0, xi_load 0 2 205, 0, 0)) (x_T 205 (x_L 205 (0, xi_getf 12 0 208, 0, 0)) (x_L 208 (0, xi_push (0, 20868, 20868) 211, 0, 0)))) (x_T 211 (x_L 211 (0, xi_load 1 0 212, 0, 0)) (x_T 212 (x_L 212 (0, xi_bin xF_add 213, 0, 0)) (x_L 213 (0, xi_push (0, (-1), (-1)) 214, 0, 0))))) (x_T 216 (x_T 214 (x_L 214 (0, xi_ast false 215, 0, 0)) (x_T 215 (x_L 215 (0, xi_load 0 2 216, 0, 0)) (x_L 216 (0, xi_getf 12 0 219, 0, 0)))) (x_T 219 (x_L 219 (0, xi_push (0, 20836, 20836) 222, 0, 0)) (x_T 222 (x_L 222 (0, xi_push (0, 4, 4) 223, 0, 0)) (x_L 223 (0, xi_load 1 0 224, 0, 0)))))))
set_option maxRecDepth 20000 in
set_option maxHeartbeats 4000000 in
theorem tb_34_116_ok (K : xKx) (hK : x_KP K) : ∀ pc, x_EOq cls K xJ mq_34 pc (tb_34_116 pc) :=
  (x_Tok2
  (x_Tok2
  (x_Tok2
  (x_Tok2
  (x_Lok (x_ca (I := xJ) (q' := mq_36) rfl (xr_callS (q' := mq_36) (ix := 298) (n := 1) (in_t9 (List.mem_of_getElem? (i := 114) rfl) rfl) good_w (in_t1 (List.mem_of_getElem? (i := 14) rfl) rfl) (in_t9 (List.mem_of_getElem? (i := 112) rfl) rfl) (in_t9 (List.mem_of_getElem? (i := 113) rfl) rfl) (by decide +kernel) (by decide +kernel) (x_dk dl_34_1_ok 16 rfl))))
  (x_Tok2
  (x_Lok (x_st (I := xJ) (xr_iconst (n := 1) (z := 1) (v := 1) (x_dk dl_34_1_ok 17 rfl) (by decide) (by decide))))
  (x_Lok (x_st (I := xJ) (xr_iadd (x_dk dl_34_1_ok 18 rfl))))))
  (x_Tok2
  (x_Lok (x_st (I := xJ) (xr_iconst (n := (-1)) (z := (-1)) (v := (-1)) (x_dk dl_34_1_ok 19 rfl) (by decide) (by decide))))
  (x_Tok2
  (x_Lok (x_st (I := xJ) (xr_iastore (x_dk dl_34_1_ok 20 rfl))))
  (x_Lok (x_st (I := xJ) (xr_iinc (i := 1) (n := 1) (x_dk dl_34_1_ok 21 rfl) (by decide +kernel) (by decide)))))))
  (x_Tok2
  (x_Tok2
  (x_Lok (x_st (I := xJ) (xr_goto (off := (-21)) (tg := 172) (x_dk dl_34_1_ok 22 rfl) (by decide))))
  (x_Tok2
  (x_Lok (x_st (I := xJ) (xr_iconst (n := 0) (z := 0) (v := 0) (x_dk dl_34_1_ok 23 rfl) (by decide) (by decide))))
  (x_Lok (x_st (I := xJ) (xr_istore_n (i := 1) (x_dk dl_34_1_ok 24 rfl) (by decide +kernel))))))
  (x_Tok2
  (x_Lok (x_st (I := xJ) (xr_iload_n (i := 1) (x_dk dl_34_1_ok 25 rfl))))
  (x_Tok2
  (x_Lok (x_st (I := xJ) (xr_bipush (n := 8) (z := 8) (v := 8) (x_dk dl_34_1_ok 26 rfl) (by decide) (by decide))))
  (x_Lok (x_st (I := xJ) (xr_icmpge (off := 55) (tg := 256) (x_dk dl_34_1_ok 27 rfl) (by decide))))))))
  (x_Tok2
  (x_Tok2
  (x_Tok2
  (x_Lok (x_st (I := xJ) (xr_aload_n (i := 0) (x_dk dl_34_1_ok 28 rfl))))
  (x_Tok2
  (x_Lok (x_st (I := xJ) (xr_getf (ci := 12) (k := 0) (ix := 8) (N := 119) (C := RX12) (T := TX12) rfl in_X12 (by decide) (in_t9 (List.mem_of_getElem? (i := 115) rfl) rfl) (x_dk dl_34_1_ok 29 rfl))))
  (x_Lok (x_st (I := xJ) (xr_sipush (n := 20868) (z := 20868) (v := 20868) (x_dk dl_34_1_ok 30 rfl) (by decide) (by decide))))))
  (x_Tok2
  (x_Lok (x_st (I := xJ) (xr_iload_n (i := 1) (x_dk dl_34_1_ok 31 rfl))))
  (x_Tok2
  (x_Lok (x_st (I := xJ) (xr_iadd (x_dk dl_34_1_ok 32 rfl))))
  (x_Lok (x_st (I := xJ) (xr_iconst (n := (-1)) (z := (-1)) (v := (-1)) (x_dk dl_34_1_ok 33 rfl) (by decide) (by decide)))))))
  (x_Tok2
  (x_Tok2
  (x_Lok (x_st (I := xJ) (xr_iastore (x_dk dl_34_1_ok 34 rfl))))
  (x_Tok2
  (x_Lok (x_st (I := xJ) (xr_aload_n (i := 0) (x_dk dl_34_1_ok 35 rfl))))
  (x_Lok (x_st (I := xJ) (xr_getf (ci := 12) (k := 0) (ix := 8) (N := 119) (C := RX12) (T := TX12) rfl in_X12 (by decide) (in_t9 (List.mem_of_getElem? (i := 115) rfl) rfl) (x_dk dl_34_1_ok 36 rfl))))))
  (x_Tok2
  (x_Lok (x_st (I := xJ) (xr_sipush (n := 20836) (z := 20836) (v := 20836) (x_dk dl_34_1_ok 37 rfl) (by decide) (by decide))))
  (x_Tok2
  (x_Lok (x_st (I := xJ) (xr_iconst (n := 4) (z := 4) (v := 4) (x_dk dl_34_1_ok 38 rfl) (by decide) (by decide))))
  (x_Lok (x_st (I := xJ) (xr_iload_n (i := 1) (x_dk dl_34_1_ok 39 rfl)))))))))
def tb_34_140 : Nat → xE := (x_T 238 (x_T 228 (x_T 225 (x_T 224 (x_L 224 (0, xi_bin xF_mul 225, 0, 0)) (x_L 225 (0, xi_bin xF_add 226, 0, 0))) (x_T 226 (x_L 226 (0, xi_push (0, 1, 1) 227, 0, 0)) (x_T 227 (x_L 227 (0, xi_ast false 228, 0, 0)) (x_L 228 (0, xi_load 0 2 229, 0, 0))))) (x_T 235 (x_T 229 (x_L 229 (0, xi_getf 12 0 232, 0, 0)) (x_T 232 (x_L 232 (0, xi_push (0, 20836, 20836) 235, 0, 0)) (x_L 235 (0, xi_push (0, 4, 4) 236, 0, 0)))) (x_T 236 (x_L 236 (0, xi_load 1 0 237, 0, 0)) (x_T 237 (x_L 237 (0, xi_bin xF_mul 238, 0, 0)) (x_L 238 (0, xi_bin xF_add 239, 0, 0)))))) (x_T 244 (x_T 241 (x_T 239 (x_L 239 (0, xi_push (0, 1, 1) 240, 0, 0)) (x_T 240 (x_L 240 (0, xi_bin xF_add 241, 0, 0)) (x_L 241 (0, xi_push (0, 1, 1) 242, 0, 0)))) (x_T 242 (x_L 242 (0, xi_ast false 243, 0, 0)) (x_T 243 (x_L 243 (0, xi_load 0 2 244, 0, 0)) (x_L 244 (0, xi_getf 12 51 247, 0, 0))))) (x_T 249 (x_T 247 (x_L 247 (0, xi_load 1 0 248, 0, 0)) (x_T 248 (x_L 248 (0, xi_push (0, 0, 0) 249, 0, 0)) (x_L 249 (0, xi_ast true 250, 0, 0)))) (x_T 250 (x_L 250 (0, xi_inc 1 1 253, 0, 0)) (x_T 253 (x_L 253 (0, xi_goto 198, 0, 0)) (x_L 256 (0, xi_push (0, 0, 0) 257, 0, 0)))))))
set_option maxRecDepth 20000 in
set_option maxHeartbeats 4000000 in
theorem tb_34_140_ok (K : xKx) (hK : x_KP K) : ∀ pc, x_EOq cls K xJ mq_34 pc (tb_34_140 pc) :=
  (x_Tok2
  (x_Tok2
  (x_Tok2
  (x_Tok2
  (x_Lok (x_st (I := xJ) (xr_imul (x_dk dl_34_1_ok 40 rfl))))
  (x_Lok (x_st (I := xJ) (xr_iadd (x_dk dl_34_1_ok 41 rfl)))))
  (x_Tok2
  (x_Lok (x_st (I := xJ) (xr_iconst (n := 1) (z := 1) (v := 1) (x_dk dl_34_1_ok 42 rfl) (by decide) (by decide))))
  (x_Tok2
  (x_Lok (x_st (I := xJ) (xr_iastore (x_dk dl_34_1_ok 43 rfl))))
  (x_Lok (x_st (I := xJ) (xr_aload_n (i := 0) (x_dk dl_34_1_ok 44 rfl)))))))
  (x_Tok2
  (x_Tok2
  (x_Lok (x_st (I := xJ) (xr_getf (ci := 12) (k := 0) (ix := 8) (N := 119) (C := RX12) (T := TX12) rfl in_X12 (by decide) (in_t9 (List.mem_of_getElem? (i := 115) rfl) rfl) (x_dk dl_34_1_ok 45 rfl))))
  (x_Tok2
  (x_Lok (x_st (I := xJ) (xr_sipush (n := 20836) (z := 20836) (v := 20836) (x_dk dl_34_1_ok 46 rfl) (by decide) (by decide))))
  (x_Lok (x_st (I := xJ) (xr_iconst (n := 4) (z := 4) (v := 4) (x_dk dl_34_1_ok 47 rfl) (by decide) (by decide))))))
  (x_Tok2
  (x_Lok (x_st (I := xJ) (xr_iload_n (i := 1) (x_dk dl_34_1_ok 48 rfl))))
  (x_Tok2
  (x_Lok (x_st (I := xJ) (xr_imul (x_dk dl_34_1_ok 49 rfl))))
  (x_Lok (x_st (I := xJ) (xr_iadd (x_dk dl_34_1_ok 50 rfl))))))))
  (x_Tok2
  (x_Tok2
  (x_Tok2
  (x_Lok (x_st (I := xJ) (xr_iconst (n := 1) (z := 1) (v := 1) (x_dk dl_34_1_ok 51 rfl) (by decide) (by decide))))
  (x_Tok2
  (x_Lok (x_st (I := xJ) (xr_iadd (x_dk dl_34_1_ok 52 rfl))))
  (x_Lok (x_st (I := xJ) (xr_iconst (n := 1) (z := 1) (v := 1) (x_dk dl_34_1_ok 53 rfl) (by decide) (by decide))))))
  (x_Tok2
  (x_Lok (x_st (I := xJ) (xr_iastore (x_dk dl_34_1_ok 54 rfl))))
  (x_Tok2
  (x_Lok (x_st (I := xJ) (xr_aload_n (i := 0) (x_dk dl_34_1_ok 55 rfl))))
  (x_Lok (x_st (I := xJ) (xr_getf (ci := 12) (k := 51) (ix := 137) (N := 119) (C := RX12) (T := TX12) rfl in_X12 (by decide) (in_t9 (List.mem_of_getElem? (i := 166) rfl) rfl) (x_dk dl_34_1_ok 56 rfl)))))))
  (x_Tok2
  (x_Tok2
  (x_Lok (x_st (I := xJ) (xr_iload_n (i := 1) (x_dk dl_34_1_ok 57 rfl))))
  (x_Tok2
  (x_Lok (x_st (I := xJ) (xr_iconst (n := 0) (z := 0) (v := 0) (x_dk dl_34_1_ok 58 rfl) (by decide) (by decide))))
  (x_Lok (x_st (I := xJ) (xr_bastore (x_dk dl_34_1_ok 59 rfl))))))
  (x_Tok2
  (x_Lok (x_st (I := xJ) (xr_iinc (i := 1) (n := 1) (x_dk dl_34_1_ok 60 rfl) (by decide +kernel) (by decide))))
  (x_Tok2
  (x_Lok (x_st (I := xJ) (xr_goto (off := (-55)) (tg := 198) (x_dk dl_34_1_ok 61 rfl) (by decide))))
  (x_Lok (x_st (I := xJ) (xr_iconst (n := 0) (z := 0) (v := 0) (x_dk dl_34_1_ok 62 rfl) (by decide) (by decide)))))))))
def tb_34_163 : Nat → xE := (x_T 277 (x_T 265 (x_T 259 (x_T 257 (x_L 257 (0, xi_stor 1 0 258, 0, 0)) (x_T 258 (x_L 258 (0, xi_load 1 0 259, 0, 0)) (x_L 259 (0, xi_push (0, 64, 64) 261, 0, 0)))) (x_T 261 (x_L 261 (0, xi_if2 3 277 264, 0, 0)) (x_T 264 (x_L 264 (0, xi_load 0 2 265, 0, 0)) (x_L 265 (0, xi_getf 12 52 268, 0, 0))))) (x_T 270 (x_T 268 (x_L 268 (0, xi_load 1 0 269, 0, 0)) (x_T 269 (x_L 269 (0, xi_push (0, (-1), (-1)) 270, 0, 0)) (x_L 270 (0, xi_ast false 271, 0, 0)))) (x_T 271 (x_L 271 (0, xi_inc 1 1 274, 0, 0)) (x_T 274 (x_L 274 (0, xi_goto 258, 0, 0)) (x_L 277 (0, xi_push (0, 0, 0) 278, 0, 0)))))) (x_T 287 (x_T 280 (x_T 278 (x_L 278 (0, xi_stor 1 0 279, 0, 0)) (x_T 279 (x_L 279 (3, xi_load 1 0 280, 1, 0)) (x_L 280 (0, xi_push (0, 448, 448) 283, 0, 0)))) (x_T 283 (x_L 283 (0, xi_if2 3 299 286, 0, 0)) (x_T 286 (x_L 286 (0, xi_load 0 2 287, 0, 0)) (x_L 287 (0, xi_getf 12 29 290, 0, 0))))) (x_T 292 (x_T 290 (x_L 290 (0, xi_load 1 0 291, 0, 0)) (x_T 291 (x_L 291 (0, xi_push (0, 0, 0) 292, 0, 0)) (x_L 292 (0, xi_ast true 293, 0, 0)))) (x_T 293 (x_L 293 (0, xi_incT 1 296, 0, 0)) (x_T 296 (x_L 296 (0, xi_goto 279, 0, 0)) (x_L 299 (1, x_nof, 0, 0)))))))
set_option maxRecDepth 20000 in
set_option maxHeartbeats 4000000 in
theorem tb_34_163_ok (K : xKx) (hK : x_KP K) : ∀ pc, x_EOq cls K xJ mq_34 pc (tb_34_163 pc) :=
  (x_Tok2
  (x_Tok2
  (x_Tok2
  (x_Tok2
  (x_Lok (x_st (I := xJ) (xr_istore_n (i := 1) (x_dk dl_34_1_ok 63 rfl) (by decide +kernel))))
  (x_Tok2
  (x_Lok (x_st (I := xJ) (xr_iload_n (i := 1) (x_dk dl_34_1_ok 64 rfl))))
  (x_Lok (x_st (I := xJ) (xr_bipush (n := 64) (z := 64) (v := 64) (x_dk dl_34_1_ok 65 rfl) (by decide) (by decide))))))
  (x_Tok2
  (x_Lok (x_st (I := xJ) (xr_icmpge (off := 16) (tg := 277) (x_dk dl_34_1_ok 66 rfl) (by decide))))
  (x_Tok2
  (x_Lok (x_st (I := xJ) (xr_aload_n (i := 0) (x_dk dl_34_1_ok 67 rfl))))
  (x_Lok (x_st (I := xJ) (xr_getf (ci := 12) (k := 52) (ix := 140) (N := 119) (C := RX12) (T := TX12) rfl in_X12 (by decide) (in_t9 (List.mem_of_getElem? (i := 167) rfl) rfl) (x_dk dl_34_1_ok 68 rfl)))))))
  (x_Tok2
  (x_Tok2
  (x_Lok (x_st (I := xJ) (xr_iload_n (i := 1) (x_dk dl_34_1_ok 69 rfl))))
  (x_Tok2
  (x_Lok (x_st (I := xJ) (xr_iconst (n := (-1)) (z := (-1)) (v := (-1)) (x_dk dl_34_1_ok 70 rfl) (by decide) (by decide))))
  (x_Lok (x_st (I := xJ) (xr_iastore (x_dk dl_34_1_ok 71 rfl))))))
  (x_Tok2
  (x_Lok (x_st (I := xJ) (xr_iinc (i := 1) (n := 1) (x_dk dl_34_1_ok 72 rfl) (by decide +kernel) (by decide))))
  (x_Tok2
  (x_Lok (x_st (I := xJ) (xr_goto (off := (-16)) (tg := 258) (x_dk dl_34_1_ok 73 rfl) (by decide))))
  (x_Lok (x_st (I := xJ) (xr_iconst (n := 0) (z := 0) (v := 0) (x_dk dl_34_1_ok 74 rfl) (by decide) (by decide))))))))
  (x_Tok2
  (x_Tok2
  (x_Tok2
  (x_Lok (x_st (I := xJ) (xr_istore_n (i := 1) (x_dk dl_34_1_ok 75 rfl) (by decide +kernel))))
  (x_Tok2
  (x_Lok (x_lo (I := xJ) (L := 1) (xr_iload_n (i := 1) (x_dk dl_34_1_ok 76 rfl))))
  (x_Lok (x_st (I := xJ) (xr_sipush (n := 448) (z := 448) (v := 448) (x_dk dl_34_1_ok 77 rfl) (by decide) (by decide))))))
  (x_Tok2
  (x_Lok (x_st (I := xJ) (xr_icmpge (off := 16) (tg := 299) (x_dk dl_34_1_ok 78 rfl) (by decide))))
  (x_Tok2
  (x_Lok (x_st (I := xJ) (xr_aload_n (i := 0) (x_dk dl_34_1_ok 79 rfl))))
  (x_Lok (x_st (I := xJ) (xr_getf (ci := 12) (k := 29) (ix := 83) (N := 119) (C := RX12) (T := TX12) rfl in_X12 (by decide) (in_t9 (List.mem_of_getElem? (i := 144) rfl) rfl) (x_dk dl_34_1_ok 80 rfl)))))))
  (x_Tok2
  (x_Tok2
  (x_Lok (x_st (I := xJ) (xr_iload_n (i := 1) (x_dk dl_34_1_ok 81 rfl))))
  (x_Tok2
  (x_Lok (x_st (I := xJ) (xr_iconst (n := 0) (z := 0) (v := 0) (x_dk dl_34_1_ok 82 rfl) (by decide) (by decide))))
  (x_Lok (x_st (I := xJ) (xr_bastore (x_dk dl_34_1_ok 83 rfl))))))
  (x_Tok2
  (x_Lok (x_st (I := xJ) (xr_iincT (i := 1) (x_hev hK) (x_dk dl_34_1_ok 84 rfl) (by decide +kernel))))
  (x_Tok2
  (x_Lok (x_st (I := xJ) (xr_goto (off := (-17)) (tg := 279) (x_dk dl_34_1_ok 85 rfl) (by decide))))
  (x_Lok (x_rt (I := xJ) (k := 0) ⟨(x_dk dl_34_1_ok 86 rfl), rfl⟩)))))))
def tb_34 : Nat → xE := (x_T 144 (x_T 74 (x_T 36 tb_34_0 tb_34_23) (x_T 109 tb_34_46 tb_34_69)) (x_T 223 (x_T 182 tb_34_93 tb_34_116) (x_T 256 tb_34_140 tb_34_163)))
theorem tb_34_ok (K : xKx) (hK : x_KP K) : ∀ pc, x_EOq cls K xJ mq_34 pc (tb_34 pc) := (x_Tok2 ((x_Tok2 ((x_Tok2 (tb_34_0_ok K hK) (tb_34_23_ok K hK))) ((x_Tok2 (tb_34_46_ok K hK) (tb_34_69_ok K hK))))) ((x_Tok2 ((x_Tok2 (tb_34_93_ok K hK) (tb_34_116_ok K hK))) ((x_Tok2 (tb_34_140_ok K hK) (tb_34_163_ok K hK))))))
def dl_35_0 : List (Nat × Instr × Nat) := [(0, .bipush 16, 2), (2, .bipush 36, 2), (4, .iload_n 0, 1), (5, .imul, 1), (6, .iadd, 1), (7, .ireturn, 1)]
set_option maxRecDepth 20000 in
theorem dl_35_0_ok : dl_35_0.all (fun q => decide (decode prog_14_method_4_code q.1 = .ok (q.2.1, q.2.2))) = true := xa_g_ok (by decide +kernel)
def tb_35_0 : Nat → xE := (x_T 4 (x_T 0 (x_L 0 (0, xi_push (0, 16, 16) 2, 0, 0)) (x_T 2 (x_L 2 (0, xi_push (0, 36, 36) 4, 0, 0)) (x_L 4 (0, xi_load 0 0 5, 0, 0)))) (x_T 5 (x_L 5 (0, xi_bin xF_mul 6, 0, 0)) (x_T 6 (x_L 6 (0, xi_bin xF_add 7, 0, 0)) (x_L 7 (1, x_nof, 1, 0)))))
set_option maxRecDepth 20000 in
set_option maxHeartbeats 4000000 in
theorem tb_35_0_ok (K : xKx) (hK : x_KP K) : ∀ pc, x_EOq cls K xJ mq_35 pc (tb_35_0 pc) :=
  (x_Tok2
  (x_Tok2
  (x_Lok (x_st (I := xJ) (xr_bipush (n := 16) (z := 16) (v := 16) (x_dk dl_35_0_ok 0 rfl) (by decide) (by decide))))
  (x_Tok2
  (x_Lok (x_st (I := xJ) (xr_bipush (n := 36) (z := 36) (v := 36) (x_dk dl_35_0_ok 1 rfl) (by decide) (by decide))))
  (x_Lok (x_st (I := xJ) (xr_iload_n (i := 0) (x_dk dl_35_0_ok 2 rfl))))))
  (x_Tok2
  (x_Lok (x_st (I := xJ) (xr_imul (x_dk dl_35_0_ok 3 rfl))))
  (x_Tok2
  (x_Lok (x_st (I := xJ) (xr_iadd (x_dk dl_35_0_ok 4 rfl))))
  (x_Lok (x_rt (I := xJ) (k := 1) ⟨(x_dk dl_35_0_ok 5 rfl), rfl⟩)))))
def tb_35 : Nat → xE := tb_35_0
theorem tb_35_ok (K : xKx) (hK : x_KP K) : ∀ pc, x_EOq cls K xJ mq_35 pc (tb_35 pc) := tb_35_0_ok K hK
def dl_36_0 : List (Nat × Instr × Nat) := [(0, .sipush 416, 3), (3, .sipush 1260, 3), (6, .iload_n 0, 1), (7, .imul, 1), (8, .iadd, 1), (9, .ireturn, 1)]
set_option maxRecDepth 20000 in
theorem dl_36_0_ok : dl_36_0.all (fun q => decide (decode prog_14_method_5_code q.1 = .ok (q.2.1, q.2.2))) = true := xa_g_ok (by decide +kernel)
def tb_36_0 : Nat → xE := (x_T 6 (x_T 0 (x_L 0 (0, xi_push (0, 416, 416) 3, 0, 0)) (x_T 3 (x_L 3 (0, xi_push (0, 1260, 1260) 6, 0, 0)) (x_L 6 (0, xi_load 0 0 7, 0, 0)))) (x_T 7 (x_L 7 (0, xi_bin xF_mul 8, 0, 0)) (x_T 8 (x_L 8 (0, xi_bin xF_add 9, 0, 0)) (x_L 9 (1, x_nof, 1, 0)))))
set_option maxRecDepth 20000 in
set_option maxHeartbeats 4000000 in
theorem tb_36_0_ok (K : xKx) (hK : x_KP K) : ∀ pc, x_EOq cls K xJ mq_36 pc (tb_36_0 pc) :=
  (x_Tok2
  (x_Tok2
  (x_Lok (x_st (I := xJ) (xr_sipush (n := 416) (z := 416) (v := 416) (x_dk dl_36_0_ok 0 rfl) (by decide) (by decide))))
  (x_Tok2
  (x_Lok (x_st (I := xJ) (xr_sipush (n := 1260) (z := 1260) (v := 1260) (x_dk dl_36_0_ok 1 rfl) (by decide) (by decide))))
  (x_Lok (x_st (I := xJ) (xr_iload_n (i := 0) (x_dk dl_36_0_ok 2 rfl))))))
  (x_Tok2
  (x_Lok (x_st (I := xJ) (xr_imul (x_dk dl_36_0_ok 3 rfl))))
  (x_Tok2
  (x_Lok (x_st (I := xJ) (xr_iadd (x_dk dl_36_0_ok 4 rfl))))
  (x_Lok (x_rt (I := xJ) (k := 1) ⟨(x_dk dl_36_0_ok 5 rfl), rfl⟩)))))
def tb_36 : Nat → xE := tb_36_0
theorem tb_36_ok (K : xKx) (hK : x_KP K) : ∀ pc, x_EOq cls K xJ mq_36 pc (tb_36 pc) := tb_36_0_ok K hK
def dl_37_0 : List (Nat × Instr × Nat) := [(0, .lload_n 0, 1), (1, .bipush 30, 2), (3, .lshr, 1), (4, .lstore 4, 2), (6, .lload_n 0, 1), (7, .ldc2_w 372, 3), (10, .land, 1), (11, .lstore 6, 2), (13, .lload_n 2, 1), (14, .bipush 30, 2), (16, .lshr, 1), (17, .lstore 8, 2), (19, .lload_n 2, 1), (20, .ldc2_w 372, 3), (23, .land, 1), (24, .lstore 10, 2), (26, .lload 4, 2), (28, .lload 8, 2), (30, .lmul, 1), (31, .lload 4, 2), (33, .lload 10, 2), (35, .lmul, 1), (36, .lload 6, 2), (38, .lload 8, 2), (40, .lmul, 1), (41, .ladd, 1), (42, .lload 6, 2), (44, .lload 10, 2), (46, .lmul, 1), (47, .bipush 30, 2), (49, .lshr, 1), (50, .ladd, 1), (51, .bipush 30, 2), (53, .lshr, 1), (54, .ladd, 1), (55, .lreturn, 1)]
set_option maxRecDepth 20000 in
theorem dl_37_0_ok : dl_37_0.all (fun q => decide (decode prog_14_method_33_code q.1 = .ok (q.2.1, q.2.2))) = true := xa_g_ok (by decide +kernel)
def tb_37_0 : Nat → xE := (x_T 28 (x_T 13 (x_T 4 (x_T 1 (x_T 0 (x_L 0 (0, xi_load 0 1 1, 0, 0)) (x_L 1 (0, xi_push (0, 30, 30) 3, 0, 0))) (x_T 3 (x_L 3 (0, xi_shL xF_shrL 4, 0, 0)) (x_L 4 (0, xi_stor 4 1 6, 0, 0)))) (x_T 7 (x_T 6 (x_L 6 (0, xi_load 0 1 7, 0, 0)) (x_L 7 (0, xi_push (4, 1073741823, 1073741823) 10, 0, 0))) (x_T 10 (x_L 10 (0, xi_binL xF_andL 11, 0, 0)) (x_T 11 (x_L 11 (0, xi_stor 6 1 13, 0, 0)) (x_L 13 (0, xi_load 2 1 14, 0, 0)))))) (x_T 19 (x_T 16 (x_T 14 (x_L 14 (0, xi_push (0, 30, 30) 16, 0, 0)) (x_L 16 (0, xi_shL xF_shrL 17, 0, 0))) (x_T 17 (x_L 17 (0, xi_stor 8 1 19, 0, 0)) (x_L 19 (0, xi_load 2 1 20, 0, 0)))) (x_T 23 (x_T 20 (x_L 20 (0, xi_push (4, 1073741823, 1073741823) 23, 0, 0)) (x_L 23 (0, xi_binL xF_andL 24, 0, 0))) (x_T 24 (x_L 24 (0, xi_stor 10 1 26, 0, 0)) (x_T 26 (x_L 26 (0, xi_load 4 1 28, 0, 0)) (x_L 28 (0, xi_load 8 1 30, 0, 0))))))) (x_T 42 (x_T 35 (x_T 31 (x_T 30 (x_L 30 (0, xi_binL xF_mulL 31, 0, 0)) (x_L 31 (0, xi_load 4 1 33, 0, 0))) (x_T 33 (x_L 33 (0, xi_load 10 1 35, 0, 0)) (x_L 35 (0, xi_binL xF_mulL 36, 0, 0)))) (x_T 38 (x_T 36 (x_L 36 (0, xi_load 6 1 38, 0, 0)) (x_L 38 (0, xi_load 8 1 40, 0, 0))) (x_T 40 (x_L 40 (0, xi_binL xF_mulL 41, 0, 0)) (x_T 41 (x_L 41 (0, xi_binL xF_addL 42, 0, 0)) (x_L 42 (0, xi_load 6 1 44, 0, 0)))))) (x_T 49 (x_T 46 (x_T 44 (x_L 44 (0, xi_load 10 1 46, 0, 0)) (x_L 46 (0, xi_binL xF_mulL 47, 0, 0))) (x_T 47 (x_L 47 (0, xi_push (0, 30, 30) 49, 0, 0)) (x_L 49 (0, xi_shL xF_shrL 50, 0, 0)))) (x_T 51 (x_T 50 (x_L 50 (0, xi_binL xF_addL 51, 0, 0)) (x_L 51 (0, xi_push (0, 30, 30) 53, 0, 0))) (x_T 53 (x_L 53 (0, xi_shL xF_shrL 54, 0, 0)) (x_T 54 (x_L 54 (0, xi_binL xF_addL 55, 0, 0)) (x_L 55 (1, x_nof, 2, 0))))))))
set_option maxRecDepth 20000 in
set_option maxHeartbeats 4000000 in
theorem tb_37_0_ok (K : xKx) (hK : x_KP K) : ∀ pc, x_EOq cls K xJ mq_37 pc (tb_37_0 pc) :=
  (x_Tok2
  (x_Tok2
  (x_Tok2
  (x_Tok2
  (x_Tok2
  (x_Lok (x_st (I := xJ) (xr_lload_n (i := 0) (x_dk dl_37_0_ok 0 rfl))))
  (x_Lok (x_st (I := xJ) (xr_bipush (n := 30) (z := 30) (v := 30) (x_dk dl_37_0_ok 1 rfl) (by decide) (by decide)))))
  (x_Tok2
  (x_Lok (x_st (I := xJ) (xr_lshr (x_dk dl_37_0_ok 2 rfl))))
  (x_Lok (x_st (I := xJ) (xr_lstore (i := 4) (x_dk dl_37_0_ok 3 rfl) (by decide +kernel))))))
  (x_Tok2
  (x_Tok2
  (x_Lok (x_st (I := xJ) (xr_lload_n (i := 0) (x_dk dl_37_0_ok 4 rfl))))
  (x_Lok (x_st (I := xJ) (xr_ldc2 (ix := 372) (z := 1073741823) (v := 1073741823) (x_dk dl_37_0_ok 5 rfl) (in_t9 (List.mem_of_getElem? (i := 102) rfl) rfl) (by decide)))))
  (x_Tok2
  (x_Lok (x_st (I := xJ) (xr_land (x_dk dl_37_0_ok 6 rfl))))
  (x_Tok2
  (x_Lok (x_st (I := xJ) (xr_lstore (i := 6) (x_dk dl_37_0_ok 7 rfl) (by decide +kernel))))
  (x_Lok (x_st (I := xJ) (xr_lload_n (i := 2) (x_dk dl_37_0_ok 8 rfl))))))))
  (x_Tok2
  (x_Tok2
  (x_Tok2
  (x_Lok (x_st (I := xJ) (xr_bipush (n := 30) (z := 30) (v := 30) (x_dk dl_37_0_ok 9 rfl) (by decide) (by decide))))
  (x_Lok (x_st (I := xJ) (xr_lshr (x_dk dl_37_0_ok 10 rfl)))))
  (x_Tok2
  (x_Lok (x_st (I := xJ) (xr_lstore (i := 8) (x_dk dl_37_0_ok 11 rfl) (by decide +kernel))))
  (x_Lok (x_st (I := xJ) (xr_lload_n (i := 2) (x_dk dl_37_0_ok 12 rfl))))))
  (x_Tok2
  (x_Tok2
  (x_Lok (x_st (I := xJ) (xr_ldc2 (ix := 372) (z := 1073741823) (v := 1073741823) (x_dk dl_37_0_ok 13 rfl) (in_t9 (List.mem_of_getElem? (i := 102) rfl) rfl) (by decide))))
  (x_Lok (x_st (I := xJ) (xr_land (x_dk dl_37_0_ok 14 rfl)))))
  (x_Tok2
  (x_Lok (x_st (I := xJ) (xr_lstore (i := 10) (x_dk dl_37_0_ok 15 rfl) (by decide +kernel))))
  (x_Tok2
  (x_Lok (x_st (I := xJ) (xr_lload (i := 4) (x_dk dl_37_0_ok 16 rfl))))
  (x_Lok (x_st (I := xJ) (xr_lload (i := 8) (x_dk dl_37_0_ok 17 rfl)))))))))
  (x_Tok2
  (x_Tok2
  (x_Tok2
  (x_Tok2
  (x_Lok (x_st (I := xJ) (xr_lmul (x_dk dl_37_0_ok 18 rfl))))
  (x_Lok (x_st (I := xJ) (xr_lload (i := 4) (x_dk dl_37_0_ok 19 rfl)))))
  (x_Tok2
  (x_Lok (x_st (I := xJ) (xr_lload (i := 10) (x_dk dl_37_0_ok 20 rfl))))
  (x_Lok (x_st (I := xJ) (xr_lmul (x_dk dl_37_0_ok 21 rfl))))))
  (x_Tok2
  (x_Tok2
  (x_Lok (x_st (I := xJ) (xr_lload (i := 6) (x_dk dl_37_0_ok 22 rfl))))
  (x_Lok (x_st (I := xJ) (xr_lload (i := 8) (x_dk dl_37_0_ok 23 rfl)))))
  (x_Tok2
  (x_Lok (x_st (I := xJ) (xr_lmul (x_dk dl_37_0_ok 24 rfl))))
  (x_Tok2
  (x_Lok (x_st (I := xJ) (xr_ladd (x_dk dl_37_0_ok 25 rfl))))
  (x_Lok (x_st (I := xJ) (xr_lload (i := 6) (x_dk dl_37_0_ok 26 rfl))))))))
  (x_Tok2
  (x_Tok2
  (x_Tok2
  (x_Lok (x_st (I := xJ) (xr_lload (i := 10) (x_dk dl_37_0_ok 27 rfl))))
  (x_Lok (x_st (I := xJ) (xr_lmul (x_dk dl_37_0_ok 28 rfl)))))
  (x_Tok2
  (x_Lok (x_st (I := xJ) (xr_bipush (n := 30) (z := 30) (v := 30) (x_dk dl_37_0_ok 29 rfl) (by decide) (by decide))))
  (x_Lok (x_st (I := xJ) (xr_lshr (x_dk dl_37_0_ok 30 rfl))))))
  (x_Tok2
  (x_Tok2
  (x_Lok (x_st (I := xJ) (xr_ladd (x_dk dl_37_0_ok 31 rfl))))
  (x_Lok (x_st (I := xJ) (xr_bipush (n := 30) (z := 30) (v := 30) (x_dk dl_37_0_ok 32 rfl) (by decide) (by decide)))))
  (x_Tok2
  (x_Lok (x_st (I := xJ) (xr_lshr (x_dk dl_37_0_ok 33 rfl))))
  (x_Tok2
  (x_Lok (x_st (I := xJ) (xr_ladd (x_dk dl_37_0_ok 34 rfl))))
  (x_Lok (x_rt (I := xJ) (k := 2) ⟨(x_dk dl_37_0_ok 35 rfl), rfl⟩))))))))
def tb_37 : Nat → xE := tb_37_0
theorem tb_37_ok (K : xKx) (hK : x_KP K) : ∀ pc, x_EOq cls K xJ mq_37 pc (tb_37 pc) := tb_37_0_ok K hK
def dl_38_0 : List (Nat × Instr × Nat) := [(0, .lload_n 0, 1), (1, .lload_n 0, 1), (2, .invokestatic 374, 3), (5, .lstore_n 3, 1), (6, .iload_n 2, 1), (7, .iconst 1, 1), (8, .if_icmp .ne 7, 3), (11, .lload_n 0, 1), (12, .goto 6, 3), (15, .ldc2_w 378, 3), (18, .lstore 5, 2), (20, .lconst 0, 1), (21, .lstore 7, 2), (23, .iload_n 2, 1), (24, .istore 9, 2), (26, .iconst 1, 1), (27, .istore 10, 2), (29, .lload 5, 2), (31, .lconst 0, 1), (32, .lcmp, 1), (33, .ifCond .le 58, 3), (36, .lload 7, 2), (38, .iload 10, 2), (40, .ifCond .eq 8, 3), (43, .lload 5, 2), (45, .goto 6, 3), (48, .lload 5, 2), (50, .lneg, 1), (51, .ladd, 1), (52, .lstore 7, 2), (54, .lload 5, 2), (56, .lload_n 3, 1), (57, .invokestatic 374, 3), (60, .iload 9, 2), (62, .iconst 1, 1), (63, .iadd, 1), (64, .iload 9, 2), (66, .iconst 2, 1), (67, .iadd, 1), (68, .imul, 1), (69, .i2l, 1), (70, .ldiv, 1), (71, .lstore 5, 2), (73, .iinc 9 2, 3), (76, .iload 10, 2), (78, .ifCond .ne 7, 3), (81, .iconst 1, 1), (82, .goto 4, 3), (85, .iconst 0, 1), (86, .istore 10, 2), (88, .goto (-59), 3), (91, .lload 7, 2), (93, .lreturn, 1)]
set_option maxRecDepth 20000 in
theorem dl_38_0_ok : dl_38_0.all (fun q => decide (decode prog_14_method_34_code q.1 = .ok (q.2.1, q.2.2))) = true := xa_g_ok (by decide +kernel)
def tb_38_0 : Nat → xE := (x_T 21 (x_T 7 (x_T 2 (x_T 0 (x_L 0 (0, xi_load 0 1 1, 0, 0)) (x_T 1 (x_L 1 (0, xi_load 0 1 2, 0, 0)) (x_L 2 (2, x_nof, 37, 2)))) (x_T 5 (x_L 5 (0, xi_stor 3 1 6, 0, 0)) (x_T 6 (x_L 6 (0, xi_load 2 0 7, 0, 0)) (x_L 7 (0, xi_push (0, 1, 1) 8, 0, 0))))) (x_T 12 (x_T 8 (x_L 8 (0, xi_if2 1 15 11, 0, 0)) (x_T 11 (x_L 11 (0, xi_load 0 1 12, 0, 0)) (x_L 12 (0, xi_goto 18, 0, 0)))) (x_T 18 (x_T 15 (x_L 15 (0, xi_push (4, 1152921504606846976, 1152921504606846976) 18, 0, 0)) (x_L 18 (0, xi_stor 5 1 20, 0, 0))) (x_T 20 (x_L 20 (0, xi_push (4, 0, 0) 21, 0, 0)) (x_L 21 (0, xi_stor 7 1 23, 0, 0)))))) (x_T 31 (x_T 26 (x_T 23 (x_L 23 (0, xi_load 2 0 24, 0, 0)) (x_T 24 (x_L 24 (0, xi_stor 9 0 26, 0, 0)) (x_L 26 (0, xi_push (0, 1, 1) 27, 0, 0)))) (x_T 27 (x_L 27 (0, xi_stor 10 0 29, 0, 0)) (x_T 29 (x_L 29 (0, xi_load 5 1 31, 0, 0)) (x_L 31 (0, xi_push (4, 0, 0) 32, 0, 0))))) (x_T 38 (x_T 32 (x_L 32 (0, xi_lif 5 91 36, 0, 0)) (x_T 36 (x_L 36 (0, xi_load 7 1 38, 0, 0)) (x_L 38 (0, xi_load 10 0 40, 0, 0)))) (x_T 43 (x_T 40 (x_L 40 (0, xi_if1 0 48 43, 0, 0)) (x_L 43 (0, xi_load 5 1 45, 0, 0))) (x_T 45 (x_L 45 (0, xi_goto 51, 0, 0)) (x_L 48 (0, xi_load 5 1 50, 0, 0)))))))
set_option maxRecDepth 20000 in
set_option maxHeartbeats 4000000 in
theorem tb_38_0_ok (K : xKx) (hK : x_KP K) : ∀ pc, x_EOq cls K xJ mq_38 pc (tb_38_0 pc) :=
  (x_Tok2
  (x_Tok2
  (x_Tok2
  (x_Tok2
  (x_Lok (x_st (I := xJ) (xr_lload_n (i := 0) (x_dk dl_38_0_ok 0 rfl))))
  (x_Tok2
  (x_Lok (x_st (I := xJ) (xr_lload_n (i := 0) (x_dk dl_38_0_ok 1 rfl))))
  (x_Lok (x_ca (I := xJ) (q' := mq_37) rfl (xr_callS (q' := mq_37) (ix := 374) (n := 2) (in_t9 (List.mem_of_getElem? (i := 101) rfl) rfl) good_w (in_t1 (List.mem_of_getElem? (i := 14) rfl) rfl) (in_t9 (List.mem_of_getElem? (i := 99) rfl) rfl) (in_t9 (List.mem_of_getElem? (i := 100) rfl) rfl) (by decide +kernel) (by decide +kernel) (x_dk dl_38_0_ok 2 rfl))))))
  (x_Tok2
  (x_Lok (x_st (I := xJ) (xr_lstore_n (i := 3) (x_dk dl_38_0_ok 3 rfl) (by decide +kernel))))
  (x_Tok2
  (x_Lok (x_st (I := xJ) (xr_iload_n (i := 2) (x_dk dl_38_0_ok 4 rfl))))
  (x_Lok (x_st (I := xJ) (xr_iconst (n := 1) (z := 1) (v := 1) (x_dk dl_38_0_ok 5 rfl) (by decide) (by decide)))))))
  (x_Tok2
  (x_Tok2
  (x_Lok (x_st (I := xJ) (xr_icmpne (off := 7) (tg := 15) (x_dk dl_38_0_ok 6 rfl) (by decide))))
  (x_Tok2
  (x_Lok (x_st (I := xJ) (xr_lload_n (i := 0) (x_dk dl_38_0_ok 7 rfl))))
  (x_Lok (x_st (I := xJ) (xr_goto (off := 6) (tg := 18) (x_dk dl_38_0_ok 8 rfl) (by decide))))))
  (x_Tok2
  (x_Tok2
  (x_Lok (x_st (I := xJ) (xr_ldc2 (ix := 378) (z := 1152921504606846976) (v := 1152921504606846976) (x_dk dl_38_0_ok 9 rfl) (in_t9 (List.mem_of_getElem? (i := 103) rfl) rfl) (by decide))))
  (x_Lok (x_st (I := xJ) (xr_lstore (i := 5) (x_dk dl_38_0_ok 10 rfl) (by decide +kernel)))))
  (x_Tok2
  (x_Lok (x_st (I := xJ) (xr_lconst (n := 0) (z := 0) (v := 0) (x_dk dl_38_0_ok 11 rfl) (by decide) (by decide))))
  (x_Lok (x_st (I := xJ) (xr_lstore (i := 7) (x_dk dl_38_0_ok 12 rfl) (by decide +kernel))))))))
  (x_Tok2
  (x_Tok2
  (x_Tok2
  (x_Lok (x_st (I := xJ) (xr_iload_n (i := 2) (x_dk dl_38_0_ok 13 rfl))))
  (x_Tok2
  (x_Lok (x_st (I := xJ) (xr_istore (i := 9) (x_dk dl_38_0_ok 14 rfl) (by decide +kernel))))
  (x_Lok (x_st (I := xJ) (xr_iconst (n := 1) (z := 1) (v := 1) (x_dk dl_38_0_ok 15 rfl) (by decide) (by decide))))))
  (x_Tok2
  (x_Lok (x_st (I := xJ) (xr_istore (i := 10) (x_dk dl_38_0_ok 16 rfl) (by decide +kernel))))
  (x_Tok2
  (x_Lok (x_st (I := xJ) (xr_lload (i := 5) (x_dk dl_38_0_ok 17 rfl))))
  (x_Lok (x_st (I := xJ) (xr_lconst (n := 0) (z := 0) (v := 0) (x_dk dl_38_0_ok 18 rfl) (by decide) (by decide)))))))
  (x_Tok2
  (x_Tok2
  (x_Lok (x_st (I := xJ) (xr_lifle (off := 58) (tg := 91) (x_dk dl_38_0_ok 19 rfl) (x_dk dl_38_0_ok 20 rfl) (by decide))))
  (x_Tok2
  (x_Lok (x_st (I := xJ) (xr_lload (i := 7) (x_dk dl_38_0_ok 21 rfl))))
  (x_Lok (x_st (I := xJ) (xr_iload (i := 10) (x_dk dl_38_0_ok 22 rfl))))))
  (x_Tok2
  (x_Tok2
  (x_Lok (x_st (I := xJ) (xr_ifeq (off := 8) (tg := 48) (x_dk dl_38_0_ok 23 rfl) (by decide))))
  (x_Lok (x_st (I := xJ) (xr_lload (i := 5) (x_dk dl_38_0_ok 24 rfl)))))
  (x_Tok2
  (x_Lok (x_st (I := xJ) (xr_goto (off := 6) (tg := 51) (x_dk dl_38_0_ok 25 rfl) (by decide))))
  (x_Lok (x_st (I := xJ) (xr_lload (i := 5) (x_dk dl_38_0_ok 26 rfl)))))))))
def tb_38_26 : Nat → xE := (x_T 68 (x_T 57 (x_T 52 (x_T 50 (x_L 50 (0, xi_unL xF_negL 51, 0, 0)) (x_T 51 (x_L 51 (0, xi_binL xF_addL 52, 0, 0)) (x_L 52 (0, xi_stor 7 1 54, 0, 0)))) (x_T 54 (x_L 54 (0, xi_load 5 1 56, 0, 0)) (x_T 56 (x_L 56 (0, xi_load 3 1 57, 0, 0)) (x_L 57 (2, x_nof, 37, 2))))) (x_T 63 (x_T 60 (x_L 60 (0, xi_load 9 0 62, 0, 0)) (x_T 62 (x_L 62 (0, xi_push (0, 1, 1) 63, 0, 0)) (x_L 63 (0, xi_bin xF_add 64, 0, 0)))) (x_T 66 (x_T 64 (x_L 64 (0, xi_load 9 0 66, 0, 0)) (x_L 66 (0, xi_push (0, 2, 2) 67, 0, 0))) (x_T 67 (x_L 67 (0, xi_bin xF_add 68, 0, 0)) (x_L 68 (0, xi_bin xF_mul 69, 0, 0)))))) (x_T 78 (x_T 71 (x_T 69 (x_L 69 (0, xi_i2l 70, 0, 0)) (x_T 70 (x_L 70 (0, xi_binL xF_divL 71, 0, 0)) (x_L 71 (0, xi_stor 5 1 73, 0, 0)))) (x_T 73 (x_L 73 (0, xi_inc 9 2 76, 0, 0)) (x_T 76 (x_L 76 (0, xi_load 10 0 78, 0, 0)) (x_L 78 (0, xi_if1 1 85 81, 0, 0))))) (x_T 85 (x_T 81 (x_L 81 (0, xi_push (0, 1, 1) 82, 0, 0)) (x_T 82 (x_L 82 (0, xi_goto 86, 0, 0)) (x_L 85 (0, xi_push (0, 0, 0) 86, 0, 0)))) (x_T 88 (x_T 86 (x_L 86 (0, xi_stor 10 0 88, 0, 0)) (x_L 88 (0, xi_goto 29, 0, 0))) (x_T 91 (x_L 91 (0, xi_load 7 1 93, 0, 0)) (x_L 93 (1, x_nof, 2, 0)))))))
set_option maxRecDepth 20000 in
set_option maxHeartbeats 4000000 in
theorem tb_38_26_ok (K : xKx) (hK : x_KP K) : ∀ pc, x_EOq cls K xJ mq_38 pc (tb_38_26 pc) :=
  (x_Tok2
  (x_Tok2
  (x_Tok2
  (x_Tok2
  (x_Lok (x_st (I := xJ) (xr_lneg (x_dk dl_38_0_ok 27 rfl))))
  (x_Tok2
  (x_Lok (x_st (I := xJ) (xr_ladd (x_dk dl_38_0_ok 28 rfl))))
  (x_Lok (x_st (I := xJ) (xr_lstore (i := 7) (x_dk dl_38_0_ok 29 rfl) (by decide +kernel))))))
  (x_Tok2
  (x_Lok (x_st (I := xJ) (xr_lload (i := 5) (x_dk dl_38_0_ok 30 rfl))))
  (x_Tok2
  (x_Lok (x_st (I := xJ) (xr_lload_n (i := 3) (x_dk dl_38_0_ok 31 rfl))))
  (x_Lok (x_ca (I := xJ) (q' := mq_37) rfl (xr_callS (q' := mq_37) (ix := 374) (n := 2) (in_t9 (List.mem_of_getElem? (i := 101) rfl) rfl) good_w (in_t1 (List.mem_of_getElem? (i := 14) rfl) rfl) (in_t9 (List.mem_of_getElem? (i := 99) rfl) rfl) (in_t9 (List.mem_of_getElem? (i := 100) rfl) rfl) (by decide +kernel) (by decide +kernel) (x_dk dl_38_0_ok 32 rfl)))))))
  (x_Tok2
  (x_Tok2
  (x_Lok (x_st (I := xJ) (xr_iload (i := 9) (x_dk dl_38_0_ok 33 rfl))))
  (x_Tok2
  (x_Lok (x_st (I := xJ) (xr_iconst (n := 1) (z := 1) (v := 1) (x_dk dl_38_0_ok 34 rfl) (by decide) (by decide))))
  (x_Lok (x_st (I := xJ) (xr_iadd (x_dk dl_38_0_ok 35 rfl))))))
  (x_Tok2
  (x_Tok2
  (x_Lok (x_st (I := xJ) (xr_iload (i := 9) (x_dk dl_38_0_ok 36 rfl))))
  (x_Lok (x_st (I := xJ) (xr_iconst (n := 2) (z := 2) (v := 2) (x_dk dl_38_0_ok 37 rfl) (by decide) (by decide)))))
  (x_Tok2
  (x_Lok (x_st (I := xJ) (xr_iadd (x_dk dl_38_0_ok 38 rfl))))
  (x_Lok (x_st (I := xJ) (xr_imul (x_dk dl_38_0_ok 39 rfl))))))))
  (x_Tok2
  (x_Tok2
  (x_Tok2
  (x_Lok (x_st (I := xJ) (xr_i2l (x_dk dl_38_0_ok 40 rfl))))
  (x_Tok2
  (x_Lok (x_st (I := xJ) (xr_ldiv (x_dk dl_38_0_ok 41 rfl))))
  (x_Lok (x_st (I := xJ) (xr_lstore (i := 5) (x_dk dl_38_0_ok 42 rfl) (by decide +kernel))))))
  (x_Tok2
  (x_Lok (x_st (I := xJ) (xr_iinc (i := 9) (n := 2) (x_dk dl_38_0_ok 43 rfl) (by decide +kernel) (by decide))))
  (x_Tok2
  (x_Lok (x_st (I := xJ) (xr_iload (i := 10) (x_dk dl_38_0_ok 44 rfl))))
  (x_Lok (x_st (I := xJ) (xr_ifne (off := 7) (tg := 85) (x_dk dl_38_0_ok 45 rfl) (by decide)))))))
  (x_Tok2
  (x_Tok2
  (x_Lok (x_st (I := xJ) (xr_iconst (n := 1) (z := 1) (v := 1) (x_dk dl_38_0_ok 46 rfl) (by decide) (by decide))))
  (x_Tok2
  (x_Lok (x_st (I := xJ) (xr_goto (off := 4) (tg := 86) (x_dk dl_38_0_ok 47 rfl) (by decide))))
  (x_Lok (x_st (I := xJ) (xr_iconst (n := 0) (z := 0) (v := 0) (x_dk dl_38_0_ok 48 rfl) (by decide) (by decide))))))
  (x_Tok2
  (x_Tok2
  (x_Lok (x_st (I := xJ) (xr_istore (i := 10) (x_dk dl_38_0_ok 49 rfl) (by decide +kernel))))
  (x_Lok (x_st (I := xJ) (xr_goto (off := (-59)) (tg := 29) (x_dk dl_38_0_ok 50 rfl) (by decide)))))
  (x_Tok2
  (x_Lok (x_st (I := xJ) (xr_lload (i := 7) (x_dk dl_38_0_ok 51 rfl))))
  (x_Lok (x_rt (I := xJ) (k := 2) ⟨(x_dk dl_38_0_ok 52 rfl), rfl⟩)))))))
def tb_38 : Nat → xE := (x_T 48 tb_38_0 tb_38_26)
theorem tb_38_ok (K : xKx) (hK : x_KP K) : ∀ pc, x_EOq cls K xJ mq_38 pc (tb_38 pc) := (x_Tok2 (tb_38_0_ok K hK) (tb_38_26_ok K hK))
def dl_39_0 : List (Nat × Instr × Nat) := [(0, .iconst 0, 1), (1, .istore_n 1, 1), (2, .iload_n 1, 1), (3, .sipush 512, 3), (6, .if_icmp .gt 68, 3), (9, .ldc2_w 380, 3), (12, .iload_n 1, 1), (13, .i2l, 1), (14, .lmul, 1), (15, .ldc2_w 382, 3), (18, .iload_n 1, 1), (19, .i2l, 1), (20, .lmul, 1), (21, .bipush 11, 2), (23, .lshr, 1), (24, .ladd, 1), (25, .lstore_n 2, 1), (26, .aload_n 0, 1), (27, .getfield 146, 3), (30, .iload_n 1, 1), (31, .lload_n 2, 1), (32, .iconst 1, 1), (33, .invokestatic 384, 3), (36, .ldc2_w 388, 3), (39, .ladd, 1), (40, .bipush 40, 2), (42, .lshr, 1), (43, .l2i, 1), (44, .iastore, 1), (45, .aload_n 0, 1), (46, .getfield 146, 3), (49, .sipush 1024, 3), (52, .iload_n 1, 1), (53, .isub, 1), (54, .lload_n 2, 1), (55, .iconst 0, 1), (56, .invokestatic 384, 3), (59, .ldc2_w 388, 3), (62, .ladd, 1), (63, .bipush 40, 2), (65, .lshr, 1), (66, .l2i, 1), (67, .iastore, 1), (68, .iinc 1 1, 3), (71, .goto (-69), 3), (74, .return_, 1)]
set_option maxRecDepth 20000 in
theorem dl_39_0_ok : dl_39_0.all (fun q => decide (decode prog_14_method_35_code q.1 = .ok (q.2.1, q.2.2))) = true := xa_g_ok (by decide +kernel)
def tb_39_0 : Nat → xE := (x_T 18 (x_T 6 (x_T 1 (x_T 0 (x_L 0 (0, xi_push (0, 0, 0) 1, 0, 0)) (x_L 1 (0, xi_stor 1 0 2, 0, 0))) (x_T 2 (x_L 2 (3, xi_load 1 0 3, 3, 0)) (x_T 3 (x_L 3 (0, xi_push (0, 512, 512) 6, 0, 0)) (x_L 6 (0, xi_if2 4 74 9, 0, 0))))) (x_T 13 (x_T 9 (x_L 9 (0, xi_push (4, 1768559438007110, 1768559438007110) 12, 0, 0)) (x_T 12 (x_L 12 (0, xi_load 1 0 13, 0, 0)) (x_L 13 (0, xi_i2l 14, 0, 0)))) (x_T 14 (x_L 14 (0, xi_binL xF_mulL 15, 0, 0)) (x_T 15 (x_L 15 (0, xi_push (4, 141, 141) 18, 0, 0)) (x_L 18 (0, xi_load 1 0 19, 0, 0)))))) (x_T 25 (x_T 21 (x_T 19 (x_L 19 (0, xi_i2l 20, 0, 0)) (x_T 20 (x_L 20 (0, xi_binL xF_mulL 21, 0, 0)) (x_L 21 (0, xi_push (0, 11, 11) 23, 0, 0)))) (x_T 23 (x_L 23 (0, xi_shL xF_shrL 24, 0, 0)) (x_T 24 (x_L 24 (0, xi_binL xF_addL 25, 0, 0)) (x_L 25 (0, xi_stor 2 1 26, 0, 0))))) (x_T 30 (x_T 26 (x_L 26 (0, xi_load 0 2 27, 0, 0)) (x_T 27 (x_L 27 (0, xi_getf 12 54 30, 0, 0)) (x_L 30 (0, xi_load 1 0 31, 0, 0)))) (x_T 31 (x_L 31 (0, xi_load 2 1 32, 0, 0)) (x_T 32 (x_L 32 (0, xi_push (0, 1, 1) 33, 0, 0)) (x_L 33 (4, x_nof, 38, 2)))))))
set_option maxRecDepth 20000 in
set_option maxHeartbeats 4000000 in
theorem tb_39_0_ok (K : xKx) (hK : x_KP K) : ∀ pc, x_EOq cls K xJ mq_39 pc (tb_39_0 pc) :=
  (x_Tok2
  (x_Tok2
  (x_Tok2
  (x_Tok2
  (x_Lok (x_st (I := xJ) (xr_iconst (n := 0) (z := 0) (v := 0) (x_dk dl_39_0_ok 0 rfl) (by decide) (by decide))))
  (x_Lok (x_st (I := xJ) (xr_istore_n (i := 1) (x_dk dl_39_0_ok 1 rfl) (by decide +kernel)))))
  (x_Tok2
  (x_Lok (x_lo (I := xJ) (L := 3) (xr_iload_n (i := 1) (x_dk dl_39_0_ok 2 rfl))))
  (x_Tok2
  (x_Lok (x_st (I := xJ) (xr_sipush (n := 512) (z := 512) (v := 512) (x_dk dl_39_0_ok 3 rfl) (by decide) (by decide))))
  (x_Lok (x_st (I := xJ) (xr_icmpgt (off := 68) (tg := 74) (x_dk dl_39_0_ok 4 rfl) (by decide)))))))
  (x_Tok2
  (x_Tok2
  (x_Lok (x_st (I := xJ) (xr_ldc2 (ix := 380) (z := 1768559438007110) (v := 1768559438007110) (x_dk dl_39_0_ok 5 rfl) (in_t9 (List.mem_of_getElem? (i := 94) rfl) rfl) (by decide))))
  (x_Tok2
  (x_Lok (x_st (I := xJ) (xr_iload_n (i := 1) (x_dk dl_39_0_ok 6 rfl))))
  (x_Lok (x_st (I := xJ) (xr_i2l (x_dk dl_39_0_ok 7 rfl))))))
  (x_Tok2
  (x_Lok (x_st (I := xJ) (xr_lmul (x_dk dl_39_0_ok 8 rfl))))
  (x_Tok2
  (x_Lok (x_st (I := xJ) (xr_ldc2 (ix := 382) (z := 141) (v := 141) (x_dk dl_39_0_ok 9 rfl) (in_t9 (List.mem_of_getElem? (i := 95) rfl) rfl) (by decide))))
  (x_Lok (x_st (I := xJ) (xr_iload_n (i := 1) (x_dk dl_39_0_ok 10 rfl))))))))
  (x_Tok2
  (x_Tok2
  (x_Tok2
  (x_Lok (x_st (I := xJ) (xr_i2l (x_dk dl_39_0_ok 11 rfl))))
  (x_Tok2
  (x_Lok (x_st (I := xJ) (xr_lmul (x_dk dl_39_0_ok 12 rfl))))
  (x_Lok (x_st (I := xJ) (xr_bipush (n := 11) (z := 11) (v := 11) (x_dk dl_39_0_ok 13 rfl) (by decide) (by decide))))))
  (x_Tok2
  (x_Lok (x_st (I := xJ) (xr_lshr (x_dk dl_39_0_ok 14 rfl))))
  (x_Tok2
  (x_Lok (x_st (I := xJ) (xr_ladd (x_dk dl_39_0_ok 15 rfl))))
  (x_Lok (x_st (I := xJ) (xr_lstore_n (i := 2) (x_dk dl_39_0_ok 16 rfl) (by decide +kernel)))))))
  (x_Tok2
  (x_Tok2
  (x_Lok (x_st (I := xJ) (xr_aload_n (i := 0) (x_dk dl_39_0_ok 17 rfl))))
  (x_Tok2
  (x_Lok (x_st (I := xJ) (xr_getf (ci := 12) (k := 54) (ix := 146) (N := 119) (C := RX12) (T := TX12) rfl in_X12 (by decide) (in_t9 (List.mem_of_getElem? (i := 169) rfl) rfl) (x_dk dl_39_0_ok 18 rfl))))
  (x_Lok (x_st (I := xJ) (xr_iload_n (i := 1) (x_dk dl_39_0_ok 19 rfl))))))
  (x_Tok2
  (x_Lok (x_st (I := xJ) (xr_lload_n (i := 2) (x_dk dl_39_0_ok 20 rfl))))
  (x_Tok2
  (x_Lok (x_st (I := xJ) (xr_iconst (n := 1) (z := 1) (v := 1) (x_dk dl_39_0_ok 21 rfl) (by decide) (by decide))))
  (x_Lok (x_cp (I := xJ) (q' := mq_38) rfl (xr_callS (q' := mq_38) (ix := 384) (n := 2) (in_t9 (List.mem_of_getElem? (i := 98) rfl) rfl) good_w (in_t1 (List.mem_of_getElem? (i := 14) rfl) rfl) (in_t9 (List.mem_of_getElem? (i := 96) rfl) rfl) (in_t9 (List.mem_of_getElem? (i := 97) rfl) rfl) (by decide +kernel) (by decide +kernel) (x_dk dl_39_0_ok 22 rfl)))))))))
def tb_39_23 : Nat → xE := (x_T 53 (x_T 43 (x_T 39 (x_T 36 (x_L 36 (0, xi_push (4, 549755813888, 549755813888) 39, 0, 0)) (x_L 39 (0, xi_binL xF_addL 40, 0, 0))) (x_T 40 (x_L 40 (0, xi_push (0, 40, 40) 42, 0, 0)) (x_T 42 (x_L 42 (0, xi_shL xF_shrL 43, 0, 0)) (x_L 43 (0, xi_unL xF_l2i 44, 0, 0))))) (x_T 46 (x_T 44 (x_L 44 (0, xi_ast false 45, 0, 0)) (x_T 45 (x_L 45 (0, xi_load 0 2 46, 0, 0)) (x_L 46 (0, xi_getf 12 54 49, 0, 0)))) (x_T 49 (x_L 49 (0, xi_push (0, 1024, 1024) 52, 0, 0)) (x_T 52 (x_L 52 (0, xi_load 1 0 53, 0, 0)) (x_L 53 (0, xi_bin xF_sub 54, 0, 0)))))) (x_T 63 (x_T 56 (x_T 54 (x_L 54 (0, xi_load 2 1 55, 0, 0)) (x_T 55 (x_L 55 (0, xi_push (0, 0, 0) 56, 0, 0)) (x_L 56 (4, x_nof, 38, 2)))) (x_T 59 (x_L 59 (0, xi_push (4, 549755813888, 549755813888) 62, 0, 0)) (x_T 62 (x_L 62 (0, xi_binL xF_addL 63, 0, 0)) (x_L 63 (0, xi_push (0, 40, 40) 65, 0, 0))))) (x_T 67 (x_T 65 (x_L 65 (0, xi_shL xF_shrL 66, 0, 0)) (x_T 66 (x_L 66 (0, xi_unL xF_l2i 67, 0, 0)) (x_L 67 (0, xi_ast false 68, 0, 0)))) (x_T 68 (x_L 68 (0, xi_incT 1 71, 0, 0)) (x_T 71 (x_L 71 (0, xi_goto 2, 0, 0)) (x_L 74 (1, x_nof, 0, 0)))))))
set_option maxRecDepth 20000 in
set_option maxHeartbeats 4000000 in
theorem tb_39_23_ok (K : xKx) (hK : x_KP K) : ∀ pc, x_EOq cls K xJ mq_39 pc (tb_39_23 pc) :=
  (x_Tok2
  (x_Tok2
  (x_Tok2
  (x_Tok2
  (x_Lok (x_st (I := xJ) (xr_ldc2 (ix := 388) (z := 549755813888) (v := 549755813888) (x_dk dl_39_0_ok 23 rfl) (in_t9 (List.mem_of_getElem? (i := 104) rfl) rfl) (by decide))))
  (x_Lok (x_st (I := xJ) (xr_ladd (x_dk dl_39_0_ok 24 rfl)))))
  (x_Tok2
  (x_Lok (x_st (I := xJ) (xr_bipush (n := 40) (z := 40) (v := 40) (x_dk dl_39_0_ok 25 rfl) (by decide) (by decide))))
  (x_Tok2
  (x_Lok (x_st (I := xJ) (xr_lshr (x_dk dl_39_0_ok 26 rfl))))
  (x_Lok (x_st (I := xJ) (xr_l2i (x_dk dl_39_0_ok 27 rfl)))))))
  (x_Tok2
  (x_Tok2
  (x_Lok (x_st (I := xJ) (xr_iastore (x_dk dl_39_0_ok 28 rfl))))
  (x_Tok2
  (x_Lok (x_st (I := xJ) (xr_aload_n (i := 0) (x_dk dl_39_0_ok 29 rfl))))
  (x_Lok (x_st (I := xJ) (xr_getf (ci := 12) (k := 54) (ix := 146) (N := 119) (C := RX12) (T := TX12) rfl in_X12 (by decide) (in_t9 (List.mem_of_getElem? (i := 169) rfl) rfl) (x_dk dl_39_0_ok 30 rfl))))))
  (x_Tok2
  (x_Lok (x_st (I := xJ) (xr_sipush (n := 1024) (z := 1024) (v := 1024) (x_dk dl_39_0_ok 31 rfl) (by decide) (by decide))))
  (x_Tok2
  (x_Lok (x_st (I := xJ) (xr_iload_n (i := 1) (x_dk dl_39_0_ok 32 rfl))))
  (x_Lok (x_st (I := xJ) (xr_isub (x_dk dl_39_0_ok 33 rfl))))))))
  (x_Tok2
  (x_Tok2
  (x_Tok2
  (x_Lok (x_st (I := xJ) (xr_lload_n (i := 2) (x_dk dl_39_0_ok 34 rfl))))
  (x_Tok2
  (x_Lok (x_st (I := xJ) (xr_iconst (n := 0) (z := 0) (v := 0) (x_dk dl_39_0_ok 35 rfl) (by decide) (by decide))))
  (x_Lok (x_cp (I := xJ) (q' := mq_38) rfl (xr_callS (q' := mq_38) (ix := 384) (n := 2) (in_t9 (List.mem_of_getElem? (i := 98) rfl) rfl) good_w (in_t1 (List.mem_of_getElem? (i := 14) rfl) rfl) (in_t9 (List.mem_of_getElem? (i := 96) rfl) rfl) (in_t9 (List.mem_of_getElem? (i := 97) rfl) rfl) (by decide +kernel) (by decide +kernel) (x_dk dl_39_0_ok 36 rfl))))))
  (x_Tok2
  (x_Lok (x_st (I := xJ) (xr_ldc2 (ix := 388) (z := 549755813888) (v := 549755813888) (x_dk dl_39_0_ok 37 rfl) (in_t9 (List.mem_of_getElem? (i := 104) rfl) rfl) (by decide))))
  (x_Tok2
  (x_Lok (x_st (I := xJ) (xr_ladd (x_dk dl_39_0_ok 38 rfl))))
  (x_Lok (x_st (I := xJ) (xr_bipush (n := 40) (z := 40) (v := 40) (x_dk dl_39_0_ok 39 rfl) (by decide) (by decide)))))))
  (x_Tok2
  (x_Tok2
  (x_Lok (x_st (I := xJ) (xr_lshr (x_dk dl_39_0_ok 40 rfl))))
  (x_Tok2
  (x_Lok (x_st (I := xJ) (xr_l2i (x_dk dl_39_0_ok 41 rfl))))
  (x_Lok (x_st (I := xJ) (xr_iastore (x_dk dl_39_0_ok 42 rfl))))))
  (x_Tok2
  (x_Lok (x_st (I := xJ) (xr_iincT (i := 1) (x_hev hK) (x_dk dl_39_0_ok 43 rfl) (by decide +kernel))))
  (x_Tok2
  (x_Lok (x_st (I := xJ) (xr_goto (off := (-69)) (tg := 2) (x_dk dl_39_0_ok 44 rfl) (by decide))))
  (x_Lok (x_rt (I := xJ) (k := 0) ⟨(x_dk dl_39_0_ok 45 rfl), rfl⟩)))))))
def tb_39 : Nat → xE := (x_T 33 tb_39_0 tb_39_23)
theorem tb_39_ok (K : xKx) (hK : x_KP K) : ∀ pc, x_EOq cls K xJ mq_39 pc (tb_39 pc) := (x_Tok2 (tb_39_0_ok K hK) (tb_39_23_ok K hK))
def dl_40_0 : List (Nat × Instr × Nat) := [(0, .iconst 0, 1), (1, .istore_n 2, 1), (2, .aload_n 0, 1), (3, .arraylength, 1), (4, .istore_n 3, 1), (5, .iload_n 2, 1), (6, .iload_n 3, 1), (7, .if_icmp .ge 13, 3), (10, .aload_n 0, 1), (11, .iload_n 2, 1), (12, .iload_n 1, 1), (13, .iastore, 1), (14, .iinc 2 1, 3), (17, .goto (-12), 3), (20, .return_, 1)]
set_option maxRecDepth 20000 in
theorem dl_40_0_ok : dl_40_0.all (fun q => decide (decode prog_20_method_103_code q.1 = .ok (q.2.1, q.2.2))) = true := xa_g_ok (by decide +kernel)
def tb_40_0 : Nat → xE := (x_T 6 (x_T 2 (x_T 0 (x_L 0 (0, xi_push (0, 0, 0) 1, 0, 0)) (x_T 1 (x_L 1 (0, xi_stor 2 0 2, 0, 0)) (x_L 2 (0, xi_load 0 2 3, 0, 0)))) (x_T 4 (x_T 3 (x_L 3 (0, xi_alen 4, 0, 0)) (x_L 4 (0, xi_stor 3 0 5, 0, 0))) (x_T 5 (x_L 5 (0, xi_load 2 0 6, 0, 0)) (x_L 6 (0, xi_load 3 0 7, 0, 0))))) (x_T 12 (x_T 10 (x_T 7 (x_L 7 (0, xi_if2 3 20 10, 0, 0)) (x_L 10 (0, xi_load 0 2 11, 0, 0))) (x_T 11 (x_L 11 (0, xi_load 2 0 12, 0, 0)) (x_L 12 (0, xi_load 1 0 13, 0, 0)))) (x_T 14 (x_T 13 (x_L 13 (0, xi_ast false 14, 0, 0)) (x_L 14 (0, xi_inc 2 1 17, 0, 0))) (x_T 17 (x_L 17 (0, xi_goto 5, 0, 0)) (x_L 20 (1, x_nof, 0, 0))))))
set_option maxRecDepth 20000 in
set_option maxHeartbeats 4000000 in
theorem tb_40_0_ok (K : xKx) (hK : x_KP K) : ∀ pc, x_EOq cls K xJ mq_40 pc (tb_40_0 pc) :=
  (x_Tok2
  (x_Tok2
  (x_Tok2
  (x_Lok (x_st (I := xJ) (xr_iconst (n := 0) (z := 0) (v := 0) (x_dk dl_40_0_ok 0 rfl) (by decide) (by decide))))
  (x_Tok2
  (x_Lok (x_st (I := xJ) (xr_istore_n (i := 2) (x_dk dl_40_0_ok 1 rfl) (by decide +kernel))))
  (x_Lok (x_st (I := xJ) (xr_aload_n (i := 0) (x_dk dl_40_0_ok 2 rfl))))))
  (x_Tok2
  (x_Tok2
  (x_Lok (x_st (I := xJ) (xr_alen (x_dk dl_40_0_ok 3 rfl))))
  (x_Lok (x_st (I := xJ) (xr_istore_n (i := 3) (x_dk dl_40_0_ok 4 rfl) (by decide +kernel)))))
  (x_Tok2
  (x_Lok (x_st (I := xJ) (xr_iload_n (i := 2) (x_dk dl_40_0_ok 5 rfl))))
  (x_Lok (x_st (I := xJ) (xr_iload_n (i := 3) (x_dk dl_40_0_ok 6 rfl)))))))
  (x_Tok2
  (x_Tok2
  (x_Tok2
  (x_Lok (x_st (I := xJ) (xr_icmpge (off := 13) (tg := 20) (x_dk dl_40_0_ok 7 rfl) (by decide))))
  (x_Lok (x_st (I := xJ) (xr_aload_n (i := 0) (x_dk dl_40_0_ok 8 rfl)))))
  (x_Tok2
  (x_Lok (x_st (I := xJ) (xr_iload_n (i := 2) (x_dk dl_40_0_ok 9 rfl))))
  (x_Lok (x_st (I := xJ) (xr_iload_n (i := 1) (x_dk dl_40_0_ok 10 rfl))))))
  (x_Tok2
  (x_Tok2
  (x_Lok (x_st (I := xJ) (xr_iastore (x_dk dl_40_0_ok 11 rfl))))
  (x_Lok (x_st (I := xJ) (xr_iinc (i := 2) (n := 1) (x_dk dl_40_0_ok 12 rfl) (by decide +kernel) (by decide)))))
  (x_Tok2
  (x_Lok (x_st (I := xJ) (xr_goto (off := (-12)) (tg := 5) (x_dk dl_40_0_ok 13 rfl) (by decide))))
  (x_Lok (x_rt (I := xJ) (k := 0) ⟨(x_dk dl_40_0_ok 14 rfl), rfl⟩))))))
def tb_40 : Nat → xE := tb_40_0
theorem tb_40_ok (K : xKx) (hK : x_KP K) : ∀ pc, x_EOq cls K xJ mq_40 pc (tb_40 pc) := tb_40_0_ok K hK
def dl_0_0 : List (Nat × Instr × Nat) := [(0, .new 7, 3), (3, .dup, 1), (4, .invokespecial 9, 3), (7, .astore_n 1, 1), (8, .new 10, 3), (11, .dup, 1), (12, .invokespecial 12, 3), (15, .astore_n 2, 1), (16, .iconst 0, 1), (17, .istore_n 3, 1)]
set_option maxRecDepth 20000 in
theorem dl_0_0_ok : dl_0_0.all (fun q => decide (decode code q.1 = .ok (q.2.1, q.2.2))) = true := xa_g_ok (by decide +kernel)
def tb_0_0 : Nat → xE := (x_T 8 (x_T 3 (x_T 0 (x_L 0 (0, xi_new (x_nc 11 ks_X11) (xm_c mq_0) (xm_s mq_0) 3, 0, 0)) (x_L 3 (0, xi_stk xf_dup 4, 0, 0))) (x_T 4 (x_L 4 (2, x_nof, 30, 1)) (x_T 7 (x_L 7 (0, xi_stor 1 2 8, 0, 0)) (x_L 8 (0, xi_new (x_nc 12 ks_X12) (xm_c mq_0) (xm_s mq_0) 11, 0, 0))))) (x_T 12 (x_T 11 (x_L 11 (0, xi_stk xf_dup 12, 0, 0)) (x_L 12 (2, x_nof, 33, 1))) (x_T 15 (x_L 15 (0, xi_stor 2 2 16, 0, 0)) (x_T 16 (x_L 16 (0, xi_push (0, 0, 0) 17, 0, 0)) (x_L 17 (0, xi_stor 3 0 18, 0, 0))))))
set_option maxRecDepth 20000 in
set_option maxHeartbeats 4000000 in
theorem tb_0_0_ok (K : xKx) (hK : x_KP K) : ∀ pc, x_EOq cls K xJ mq_0 pc (tb_0_0 pc) :=
  (x_Tok2
  (x_Tok2
  (x_Tok2
  (x_Lok (x_st (I := xJ) (xr_new (ci := 11) (ix := 7) (N := 15) (C := RX11) (T := TX11) (ty0 := tyX11) (ks := ks_X11) rfl in_X11 tyX11_ok (in_t1 (List.mem_of_getElem? (i := 21) rfl) rfl) (in_t1 (List.mem_of_getElem? (i := 22) rfl) rfl) (in_t1 (List.mem_of_getElem? (i := 1) rfl) rfl) rfl df_X11 (x_dk dl_0_0_ok 0 rfl))))
  (x_Lok (x_st (I := xJ) (xr_dup (x_dk dl_0_0_ok 1 rfl)))))
  (x_Tok2
  (x_Lok (x_ca (I := xJ) (q' := mq_30) rfl (xr_callI (q' := mq_30) (ix := 9) (n := 0) (in_t1 (List.mem_of_getElem? (i := 25) rfl) rfl) good_w (in_t1 (List.mem_of_getElem? (i := 1) rfl) rfl) (in_t1 (List.mem_of_getElem? (i := 23) rfl) rfl) (in_t1 (List.mem_of_getElem? (i := 24) rfl) rfl) rfl rfl (by decide +kernel) (by decide +kernel) (by decide +kernel) (x_dk dl_0_0_ok 2 rfl))))
  (x_Tok2
  (x_Lok (x_st (I := xJ) (xr_astore_n (i := 1) (x_dk dl_0_0_ok 3 rfl) (by decide +kernel))))
  (x_Lok (x_st (I := xJ) (xr_new (ci := 12) (ix := 10) (N := 119) (C := RX12) (T := TX12) (ty0 := tyX12) (ks := ks_X12) rfl in_X12 tyX12_ok (in_t9 (List.mem_of_getElem? (i := 80) rfl) rfl) (in_t9 (List.mem_of_getElem? (i := 81) rfl) rfl) (in_t1 (List.mem_of_getElem? (i := 14) rfl) rfl) rfl df_X12 (x_dk dl_0_0_ok 4 rfl)))))))
  (x_Tok2
  (x_Tok2
  (x_Lok (x_st (I := xJ) (xr_dup (x_dk dl_0_0_ok 5 rfl))))
  (x_Lok (x_ca (I := xJ) (q' := mq_33) rfl (xr_callI (q' := mq_33) (ix := 12) (n := 0) (in_t9 (List.mem_of_getElem? (i := 84) rfl) rfl) good_w (in_t1 (List.mem_of_getElem? (i := 14) rfl) rfl) (in_t9 (List.mem_of_getElem? (i := 82) rfl) rfl) (in_t9 (List.mem_of_getElem? (i := 83) rfl) rfl) rfl rfl (by decide +kernel) (by decide +kernel) (by decide +kernel) (x_dk dl_0_0_ok 6 rfl)))))
  (x_Tok2
  (x_Lok (x_st (I := xJ) (xr_astore_n (i := 2) (x_dk dl_0_0_ok 7 rfl) (by decide +kernel))))
  (x_Tok2
  (x_Lok (x_st (I := xJ) (xr_iconst (n := 0) (z := 0) (v := 0) (x_dk dl_0_0_ok 8 rfl) (by decide) (by decide))))
  (x_Lok (x_st (I := xJ) (xr_istore_n (i := 3) (x_dk dl_0_0_ok 9 rfl) (by decide +kernel))))))))
def tb_0 : Nat → xE := tb_0_0
theorem tb_0_ok (K : xKx) (hK : x_KP K) : ∀ pc, x_EOq cls K xJ mq_0 pc (tb_0 pc) := tb_0_0_ok K hK
end
end
-- part 49o
section
noncomputable section
/-! the constructors' tables together -/
def x_tr0 : Nat → Nat → xE := (x_TC 19 (x_TC 9 (x_TC 4 (x_TC 1 (x_TC 0 (fun _ => fun _ => x_e7) (fun _ => tb_1)) (x_TC 2 (fun _ => tb_2) (x_TC 3 (fun _ => tb_3) (fun _ => tb_4)))) (x_TC 6 (x_TC 5 (fun _ => tb_5) (fun _ => tb_6)) (x_TC 7 (fun _ => tb_7) (x_TC 8 (fun _ => tb_8) (fun _ => tb_9))))) (x_TC 14 (x_TC 11 (x_TC 10 (fun _ => tb_10) (fun _ => tb_11)) (x_TC 12 (fun _ => tb_12) (x_TC 13 (fun _ => tb_13) (fun _ => tb_14)))) (x_TC 16 (x_TC 15 (fun _ => tb_15) (fun _ => tb_16)) (x_TC 17 (fun _ => tb_17) (x_TC 18 (fun _ => tb_18) (fun _ => tb_19)))))) (x_TC 29 (x_TC 24 (x_TC 21 (x_TC 20 (fun _ => tb_20) (fun _ => tb_21)) (x_TC 22 (fun _ => tb_22) (x_TC 23 (fun _ => tb_23) (fun _ => tb_24)))) (x_TC 26 (x_TC 25 (fun _ => tb_25) (fun _ => tb_26)) (x_TC 27 (fun _ => tb_27) (x_TC 28 (fun _ => tb_28) (fun _ => tb_29))))) (x_TC 34 (x_TC 31 (x_TC 30 (fun _ => tb_30) (fun _ => tb_31)) (x_TC 32 (fun _ => tb_32) (x_TC 33 (fun _ => tb_33) (fun _ => tb_34)))) (x_TC 37 (x_TC 35 (fun _ => tb_35) (x_TC 36 (fun _ => tb_36) (fun _ => tb_37))) (x_TC 38 (fun _ => tb_38) (x_TC 39 (fun _ => tb_39) (fun _ => tb_40)))))))
def x_code0 : Nat → Nat → xE := fun M => bif Nat.beq M 0 then tb_0 else x_tr0 M
def x_lp : Nat → xLp := fun L => bif Nat.beq L 0 then ((1, 99999), x_wk 24 (0, 33060) (0, 33060) [(0, (99, 0, 0)), (1, (3, 24, 0))] [(0, (0, 0, 0))], 24, 66) else bif Nat.beq L 1 then ((1, 99999), x_wk 24 (0, 448) (0, 448) [(0, (99, 0, 0)), (1, (3, 24, 0))] [(29, (0, 0, 0))], 24, 299) else bif Nat.beq L 2 then ((1, 99999), x_wk 24 (0, 33060) (0, 33060) [(0, (99, 0, 0)), (1, (3, 24, 0))] [(1, (0, (-2147483648), 2147483647))], 24, 50) else bif Nat.beq L 3 then ((1, 99999), x_wk 24 (0, 513) (0, 513) [(0, (99, 0, 0)), (1, (3, 24, 0))] [(54, (0, (-2147483648), 2147483647))], 24, 74) else bif Nat.beq L 4 then ((1, 99999), x_wk 24 (0, 64) (0, 64) [(0, (99, 0, 0)), (1, (3, 24, 0))] [(1, (0, 0, 0)), (2, (0, 0, 0))], 24, 57) else ((0, 99999), fun _ => none, 0, 0)
def x_KK (P : (Nat → Int) → Prop) : Nat → xKx := fun _ _ _ _ _ V _ => x_PV P V
theorem x_KKp (P : (Nat → Int) → Prop) (M : Nat) : x_KP (x_KK P M) := fun R s A H V sc h => x_PV_all h
theorem x_TTokq {KK : Nat → xKx} {I : Nat → xM} {k : Nat} {a b : Nat → xM} {a' b' : Nat → Nat → xE} (ha : ∀ M pc, x_EOq cls (KK M) I (a M) pc (a' M pc)) (hb : ∀ M pc, x_EOq cls (KK M) I (b M) pc (b' M pc)) : ∀ M pc, x_EOq cls (KK M) I (x_TI k a b M) pc (x_TC k a' b' M pc) := fun M pc => by
  unfold x_TI x_TC
  cases Nat.ble M k with
  | true => exact ha M pc
  | false => exact hb M pc
theorem x_TIokq {P : xM → Prop} {k : Nat} {a b : Nat → xM} (ha : ∀ M, P (a M)) (hb : ∀ M, P (b M)) : ∀ M, P (x_TI k a b M) := fun M => by
  unfold x_TI
  cases Nat.ble M k with
  | true => exact ha M
  | false => exact hb M
def x_mokq (q : xM) : Bool := plainName (xm_y q).cls && (Nat.beq (xm_o q) 999 || match cls[xm_o q]? with
  | some r => decide (r.1 = (xm_y q).cls)
  | none => false)
set_option maxRecDepth 20000 in
set_option maxHeartbeats 4000000 in
theorem x_moksq : ∀ M, x_mokq (xJ M) = true := (x_TIokq (P := fun q => x_mokq q = true) (k := 19) (x_TIokq (P := fun q => x_mokq q = true) (k := 9) (x_TIokq (P := fun q => x_mokq q = true) (k := 4) (x_TIokq (P := fun q => x_mokq q = true) (k := 1) (x_TIokq (P := fun q => x_mokq q = true) (k := 0) (fun _ => (show x_mokq mq_0 = true by decide +kernel))
 (fun _ => (show x_mokq mq_1 = true by decide +kernel)))
 (x_TIokq (P := fun q => x_mokq q = true) (k := 2) (fun _ => (show x_mokq mq_2 = true by decide +kernel))
 (x_TIokq (P := fun q => x_mokq q = true) (k := 3) (fun _ => (show x_mokq mq_3 = true by decide +kernel))
 (fun _ => (show x_mokq mq_4 = true by decide +kernel)))))
 (x_TIokq (P := fun q => x_mokq q = true) (k := 6) (x_TIokq (P := fun q => x_mokq q = true) (k := 5) (fun _ => (show x_mokq mq_5 = true by decide +kernel))
 (fun _ => (show x_mokq mq_6 = true by decide +kernel)))
 (x_TIokq (P := fun q => x_mokq q = true) (k := 7) (fun _ => (show x_mokq mq_7 = true by decide +kernel))
 (x_TIokq (P := fun q => x_mokq q = true) (k := 8) (fun _ => (show x_mokq mq_8 = true by decide +kernel))
 (fun _ => (show x_mokq mq_9 = true by decide +kernel))))))
 (x_TIokq (P := fun q => x_mokq q = true) (k := 14) (x_TIokq (P := fun q => x_mokq q = true) (k := 11) (x_TIokq (P := fun q => x_mokq q = true) (k := 10) (fun _ => (show x_mokq mq_10 = true by decide +kernel))
 (fun _ => (show x_mokq mq_11 = true by decide +kernel)))
 (x_TIokq (P := fun q => x_mokq q = true) (k := 12) (fun _ => (show x_mokq mq_12 = true by decide +kernel))
 (x_TIokq (P := fun q => x_mokq q = true) (k := 13) (fun _ => (show x_mokq mq_13 = true by decide +kernel))
 (fun _ => (show x_mokq mq_14 = true by decide +kernel)))))
 (x_TIokq (P := fun q => x_mokq q = true) (k := 16) (x_TIokq (P := fun q => x_mokq q = true) (k := 15) (fun _ => (show x_mokq mq_15 = true by decide +kernel))
 (fun _ => (show x_mokq mq_16 = true by decide +kernel)))
 (x_TIokq (P := fun q => x_mokq q = true) (k := 17) (fun _ => (show x_mokq mq_17 = true by decide +kernel))
 (x_TIokq (P := fun q => x_mokq q = true) (k := 18) (fun _ => (show x_mokq mq_18 = true by decide +kernel))
 (fun _ => (show x_mokq mq_19 = true by decide +kernel)))))))
 (x_TIokq (P := fun q => x_mokq q = true) (k := 29) (x_TIokq (P := fun q => x_mokq q = true) (k := 24) (x_TIokq (P := fun q => x_mokq q = true) (k := 21) (x_TIokq (P := fun q => x_mokq q = true) (k := 20) (fun _ => (show x_mokq mq_20 = true by decide +kernel))
 (fun _ => (show x_mokq mq_21 = true by decide +kernel)))
 (x_TIokq (P := fun q => x_mokq q = true) (k := 22) (fun _ => (show x_mokq mq_22 = true by decide +kernel))
 (x_TIokq (P := fun q => x_mokq q = true) (k := 23) (fun _ => (show x_mokq mq_23 = true by decide +kernel))
 (fun _ => (show x_mokq mq_24 = true by decide +kernel)))))
 (x_TIokq (P := fun q => x_mokq q = true) (k := 26) (x_TIokq (P := fun q => x_mokq q = true) (k := 25) (fun _ => (show x_mokq mq_25 = true by decide +kernel))
 (fun _ => (show x_mokq mq_26 = true by decide +kernel)))
 (x_TIokq (P := fun q => x_mokq q = true) (k := 27) (fun _ => (show x_mokq mq_27 = true by decide +kernel))
 (x_TIokq (P := fun q => x_mokq q = true) (k := 28) (fun _ => (show x_mokq mq_28 = true by decide +kernel))
 (fun _ => (show x_mokq mq_29 = true by decide +kernel))))))
 (x_TIokq (P := fun q => x_mokq q = true) (k := 34) (x_TIokq (P := fun q => x_mokq q = true) (k := 31) (x_TIokq (P := fun q => x_mokq q = true) (k := 30) (fun _ => (show x_mokq mq_30 = true by decide +kernel))
 (fun _ => (show x_mokq mq_31 = true by decide +kernel)))
 (x_TIokq (P := fun q => x_mokq q = true) (k := 32) (fun _ => (show x_mokq mq_32 = true by decide +kernel))
 (x_TIokq (P := fun q => x_mokq q = true) (k := 33) (fun _ => (show x_mokq mq_33 = true by decide +kernel))
 (fun _ => (show x_mokq mq_34 = true by decide +kernel)))))
 (x_TIokq (P := fun q => x_mokq q = true) (k := 37) (x_TIokq (P := fun q => x_mokq q = true) (k := 35) (fun _ => (show x_mokq mq_35 = true by decide +kernel))
 (x_TIokq (P := fun q => x_mokq q = true) (k := 36) (fun _ => (show x_mokq mq_36 = true by decide +kernel))
 (fun _ => (show x_mokq mq_37 = true by decide +kernel))))
 (x_TIokq (P := fun q => x_mokq q = true) (k := 38) (fun _ => (show x_mokq mq_38 = true by decide +kernel))
 (x_TIokq (P := fun q => x_mokq q = true) (k := 39) (fun _ => (show x_mokq mq_39 = true by decide +kernel))
 (fun _ => (show x_mokq mq_40 = true by decide +kernel))))))))
set_option maxRecDepth 20000 in
set_option maxHeartbeats 4000000 in
theorem x_tr0_ok (KK : Nat → xKx) (hK : ∀ M, x_KP (KK M)) : ∀ M pc, x_EOq cls (KK M) xJ (xJ M) pc (x_tr0 M pc) := (x_TTokq (k := 19) (x_TTokq (k := 9) (x_TTokq (k := 4) (x_TTokq (k := 1) (x_TTokq (k := 0) (fun _ _ => trivial)
 (fun M pc => tb_1_ok (KK M) (hK M) pc))
 (x_TTokq (k := 2) (fun M pc => tb_2_ok (KK M) (hK M) pc)
 (x_TTokq (k := 3) (fun M pc => tb_3_ok (KK M) (hK M) pc)
 (fun M pc => tb_4_ok (KK M) (hK M) pc))))
 (x_TTokq (k := 6) (x_TTokq (k := 5) (fun M pc => tb_5_ok (KK M) (hK M) pc)
 (fun M pc => tb_6_ok (KK M) (hK M) pc))
 (x_TTokq (k := 7) (fun M pc => tb_7_ok (KK M) (hK M) pc)
 (x_TTokq (k := 8) (fun M pc => tb_8_ok (KK M) (hK M) pc)
 (fun M pc => tb_9_ok (KK M) (hK M) pc)))))
 (x_TTokq (k := 14) (x_TTokq (k := 11) (x_TTokq (k := 10) (fun M pc => tb_10_ok (KK M) (hK M) pc)
 (fun M pc => tb_11_ok (KK M) (hK M) pc))
 (x_TTokq (k := 12) (fun M pc => tb_12_ok (KK M) (hK M) pc)
 (x_TTokq (k := 13) (fun M pc => tb_13_ok (KK M) (hK M) pc)
 (fun M pc => tb_14_ok (KK M) (hK M) pc))))
 (x_TTokq (k := 16) (x_TTokq (k := 15) (fun M pc => tb_15_ok (KK M) (hK M) pc)
 (fun M pc => tb_16_ok (KK M) (hK M) pc))
 (x_TTokq (k := 17) (fun M pc => tb_17_ok (KK M) (hK M) pc)
 (x_TTokq (k := 18) (fun M pc => tb_18_ok (KK M) (hK M) pc)
 (fun M pc => tb_19_ok (KK M) (hK M) pc))))))
 (x_TTokq (k := 29) (x_TTokq (k := 24) (x_TTokq (k := 21) (x_TTokq (k := 20) (fun M pc => tb_20_ok (KK M) (hK M) pc)
 (fun M pc => tb_21_ok (KK M) (hK M) pc))
 (x_TTokq (k := 22) (fun M pc => tb_22_ok (KK M) (hK M) pc)
 (x_TTokq (k := 23) (fun M pc => tb_23_ok (KK M) (hK M) pc)
 (fun M pc => tb_24_ok (KK M) (hK M) pc))))
 (x_TTokq (k := 26) (x_TTokq (k := 25) (fun M pc => tb_25_ok (KK M) (hK M) pc)
 (fun M pc => tb_26_ok (KK M) (hK M) pc))
 (x_TTokq (k := 27) (fun M pc => tb_27_ok (KK M) (hK M) pc)
 (x_TTokq (k := 28) (fun M pc => tb_28_ok (KK M) (hK M) pc)
 (fun M pc => tb_29_ok (KK M) (hK M) pc)))))
 (x_TTokq (k := 34) (x_TTokq (k := 31) (x_TTokq (k := 30) (fun M pc => tb_30_ok (KK M) (hK M) pc)
 (fun M pc => tb_31_ok (KK M) (hK M) pc))
 (x_TTokq (k := 32) (fun M pc => tb_32_ok (KK M) (hK M) pc)
 (x_TTokq (k := 33) (fun M pc => tb_33_ok (KK M) (hK M) pc)
 (fun M pc => tb_34_ok (KK M) (hK M) pc))))
 (x_TTokq (k := 37) (x_TTokq (k := 35) (fun M pc => tb_35_ok (KK M) (hK M) pc)
 (x_TTokq (k := 36) (fun M pc => tb_36_ok (KK M) (hK M) pc)
 (fun M pc => tb_37_ok (KK M) (hK M) pc)))
 (x_TTokq (k := 38) (fun M pc => tb_38_ok (KK M) (hK M) pc)
 (x_TTokq (k := 39) (fun M pc => tb_39_ok (KK M) (hK M) pc)
 (fun M pc => tb_40_ok (KK M) (hK M) pc)))))))
theorem x_tab0 : x_Tab 1 (x_PV (fun _ => True)) cls (x_KK (fun _ => True)) xJ x_code0 := by
  refine ⟨Nat.le_refl 1, fun M pc => ?_, fun M => ?_, fun M hM R s A H V sc _ _ h => h, fun M ho => ?_, x_PV_up (fun f a k i ha h => ?_)⟩
  · unfold x_code0
    by_cases e : M = 0
    · subst e
      exact tb_0_ok (x_KK (fun _ => True) 0) (x_KKp _ 0) pc
    · rw [x_nb e]
      exact x_tr0_ok (x_KK (fun _ => True)) (x_KKp _) M pc
  · have := x_moksq M
    unfold x_mokq at this
    simp only [Bool.and_eq_true] at this
    exact this.1
  · have := x_moksq M
    unfold x_mokq at this
    simp only [Bool.and_eq_true] at this
    have h2 := this.2
    rw [x_nb ho] at h2
    simp only [Bool.false_or] at h2
    split at h2
    · rename_i r hr
      exact ⟨r, hr, by simpa using h2⟩
    · cases h2
  · trivial
end
end
-- part 49p
section
noncomputable section
/-! the pictures on the way: at the entry, with the class made, with both made -/
def s_0 : xS := (0, [(0, (10, 0, 0))], [], [], [((-2147483648), 2147483647), ((-2147483648), 2147483647), ((-2147483648), 2147483647), ((-2147483648), 2147483647), ((-2147483648), 2147483647), ((-2147483648), 2147483647), ((-1099511627776), 1099511627776), ((-1099511627776), 1099511627776), ((-1099511627776), 1099511627776), ((-1099511627776), 1099511627776), ((-1099511627776), 1099511627776), ((-1099511627776), 1099511627776), ((-1099511627776), 1099511627776), ((-1099511627776), 1099511627776), ((-1099511627776), 1099511627776), (0, 6), ((-6), 0), ((-1099511627776), 1099511627776), ((-1099511627776), 1099511627776), ((-1099511627776), 1099511627776), ((-1099511627776), 1099511627776), ((-1099511627776), 1099511627776), ((-1099511627776), 1099511627776), ((-1099511627776), 1099511627776), ((-1099511627776), 1099511627776), ((-1099511627776), 1099511627776), ((-1099511627776), 1099511627776), ((-1099511627776), 1099511627776), ((-1099511627776), 1099511627776), ((-1099511627776), 1099511627776), ((-1099511627776), 1099511627776), ((-1099511627776), 1099511627776)], 0, 0)
def xk0 (k n : Nat) : Nat × xV := (k, 0, Int.ofNat n, Int.ofNat n)
def xkm (k n : Nat) : Nat × xV := (k, 0, Int.negSucc n, Int.negSucc n)
def xkr (k j : Nat) : Nat × xV := (k, 1, Int.ofNat j, 0)
def xkn (k : Nat) : Nat × xV := (k, 2, 0, 0)
def xd0 : xV := (0, 0, 0)
def xdn : xV := (2, 0, 0)
def xcl (kd c n : Nat) (d : xV) (o : xA) : xC := (kd, c, n, d, o)
def w_8_c0 : xC := xcl 0 11 15 xd0 [xkr 0 1, xkr 1 8, xkr 2 9, xkr 3 10, xkr 4 19, xkr 5 74, xkr 6 250, xkr 7 262, xkr 8 272, xkr 9 273, xkr 10 274, xk0 11 0, xk0 12 0, xk0 13 0, xk0 14 1]
def w_8_c1 : xC := xcl 0 8 17 xd0 [xk0 0 0, xkm 1 0, xkm 2 0, xkr 3 2, xkr 4 5, xk0 5 0, xk0 6 0, xk0 7 0, xk0 8 0, xk0 9 0, xk0 10 0, xk0 11 0, xk0 12 0, xk0 13 0, xk0 14 0, xkr 15 6, xkr 16 7]
def w_8_c2 : xC := xcl 0 1 5 xd0 [xk0 0 0, xk0 1 0, xk0 2 0, xkr 3 3, xkr 4 4]
def w_8_c3 : xC := xcl 1 0 32 xd0 []
def w_8_c4 : xC := xcl 1 0 4000 xd0 []
def w_8_c5 : xC := xcl 2 0 4000 xd0 []
def w_8_c6 : xC := xcl 1 0 32 xd0 []
def w_8_c7 : xC := xcl 1 0 500 xd0 []
def w_8_c8 : xC := xcl 0 3 12 xd0 [xkr 0 9, xkr 1 10, xkr 2 19, xkr 3 74, xkr 4 82, xkr 5 83, xkr 6 84, xkr 7 85, xk0 8 0, xk0 9 0, xk0 10 0, xk0 11 0]
def w_8_c9 : xC := xcl 5 0 4 xdn [xkr 0 86, xkr 1 103, xkr 2 120, xkr 3 137]
def w_8_c10 : xC := xcl 0 7 8 xd0 [xkr 0 11, xkr 1 12, xkr 2 13, xkr 3 14, xkr 4 15, xkr 5 16, xkr 6 17, xkr 7 18]
def w_8_c11 : xC := xcl 1 0 64 xd0 []
def w_8_c12 : xC := xcl 1 0 64 xd0 []
def w_8_c13 : xC := xcl 1 0 64 xd0 []
def w_8_c14 : xC := xcl 1 0 64 xd0 []
def w_8_c15 : xC := xcl 1 0 64 xd0 [xkm 0 0, xkm 1 0, xkm 2 0, xkm 3 0, xkm 4 0, xkm 5 0, xkm 6 0, xkm 7 0, xkm 8 0, xkm 9 0, xkm 10 0, xkm 11 0, xkm 12 0, xkm 13 0, xkm 14 0, xkm 15 0, xkm 16 0, xkm 17 0, xkm 18 0, xkm 19 0, xkm 20 0, xkm 21 0, xkm 22 0, xkm 23 0, xkm 24 0, xkm 25 0, xkm 26 0, xkm 27 0, xkm 28 0, xkm 29 0, xkm 30 0, xkm 31 0, xkm 32 0, xkm 33 0, xkm 34 0, xkm 35 0, xkm 36 0, xkm 37 0, xkm 38 0, xkm 39 0, xkm 40 0, xkm 41 0, xkm 42 0, xkm 43 0, xkm 44 0, xkm 45 0, xkm 46 0, xkm 47 0, xkm 48 0, xkm 49 0, xkm 50 0, xkm 51 0, xkm 52 0, xkm 53 0, xkm 54 0, xkm 55 0, xkm 56 0, xkm 57 0, xkm 58 0, xkm 59 0, xkm 60 0, xkm 61 0, xkm 62 0, xkm 63 0]
def w_8_c16 : xC := xcl 3 0 64 xd0 []
def w_8_c17 : xC := xcl 3 0 64 xd0 []
def w_8_c18 : xC := xcl 1 0 64 xd0 [xk0 1 1, xk0 2 2, xk0 3 3, xk0 4 4, xk0 5 5, xk0 6 6, xk0 7 7, xk0 8 8, xk0 9 9, xk0 10 10, xk0 11 11, xk0 12 12, xk0 13 13, xk0 14 14, xk0 15 15, xk0 16 16, xk0 17 17, xk0 18 18, xk0 19 19, xk0 20 20, xk0 21 21, xk0 22 22, xk0 23 23, xk0 24 24, xk0 25 25, xk0 26 26, xk0 27 27, xk0 28 28, xk0 29 29, xk0 30 30, xk0 31 31, xk0 32 32, xk0 33 33, xk0 34 34, xk0 35 35, xk0 36 36, xk0 37 37, xk0 38 38, xk0 39 39, xk0 40 40, xk0 41 41, xk0 42 42, xk0 43 43, xk0 44 44, xk0 45 45, xk0 46 46, xk0 47 47, xk0 48 48, xk0 49 49, xk0 50 50, xk0 51 51, xk0 52 52, xk0 53 53, xk0 54 54, xk0 55 55, xk0 56 56, xk0 57 57, xk0 58 58, xk0 59 59, xk0 60 60, xk0 61 61, xk0 62 62, xk0 63 63]
def w_8_c19 : xC := xcl 0 4 20 xd0 [xk0 0 0, xk0 1 0, xkr 2 20, xkr 3 21, xkr 4 22, xkr 5 23, xkr 6 24, xkr 7 25, xkr 8 26, xkr 9 27, xkr 10 28, xkr 11 29, xkr 12 30, xkr 13 35, xkr 14 36, xkr 15 37, xkr 16 38, xkr 17 39, xkr 18 40, xkr 19 41]
def w_8_c20 : xC := xcl 1 0 4 xd0 []
def w_8_c21 : xC := xcl 1 0 4 xd0 []
def w_8_c22 : xC := xcl 1 0 4 xd0 []
def w_8_c23 : xC := xcl 1 0 4 xd0 []
def w_8_c24 : xC := xcl 1 0 4 xd0 []
def w_8_c25 : xC := xcl 1 0 4 xd0 []
def w_8_c26 : xC := xcl 1 0 4 xd0 []
def w_8_c27 : xC := xcl 1 0 4 xd0 []
def w_8_c28 : xC := xcl 1 0 4 xd0 []
def w_8_c29 : xC := xcl 1 0 4 xd0 []
def w_8_c30 : xC := xcl 6 0 4 xdn [xkr 0 31, xkr 1 32, xkr 2 33, xkr 3 34]
def w_8_c31 : xC := xcl 1 0 32 xd0 []
def w_8_c32 : xC := xcl 1 0 32 xd0 []
def w_8_c33 : xC := xcl 1 0 32 xd0 []
def w_8_c34 : xC := xcl 1 0 32 xd0 []
def w_8_c35 : xC := xcl 1 0 4 xd0 []
def w_8_c36 : xC := xcl 1 0 32 xd0 []
def w_8_c37 : xC := xcl 1 0 32 xd0 []
def w_8_c38 : xC := xcl 1 0 32 xd0 []
def w_8_c39 : xC := xcl 1 0 32 xd0 []
def w_8_c40 : xC := xcl 1 0 32 xd0 []
def w_8_c41 : xC := xcl 6 0 32 xdn [xkr 0 42, xkr 1 43, xkr 2 44, xkr 3 45, xkr 4 46, xkr 5 47, xkr 6 48, xkr 7 49, xkr 8 50, xkr 9 51, xkr 10 52, xkr 11 53, xkr 12 54, xkr 13 55, xkr 14 56, xkr 15 57, xkr 16 58, xkr 17 59, xkr 18 60, xkr 19 61, xkr 20 62, xkr 21 63, xkr 22 64, xkr 23 65, xkr 24 66, xkr 25 67, xkr 26 68, xkr 27 69, xkr 28 70, xkr 29 71, xkr 30 72, xkr 31 73]
def w_8_c42 : xC := xcl 1 0 4 xd0 []
def w_8_c43 : xC := xcl 1 0 4 xd0 []
def w_8_c44 : xC := xcl 1 0 4 xd0 []
def w_8_c45 : xC := xcl 1 0 4 xd0 []
def w_8_c46 : xC := xcl 1 0 4 xd0 []
def w_8_c47 : xC := xcl 1 0 4 xd0 []
def w_8_c48 : xC := xcl 1 0 4 xd0 []
def w_8_c49 : xC := xcl 1 0 4 xd0 []
def w_8_c50 : xC := xcl 1 0 4 xd0 []
def w_8_c51 : xC := xcl 1 0 4 xd0 []
def w_8_c52 : xC := xcl 1 0 4 xd0 []
def w_8_c53 : xC := xcl 1 0 4 xd0 []
def w_8_c54 : xC := xcl 1 0 4 xd0 []
def w_8_c55 : xC := xcl 1 0 4 xd0 []
def w_8_c56 : xC := xcl 1 0 4 xd0 []
def w_8_c57 : xC := xcl 1 0 4 xd0 []
def w_8_c58 : xC := xcl 1 0 4 xd0 []
def w_8_c59 : xC := xcl 1 0 4 xd0 []
def w_8_c60 : xC := xcl 1 0 4 xd0 []
def w_8_c61 : xC := xcl 1 0 4 xd0 []
def w_8_c62 : xC := xcl 1 0 4 xd0 []
def w_8_c63 : xC := xcl 1 0 4 xd0 []
def w_8_c64 : xC := xcl 1 0 4 xd0 []
def w_8_c65 : xC := xcl 1 0 4 xd0 []
def w_8_c66 : xC := xcl 1 0 4 xd0 []
def w_8_c67 : xC := xcl 1 0 4 xd0 []
def w_8_c68 : xC := xcl 1 0 4 xd0 []
def w_8_c69 : xC := xcl 1 0 4 xd0 []
def w_8_c70 : xC := xcl 1 0 4 xd0 []
def w_8_c71 : xC := xcl 1 0 4 xd0 []
def w_8_c72 : xC := xcl 1 0 4 xd0 []
def w_8_c73 : xC := xcl 1 0 4 xd0 []
def w_8_c74 : xC := xcl 0 2 15 xd0 [xk0 0 0, xk0 1 0, xk0 2 0, xk0 3 0, xk0 4 0, xk0 5 0, xk0 6 0, xk0 7 0, xkr 8 75, xkr 9 76, xkr 10 77, xkr 11 78, xkr 12 79, xkr 13 80, xkr 14 81]
def w_8_c75 : xC := xcl 1 0 8000 xd0 []
def w_8_c76 : xC := xcl 1 0 8 xd0 []
def w_8_c77 : xC := xcl 3 0 8 xd0 []
def w_8_c78 : xC := xcl 3 0 8 xd0 [xk0 0 1, xk0 1 1, xk0 2 1, xk0 3 1, xk0 4 1, xk0 5 1, xk0 6 1, xk0 7 1]
def w_8_c79 : xC := xcl 3 0 8 xd0 [xk0 0 1, xk0 1 1, xk0 2 1, xk0 3 1, xk0 4 1, xk0 5 1, xk0 6 1, xk0 7 1]
def w_8_c80 : xC := xcl 3 0 8 xd0 []
def w_8_c81 : xC := xcl 1 0 8 xd0 []
def w_8_c82 : xC := xcl 5 10 16 xdn [xkr 0 154, xkr 1 160, xkr 2 166, xkr 3 172, xkr 4 178, xkr 5 184, xkr 6 190, xkr 7 196, xkr 8 202, xkr 9 208, xkr 10 214, xkr 11 220, xkr 12 226, xkr 13 232, xkr 14 238, xkr 15 244]
def w_8_c83 : xC := xcl 1 0 8 xd0 [xkm 0 0, xkm 1 0, xkm 2 0, xkm 3 0, xkm 4 0, xkm 5 0, xkm 6 0, xkm 7 0]
def w_8_c84 : xC := xcl 1 0 128 xd0 []
def w_8_c85 : xC := xcl 1 0 6 xd0 []
def w_8_c86 : xC := xcl 0 0 20 xd0 [xkr 0 87, xkr 1 88, xkr 2 89, xkr 3 90, xkr 4 91, xkr 5 92, xkr 6 93, xkr 7 94, xk0 8 0, xk0 9 0, xk0 10 0, xk0 11 0, xk0 12 0, xkm 13 0, xkm 14 0, xk0 15 0, xkm 16 0, xkm 17 0, xkm 18 0, xk0 19 0]
def w_8_c87 : xC := xcl 5 5 6 xdn [xkr 0 97, xkr 1 98, xkr 2 99, xkr 3 100, xkr 4 101, xkr 5 102]
def w_8_c88 : xC := xcl 1 0 8 xd0 []
def w_8_c89 : xC := xcl 1 0 8 xd0 []
def w_8_c90 : xC := xcl 1 0 7 xd0 []
def w_8_c91 : xC := xcl 1 0 7 xd0 []
def w_8_c92 : xC := xcl 1 0 7 xd0 []
def w_8_c93 : xC := xcl 1 0 32 xd0 []
def w_8_c94 : xC := xcl 0 1 5 xd0 [xk0 0 0, xk0 1 0, xk0 2 0, xkr 3 95, xkr 4 96]
def w_8_c95 : xC := xcl 1 0 32 xd0 []
def w_8_c96 : xC := xcl 1 0 4000 xd0 []
def w_8_c97 : xC := xcl 0 5 12 xd0 [xk0 0 0, xk0 1 0, xk0 2 0, xk0 3 0, xk0 4 0, xk0 5 0, xk0 6 0, xk0 7 0, xk0 8 0, xk0 9 0, xk0 10 0, xk0 11 0]
def w_8_c98 : xC := xcl 0 5 12 xd0 [xk0 0 0, xk0 1 0, xk0 2 0, xk0 3 0, xk0 4 0, xk0 5 0, xk0 6 0, xk0 7 0, xk0 8 0, xk0 9 0, xk0 10 0, xk0 11 0]
def w_8_c99 : xC := xcl 0 5 12 xd0 [xk0 0 0, xk0 1 0, xk0 2 0, xk0 3 0, xk0 4 0, xk0 5 0, xk0 6 0, xk0 7 0, xk0 8 0, xk0 9 0, xk0 10 0, xk0 11 0]
def w_8_c100 : xC := xcl 0 5 12 xd0 [xk0 0 0, xk0 1 0, xk0 2 0, xk0 3 0, xk0 4 0, xk0 5 0, xk0 6 0, xk0 7 0, xk0 8 0, xk0 9 0, xk0 10 0, xk0 11 0]
def w_8_c101 : xC := xcl 0 5 12 xd0 [xk0 0 0, xk0 1 0, xk0 2 0, xk0 3 0, xk0 4 0, xk0 5 0, xk0 6 0, xk0 7 0, xk0 8 0, xk0 9 0, xk0 10 0, xk0 11 0]
def w_8_c102 : xC := xcl 0 5 12 xd0 [xk0 0 0, xk0 1 0, xk0 2 0, xk0 3 0, xk0 4 0, xk0 5 0, xk0 6 0, xk0 7 0, xk0 8 0, xk0 9 0, xk0 10 0, xk0 11 0]
def w_8_c103 : xC := xcl 0 0 20 xd0 [xkr 0 104, xkr 1 105, xkr 2 106, xkr 3 107, xkr 4 108, xkr 5 109, xkr 6 110, xkr 7 111, xk0 8 0, xk0 9 0, xk0 10 0, xk0 11 0, xk0 12 0, xkm 13 0, xkm 14 0, xk0 15 0, xkm 16 0, xkm 17 0, xkm 18 0, xk0 19 0]
def w_8_c104 : xC := xcl 5 5 6 xdn [xkr 0 114, xkr 1 115, xkr 2 116, xkr 3 117, xkr 4 118, xkr 5 119]
def w_8_c105 : xC := xcl 1 0 8 xd0 []
def w_8_c106 : xC := xcl 1 0 8 xd0 []
def w_8_c107 : xC := xcl 1 0 7 xd0 []
def w_8_c108 : xC := xcl 1 0 7 xd0 []
def w_8_c109 : xC := xcl 1 0 7 xd0 []
def w_8_c110 : xC := xcl 1 0 32 xd0 []
def w_8_c111 : xC := xcl 0 1 5 xd0 [xk0 0 0, xk0 1 0, xk0 2 0, xkr 3 112, xkr 4 113]
def w_8_c112 : xC := xcl 1 0 32 xd0 []
def w_8_c113 : xC := xcl 1 0 4000 xd0 []
def w_8_c114 : xC := xcl 0 5 12 xd0 [xk0 0 0, xk0 1 0, xk0 2 0, xk0 3 0, xk0 4 0, xk0 5 0, xk0 6 0, xk0 7 0, xk0 8 0, xk0 9 0, xk0 10 0, xk0 11 0]
def w_8_c115 : xC := xcl 0 5 12 xd0 [xk0 0 0, xk0 1 0, xk0 2 0, xk0 3 0, xk0 4 0, xk0 5 0, xk0 6 0, xk0 7 0, xk0 8 0, xk0 9 0, xk0 10 0, xk0 11 0]
def w_8_c116 : xC := xcl 0 5 12 xd0 [xk0 0 0, xk0 1 0, xk0 2 0, xk0 3 0, xk0 4 0, xk0 5 0, xk0 6 0, xk0 7 0, xk0 8 0, xk0 9 0, xk0 10 0, xk0 11 0]
def w_8_c117 : xC := xcl 0 5 12 xd0 [xk0 0 0, xk0 1 0, xk0 2 0, xk0 3 0, xk0 4 0, xk0 5 0, xk0 6 0, xk0 7 0, xk0 8 0, xk0 9 0, xk0 10 0, xk0 11 0]
def w_8_c118 : xC := xcl 0 5 12 xd0 [xk0 0 0, xk0 1 0, xk0 2 0, xk0 3 0, xk0 4 0, xk0 5 0, xk0 6 0, xk0 7 0, xk0 8 0, xk0 9 0, xk0 10 0, xk0 11 0]
def w_8_c119 : xC := xcl 0 5 12 xd0 [xk0 0 0, xk0 1 0, xk0 2 0, xk0 3 0, xk0 4 0, xk0 5 0, xk0 6 0, xk0 7 0, xk0 8 0, xk0 9 0, xk0 10 0, xk0 11 0]
def w_8_c120 : xC := xcl 0 0 20 xd0 [xkr 0 121, xkr 1 122, xkr 2 123, xkr 3 124, xkr 4 125, xkr 5 126, xkr 6 127, xkr 7 128, xk0 8 0, xk0 9 0, xk0 10 0, xk0 11 0, xk0 12 0, xkm 13 0, xkm 14 0, xk0 15 0, xkm 16 0, xkm 17 0, xkm 18 0, xk0 19 0]
def w_8_c121 : xC := xcl 5 5 6 xdn [xkr 0 131, xkr 1 132, xkr 2 133, xkr 3 134, xkr 4 135, xkr 5 136]
def w_8_c122 : xC := xcl 1 0 8 xd0 []
def w_8_c123 : xC := xcl 1 0 8 xd0 []
def w_8_c124 : xC := xcl 1 0 7 xd0 []
def w_8_c125 : xC := xcl 1 0 7 xd0 []
def w_8_c126 : xC := xcl 1 0 7 xd0 []
def w_8_c127 : xC := xcl 1 0 32 xd0 []
def w_8_c128 : xC := xcl 0 1 5 xd0 [xk0 0 0, xk0 1 0, xk0 2 0, xkr 3 129, xkr 4 130]
def w_8_c129 : xC := xcl 1 0 32 xd0 []
def w_8_c130 : xC := xcl 1 0 4000 xd0 []
def w_8_c131 : xC := xcl 0 5 12 xd0 [xk0 0 0, xk0 1 0, xk0 2 0, xk0 3 0, xk0 4 0, xk0 5 0, xk0 6 0, xk0 7 0, xk0 8 0, xk0 9 0, xk0 10 0, xk0 11 0]
def w_8_c132 : xC := xcl 0 5 12 xd0 [xk0 0 0, xk0 1 0, xk0 2 0, xk0 3 0, xk0 4 0, xk0 5 0, xk0 6 0, xk0 7 0, xk0 8 0, xk0 9 0, xk0 10 0, xk0 11 0]
def w_8_c133 : xC := xcl 0 5 12 xd0 [xk0 0 0, xk0 1 0, xk0 2 0, xk0 3 0, xk0 4 0, xk0 5 0, xk0 6 0, xk0 7 0, xk0 8 0, xk0 9 0, xk0 10 0, xk0 11 0]
def w_8_c134 : xC := xcl 0 5 12 xd0 [xk0 0 0, xk0 1 0, xk0 2 0, xk0 3 0, xk0 4 0, xk0 5 0, xk0 6 0, xk0 7 0, xk0 8 0, xk0 9 0, xk0 10 0, xk0 11 0]
def w_8_c135 : xC := xcl 0 5 12 xd0 [xk0 0 0, xk0 1 0, xk0 2 0, xk0 3 0, xk0 4 0, xk0 5 0, xk0 6 0, xk0 7 0, xk0 8 0, xk0 9 0, xk0 10 0, xk0 11 0]
def w_8_c136 : xC := xcl 0 5 12 xd0 [xk0 0 0, xk0 1 0, xk0 2 0, xk0 3 0, xk0 4 0, xk0 5 0, xk0 6 0, xk0 7 0, xk0 8 0, xk0 9 0, xk0 10 0, xk0 11 0]
def w_8_c137 : xC := xcl 0 0 20 xd0 [xkr 0 138, xkr 1 139, xkr 2 140, xkr 3 141, xkr 4 142, xkr 5 143, xkr 6 144, xkr 7 145, xk0 8 0, xk0 9 0, xk0 10 0, xk0 11 0, xk0 12 0, xkm 13 0, xkm 14 0, xk0 15 0, xkm 16 0, xkm 17 0, xkm 18 0, xk0 19 0]
def w_8_c138 : xC := xcl 5 5 6 xdn [xkr 0 148, xkr 1 149, xkr 2 150, xkr 3 151, xkr 4 152, xkr 5 153]
def w_8_c139 : xC := xcl 1 0 8 xd0 []
def w_8_c140 : xC := xcl 1 0 8 xd0 []
def w_8_c141 : xC := xcl 1 0 7 xd0 []
def w_8_c142 : xC := xcl 1 0 7 xd0 []
def w_8_c143 : xC := xcl 1 0 7 xd0 []
def w_8_c144 : xC := xcl 1 0 32 xd0 []
def w_8_c145 : xC := xcl 0 1 5 xd0 [xk0 0 0, xk0 1 0, xk0 2 0, xkr 3 146, xkr 4 147]
def w_8_c146 : xC := xcl 1 0 32 xd0 []
def w_8_c147 : xC := xcl 1 0 4000 xd0 []
def w_8_c148 : xC := xcl 0 5 12 xd0 [xk0 0 0, xk0 1 0, xk0 2 0, xk0 3 0, xk0 4 0, xk0 5 0, xk0 6 0, xk0 7 0, xk0 8 0, xk0 9 0, xk0 10 0, xk0 11 0]
def w_8_c149 : xC := xcl 0 5 12 xd0 [xk0 0 0, xk0 1 0, xk0 2 0, xk0 3 0, xk0 4 0, xk0 5 0, xk0 6 0, xk0 7 0, xk0 8 0, xk0 9 0, xk0 10 0, xk0 11 0]
def w_8_c150 : xC := xcl 0 5 12 xd0 [xk0 0 0, xk0 1 0, xk0 2 0, xk0 3 0, xk0 4 0, xk0 5 0, xk0 6 0, xk0 7 0, xk0 8 0, xk0 9 0, xk0 10 0, xk0 11 0]
def w_8_c151 : xC := xcl 0 5 12 xd0 [xk0 0 0, xk0 1 0, xk0 2 0, xk0 3 0, xk0 4 0, xk0 5 0, xk0 6 0, xk0 7 0, xk0 8 0, xk0 9 0, xk0 10 0, xk0 11 0]
def w_8_c152 : xC := xcl 0 5 12 xd0 [xk0 0 0, xk0 1 0, xk0 2 0, xk0 3 0, xk0 4 0, xk0 5 0, xk0 6 0, xk0 7 0, xk0 8 0, xk0 9 0, xk0 10 0, xk0 11 0]
def w_8_c153 : xC := xcl 0 5 12 xd0 [xk0 0 0, xk0 1 0, xk0 2 0, xk0 3 0, xk0 4 0, xk0 5 0, xk0 6 0, xk0 7 0, xk0 8 0, xk0 9 0, xk0 10 0, xk0 11 0]
def w_8_c154 : xC := xcl 0 10 21 xd0 [xk0 0 0, xk0 1 0, xkm 2 0, xk0 3 0, xk0 4 0, xk0 5 0, xk0 6 0, xk0 7 0, xk0 8 0, xk0 9 0, xk0 10 0, xkm 11 0, xk0 12 0, xk0 13 0, xk0 14 0, xk0 15 0, xkr 16 155, xkr 17 156, xkr 18 157, xkr 19 158, xkr 20 159]
def w_8_c155 : xC := xcl 1 0 20 xd0 []
def w_8_c156 : xC := xcl 1 0 20 xd0 []
def w_8_c157 : xC := xcl 1 0 600 xd0 []
def w_8_c158 : xC := xcl 1 0 600 xd0 []
def w_8_c159 : xC := xcl 1 0 600 xd0 []
def w_8_c160 : xC := xcl 0 10 21 xd0 [xk0 0 1, xk0 1 0, xkm 2 0, xk0 3 0, xk0 4 0, xk0 5 0, xk0 6 0, xk0 7 0, xk0 8 0, xk0 9 0, xk0 10 0, xkm 11 0, xk0 12 0, xk0 13 0, xk0 14 0, xk0 15 0, xkr 16 161, xkr 17 162, xkr 18 163, xkr 19 164, xkr 20 165]
def w_8_c161 : xC := xcl 1 0 20 xd0 []
def w_8_c162 : xC := xcl 1 0 20 xd0 []
def w_8_c163 : xC := xcl 1 0 600 xd0 []
def w_8_c164 : xC := xcl 1 0 600 xd0 []
def w_8_c165 : xC := xcl 1 0 600 xd0 []
def w_8_c166 : xC := xcl 0 10 21 xd0 [xk0 0 2, xk0 1 0, xkm 2 0, xk0 3 0, xk0 4 0, xk0 5 0, xk0 6 0, xk0 7 0, xk0 8 0, xk0 9 0, xk0 10 0, xkm 11 0, xk0 12 0, xk0 13 0, xk0 14 0, xk0 15 0, xkr 16 167, xkr 17 168, xkr 18 169, xkr 19 170, xkr 20 171]
def w_8_c167 : xC := xcl 1 0 20 xd0 []
def w_8_c168 : xC := xcl 1 0 20 xd0 []
def w_8_c169 : xC := xcl 1 0 600 xd0 []
def w_8_c170 : xC := xcl 1 0 600 xd0 []
def w_8_c171 : xC := xcl 1 0 600 xd0 []
def w_8_c172 : xC := xcl 0 10 21 xd0 [xk0 0 3, xk0 1 0, xkm 2 0, xk0 3 0, xk0 4 0, xk0 5 0, xk0 6 0, xk0 7 0, xk0 8 0, xk0 9 0, xk0 10 0, xkm 11 0, xk0 12 0, xk0 13 0, xk0 14 0, xk0 15 0, xkr 16 173, xkr 17 174, xkr 18 175, xkr 19 176, xkr 20 177]
def w_8_c173 : xC := xcl 1 0 20 xd0 []
def w_8_c174 : xC := xcl 1 0 20 xd0 []
def w_8_c175 : xC := xcl 1 0 600 xd0 []
def w_8_c176 : xC := xcl 1 0 600 xd0 []
def w_8_c177 : xC := xcl 1 0 600 xd0 []
def w_8_c178 : xC := xcl 0 10 21 xd0 [xk0 0 4, xk0 1 0, xkm 2 0, xk0 3 0, xk0 4 0, xk0 5 0, xk0 6 0, xk0 7 0, xk0 8 0, xk0 9 0, xk0 10 0, xkm 11 0, xk0 12 0, xk0 13 0, xk0 14 0, xk0 15 0, xkr 16 179, xkr 17 180, xkr 18 181, xkr 19 182, xkr 20 183]
def w_8_c179 : xC := xcl 1 0 20 xd0 []
def w_8_c180 : xC := xcl 1 0 20 xd0 []
def w_8_c181 : xC := xcl 1 0 600 xd0 []
def w_8_c182 : xC := xcl 1 0 600 xd0 []
def w_8_c183 : xC := xcl 1 0 600 xd0 []
def w_8_c184 : xC := xcl 0 10 21 xd0 [xk0 0 5, xk0 1 0, xkm 2 0, xk0 3 0, xk0 4 0, xk0 5 0, xk0 6 0, xk0 7 0, xk0 8 0, xk0 9 0, xk0 10 0, xkm 11 0, xk0 12 0, xk0 13 0, xk0 14 0, xk0 15 0, xkr 16 185, xkr 17 186, xkr 18 187, xkr 19 188, xkr 20 189]
def w_8_c185 : xC := xcl 1 0 20 xd0 []
def w_8_c186 : xC := xcl 1 0 20 xd0 []
def w_8_c187 : xC := xcl 1 0 600 xd0 []
def w_8_c188 : xC := xcl 1 0 600 xd0 []
def w_8_c189 : xC := xcl 1 0 600 xd0 []
def w_8_c190 : xC := xcl 0 10 21 xd0 [xk0 0 6, xk0 1 0, xkm 2 0, xk0 3 0, xk0 4 0, xk0 5 0, xk0 6 0, xk0 7 0, xk0 8 0, xk0 9 0, xk0 10 0, xkm 11 0, xk0 12 0, xk0 13 0, xk0 14 0, xk0 15 0, xkr 16 191, xkr 17 192, xkr 18 193, xkr 19 194, xkr 20 195]
def w_8_c191 : xC := xcl 1 0 20 xd0 []
def w_8_c192 : xC := xcl 1 0 20 xd0 []
def w_8_c193 : xC := xcl 1 0 600 xd0 []
def w_8_c194 : xC := xcl 1 0 600 xd0 []
def w_8_c195 : xC := xcl 1 0 600 xd0 []
def w_8_c196 : xC := xcl 0 10 21 xd0 [xk0 0 7, xk0 1 0, xkm 2 0, xk0 3 0, xk0 4 0, xk0 5 0, xk0 6 0, xk0 7 0, xk0 8 0, xk0 9 0, xk0 10 0, xkm 11 0, xk0 12 0, xk0 13 0, xk0 14 0, xk0 15 0, xkr 16 197, xkr 17 198, xkr 18 199, xkr 19 200, xkr 20 201]
def w_8_c197 : xC := xcl 1 0 20 xd0 []
def w_8_c198 : xC := xcl 1 0 20 xd0 []
def w_8_c199 : xC := xcl 1 0 600 xd0 []
def w_8_c200 : xC := xcl 1 0 600 xd0 []
def w_8_c201 : xC := xcl 1 0 600 xd0 []
def w_8_c202 : xC := xcl 0 10 21 xd0 [xk0 0 8, xk0 1 0, xkm 2 0, xk0 3 0, xk0 4 0, xk0 5 0, xk0 6 0, xk0 7 0, xk0 8 0, xk0 9 0, xk0 10 0, xkm 11 0, xk0 12 0, xk0 13 0, xk0 14 0, xk0 15 0, xkr 16 203, xkr 17 204, xkr 18 205, xkr 19 206, xkr 20 207]
def w_8_c203 : xC := xcl 1 0 20 xd0 []
def w_8_c204 : xC := xcl 1 0 20 xd0 []
def w_8_c205 : xC := xcl 1 0 600 xd0 []
def w_8_c206 : xC := xcl 1 0 600 xd0 []
def w_8_c207 : xC := xcl 1 0 600 xd0 []
def w_8_c208 : xC := xcl 0 10 21 xd0 [xk0 0 9, xk0 1 0, xkm 2 0, xk0 3 0, xk0 4 0, xk0 5 0, xk0 6 0, xk0 7 0, xk0 8 0, xk0 9 0, xk0 10 0, xkm 11 0, xk0 12 0, xk0 13 0, xk0 14 0, xk0 15 0, xkr 16 209, xkr 17 210, xkr 18 211, xkr 19 212, xkr 20 213]
def w_8_c209 : xC := xcl 1 0 20 xd0 []
def w_8_c210 : xC := xcl 1 0 20 xd0 []
def w_8_c211 : xC := xcl 1 0 600 xd0 []
def w_8_c212 : xC := xcl 1 0 600 xd0 []
def w_8_c213 : xC := xcl 1 0 600 xd0 []
def w_8_c214 : xC := xcl 0 10 21 xd0 [xk0 0 10, xk0 1 0, xkm 2 0, xk0 3 0, xk0 4 0, xk0 5 0, xk0 6 0, xk0 7 0, xk0 8 0, xk0 9 0, xk0 10 0, xkm 11 0, xk0 12 0, xk0 13 0, xk0 14 0, xk0 15 0, xkr 16 215, xkr 17 216, xkr 18 217, xkr 19 218, xkr 20 219]
def w_8_c215 : xC := xcl 1 0 20 xd0 []
def w_8_c216 : xC := xcl 1 0 20 xd0 []
def w_8_c217 : xC := xcl 1 0 600 xd0 []
def w_8_c218 : xC := xcl 1 0 600 xd0 []
def w_8_c219 : xC := xcl 1 0 600 xd0 []
def w_8_c220 : xC := xcl 0 10 21 xd0 [xk0 0 11, xk0 1 0, xkm 2 0, xk0 3 0, xk0 4 0, xk0 5 0, xk0 6 0, xk0 7 0, xk0 8 0, xk0 9 0, xk0 10 0, xkm 11 0, xk0 12 0, xk0 13 0, xk0 14 0, xk0 15 0, xkr 16 221, xkr 17 222, xkr 18 223, xkr 19 224, xkr 20 225]
def w_8_c221 : xC := xcl 1 0 20 xd0 []
def w_8_c222 : xC := xcl 1 0 20 xd0 []
def w_8_c223 : xC := xcl 1 0 600 xd0 []
def w_8_c224 : xC := xcl 1 0 600 xd0 []
def w_8_c225 : xC := xcl 1 0 600 xd0 []
def w_8_c226 : xC := xcl 0 10 21 xd0 [xk0 0 12, xk0 1 0, xkm 2 0, xk0 3 0, xk0 4 0, xk0 5 0, xk0 6 0, xk0 7 0, xk0 8 0, xk0 9 0, xk0 10 0, xkm 11 0, xk0 12 0, xk0 13 0, xk0 14 0, xk0 15 0, xkr 16 227, xkr 17 228, xkr 18 229, xkr 19 230, xkr 20 231]
def w_8_c227 : xC := xcl 1 0 20 xd0 []
def w_8_c228 : xC := xcl 1 0 20 xd0 []
def w_8_c229 : xC := xcl 1 0 600 xd0 []
def w_8_c230 : xC := xcl 1 0 600 xd0 []
def w_8_c231 : xC := xcl 1 0 600 xd0 []
def w_8_c232 : xC := xcl 0 10 21 xd0 [xk0 0 13, xk0 1 0, xkm 2 0, xk0 3 0, xk0 4 0, xk0 5 0, xk0 6 0, xk0 7 0, xk0 8 0, xk0 9 0, xk0 10 0, xkm 11 0, xk0 12 0, xk0 13 0, xk0 14 0, xk0 15 0, xkr 16 233, xkr 17 234, xkr 18 235, xkr 19 236, xkr 20 237]
def w_8_c233 : xC := xcl 1 0 20 xd0 []
def w_8_c234 : xC := xcl 1 0 20 xd0 []
def w_8_c235 : xC := xcl 1 0 600 xd0 []
def w_8_c236 : xC := xcl 1 0 600 xd0 []
def w_8_c237 : xC := xcl 1 0 600 xd0 []
def w_8_c238 : xC := xcl 0 10 21 xd0 [xk0 0 14, xk0 1 0, xkm 2 0, xk0 3 0, xk0 4 0, xk0 5 0, xk0 6 0, xk0 7 0, xk0 8 0, xk0 9 0, xk0 10 0, xkm 11 0, xk0 12 0, xk0 13 0, xk0 14 0, xk0 15 0, xkr 16 239, xkr 17 240, xkr 18 241, xkr 19 242, xkr 20 243]
def w_8_c239 : xC := xcl 1 0 20 xd0 []
def w_8_c240 : xC := xcl 1 0 20 xd0 []
def w_8_c241 : xC := xcl 1 0 600 xd0 []
def w_8_c242 : xC := xcl 1 0 600 xd0 []
def w_8_c243 : xC := xcl 1 0 600 xd0 []
def w_8_c244 : xC := xcl 0 10 21 xd0 [xk0 0 15, xk0 1 0, xkm 2 0, xk0 3 0, xk0 4 0, xk0 5 0, xk0 6 0, xk0 7 0, xk0 8 0, xk0 9 0, xk0 10 0, xkm 11 0, xk0 12 0, xk0 13 0, xk0 14 0, xk0 15 0, xkr 16 245, xkr 17 246, xkr 18 247, xkr 19 248, xkr 20 249]
def w_8_c245 : xC := xcl 1 0 20 xd0 []
def w_8_c246 : xC := xcl 1 0 20 xd0 []
def w_8_c247 : xC := xcl 1 0 600 xd0 []
def w_8_c248 : xC := xcl 1 0 600 xd0 []
def w_8_c249 : xC := xcl 1 0 600 xd0 []
def w_8_c250 : xC := xcl 0 9 17 xd0 [xk0 0 0, xk0 1 0, xkr 2 251, xkr 3 252, xkr 4 253, xkr 5 254, xkr 6 255, xkr 7 256, xkr 8 257, xkr 9 258, xkr 10 259, xkr 11 260, xkr 12 261, xk0 13 0, xk0 14 0, xk0 15 0, xk0 16 0]
def w_8_c251 : xC := xcl 1 0 16 xd0 []
def w_8_c252 : xC := xcl 1 0 16 xd0 []
def w_8_c253 : xC := xcl 1 0 16 xd0 []
def w_8_c254 : xC := xcl 1 0 16 xd0 []
def w_8_c255 : xC := xcl 1 0 16 xd0 []
def w_8_c256 : xC := xcl 1 0 8 xd0 []
def w_8_c257 : xC := xcl 1 0 8 xd0 []
def w_8_c258 : xC := xcl 1 0 8 xd0 []
def w_8_c259 : xC := xcl 1 0 8 xd0 []
def w_8_c260 : xC := xcl 1 0 8 xd0 []
def w_8_c261 : xC := xcl 1 0 8 xd0 []
def w_8_c262 : xC := xcl 0 6 13 xd0 [xk0 0 0, xk0 1 0, xk0 2 0, xk0 3 0, xkr 4 263, xkr 5 264, xkr 6 265, xkr 7 266, xkr 8 267, xkr 9 268, xkr 10 269, xkr 11 270, xkr 12 271]
def w_8_c263 : xC := xcl 1 0 6 xd0 []
def w_8_c264 : xC := xcl 1 0 6 xd0 []
def w_8_c265 : xC := xcl 1 0 6 xd0 []
def w_8_c266 : xC := xcl 1 0 6 xd0 []
def w_8_c267 : xC := xcl 1 0 1000 xd0 []
def w_8_c268 : xC := xcl 1 0 1000 xd0 []
def w_8_c269 : xC := xcl 2 0 60000 xd0 []
def w_8_c270 : xC := xcl 1 0 60 xd0 []
def w_8_c271 : xC := xcl 1 0 60 xd0 []
def w_8_c272 : xC := xcl 1 0 6 xd0 []
def w_8_c273 : xC := xcl 1 0 8000 xd0 []
def w_8_c274 : xC := xcl 1 0 4 xd0 []
def w_8 : List xC := [w_8_c0, w_8_c1, w_8_c2, w_8_c3, w_8_c4, w_8_c5, w_8_c6, w_8_c7, w_8_c8, w_8_c9, w_8_c10, w_8_c11, w_8_c12, w_8_c13, w_8_c14, w_8_c15, w_8_c16, w_8_c17, w_8_c18, w_8_c19, w_8_c20, w_8_c21, w_8_c22, w_8_c23, w_8_c24, w_8_c25, w_8_c26, w_8_c27, w_8_c28, w_8_c29, w_8_c30, w_8_c31, w_8_c32, w_8_c33, w_8_c34, w_8_c35, w_8_c36, w_8_c37, w_8_c38, w_8_c39, w_8_c40, w_8_c41, w_8_c42, w_8_c43, w_8_c44, w_8_c45, w_8_c46, w_8_c47, w_8_c48, w_8_c49, w_8_c50, w_8_c51, w_8_c52, w_8_c53, w_8_c54, w_8_c55, w_8_c56, w_8_c57, w_8_c58, w_8_c59, w_8_c60, w_8_c61, w_8_c62, w_8_c63, w_8_c64, w_8_c65, w_8_c66, w_8_c67, w_8_c68, w_8_c69, w_8_c70, w_8_c71, w_8_c72, w_8_c73, w_8_c74, w_8_c75, w_8_c76, w_8_c77, w_8_c78, w_8_c79, w_8_c80, w_8_c81, w_8_c82, w_8_c83, w_8_c84, w_8_c85, w_8_c86, w_8_c87, w_8_c88, w_8_c89, w_8_c90, w_8_c91, w_8_c92, w_8_c93, w_8_c94, w_8_c95, w_8_c96, w_8_c97, w_8_c98, w_8_c99, w_8_c100, w_8_c101, w_8_c102, w_8_c103, w_8_c104, w_8_c105, w_8_c106, w_8_c107, w_8_c108, w_8_c109, w_8_c110, w_8_c111, w_8_c112, w_8_c113, w_8_c114, w_8_c115, w_8_c116, w_8_c117, w_8_c118, w_8_c119, w_8_c120, w_8_c121, w_8_c122, w_8_c123, w_8_c124, w_8_c125, w_8_c126, w_8_c127, w_8_c128, w_8_c129, w_8_c130, w_8_c131, w_8_c132, w_8_c133, w_8_c134, w_8_c135, w_8_c136, w_8_c137, w_8_c138, w_8_c139, w_8_c140, w_8_c141, w_8_c142, w_8_c143, w_8_c144, w_8_c145, w_8_c146, w_8_c147, w_8_c148, w_8_c149, w_8_c150, w_8_c151, w_8_c152, w_8_c153, w_8_c154, w_8_c155, w_8_c156, w_8_c157, w_8_c158, w_8_c159, w_8_c160, w_8_c161, w_8_c162, w_8_c163, w_8_c164, w_8_c165, w_8_c166, w_8_c167, w_8_c168, w_8_c169, w_8_c170, w_8_c171, w_8_c172, w_8_c173, w_8_c174, w_8_c175, w_8_c176, w_8_c177, w_8_c178, w_8_c179, w_8_c180, w_8_c181, w_8_c182, w_8_c183, w_8_c184, w_8_c185, w_8_c186, w_8_c187, w_8_c188, w_8_c189, w_8_c190, w_8_c191, w_8_c192, w_8_c193, w_8_c194, w_8_c195, w_8_c196, w_8_c197, w_8_c198, w_8_c199, w_8_c200, w_8_c201, w_8_c202, w_8_c203, w_8_c204, w_8_c205, w_8_c206, w_8_c207, w_8_c208, w_8_c209, w_8_c210, w_8_c211, w_8_c212, w_8_c213, w_8_c214, w_8_c215, w_8_c216, w_8_c217, w_8_c218, w_8_c219, w_8_c220, w_8_c221, w_8_c222, w_8_c223, w_8_c224, w_8_c225, w_8_c226, w_8_c227, w_8_c228, w_8_c229, w_8_c230, w_8_c231, w_8_c232, w_8_c233, w_8_c234, w_8_c235, w_8_c236, w_8_c237, w_8_c238, w_8_c239, w_8_c240, w_8_c241, w_8_c242, w_8_c243, w_8_c244, w_8_c245, w_8_c246, w_8_c247, w_8_c248, w_8_c249, w_8_c250, w_8_c251, w_8_c252, w_8_c253, w_8_c254, w_8_c255, w_8_c256, w_8_c257, w_8_c258, w_8_c259, w_8_c260, w_8_c261, w_8_c262, w_8_c263, w_8_c264, w_8_c265, w_8_c266, w_8_c267, w_8_c268, w_8_c269, w_8_c270, w_8_c271, w_8_c272, w_8_c273, w_8_c274]
def s_8p : xS := (8, [(0, (10, 0, 0)), (1, (1, 0, 0))], [], w_8, [((-2147483648), 2147483647), ((-2147483648), 2147483647), ((-2147483648), 2147483647), ((-2147483648), 2147483647), ((-2147483648), 2147483647), ((-2147483648), 2147483647), ((-1099511627776), 1099511627776), ((-1099511627776), 1099511627776), ((-1099511627776), 1099511627776), ((-1099511627776), 1099511627776), ((-1099511627776), 1099511627776), ((-1099511627776), 1099511627776), ((-1099511627776), 1099511627776), ((-1099511627776), 1099511627776), ((-1099511627776), 1099511627776), (0, 6), ((-6), 0), ((-1099511627776), 1099511627776), ((-1099511627776), 1099511627776), ((-1099511627776), 1099511627776), ((-1099511627776), 1099511627776), ((-1099511627776), 1099511627776), ((-1099511627776), 1099511627776), ((-1099511627776), 1099511627776), ((-1099511627776), 1099511627776), ((-1099511627776), 1099511627776), ((-1099511627776), 1099511627776), ((-1099511627776), 1099511627776), ((-1099511627776), 1099511627776), ((-1099511627776), 1099511627776), ((-1099511627776), 1099511627776), ((-1099511627776), 1099511627776)], 275, 134778)
def w_18_c0 : xC := xcl 0 11 15 xd0 [xkr 0 1, xkr 1 8, xkr 2 9, xkr 3 10, xkr 4 19, xkr 5 74, xkr 6 250, xkr 7 262, xkr 8 272, xkr 9 273, xkr 10 274, xk0 11 0, xk0 12 0, xk0 13 0, xk0 14 1]
def w_18_c1 : xC := xcl 0 8 17 xd0 [xk0 0 0, xkm 1 0, xkm 2 0, xkr 3 2, xkr 4 5, xk0 5 0, xk0 6 0, xk0 7 0, xk0 8 0, xk0 9 0, xk0 10 0, xk0 11 0, xk0 12 0, xk0 13 0, xk0 14 0, xkr 15 6, xkr 16 7]
def w_18_c2 : xC := xcl 0 1 5 xd0 [xk0 0 0, xk0 1 0, xk0 2 0, xkr 3 3, xkr 4 4]
def w_18_c3 : xC := xcl 1 0 32 xd0 []
def w_18_c4 : xC := xcl 1 0 4000 xd0 []
def w_18_c5 : xC := xcl 2 0 4000 xd0 []
def w_18_c6 : xC := xcl 1 0 32 xd0 []
def w_18_c7 : xC := xcl 1 0 500 xd0 []
def w_18_c8 : xC := xcl 0 3 12 xd0 [xkr 0 9, xkr 1 10, xkr 2 19, xkr 3 74, xkr 4 82, xkr 5 83, xkr 6 84, xkr 7 85, xk0 8 0, xk0 9 0, xk0 10 0, xk0 11 0]
def w_18_c9 : xC := xcl 5 0 4 xdn [xkr 0 86, xkr 1 103, xkr 2 120, xkr 3 137]
def w_18_c10 : xC := xcl 0 7 8 xd0 [xkr 0 11, xkr 1 12, xkr 2 13, xkr 3 14, xkr 4 15, xkr 5 16, xkr 6 17, xkr 7 18]
def w_18_c11 : xC := xcl 1 0 64 xd0 []
def w_18_c12 : xC := xcl 1 0 64 xd0 []
def w_18_c13 : xC := xcl 1 0 64 xd0 []
def w_18_c14 : xC := xcl 1 0 64 xd0 []
def w_18_c15 : xC := xcl 1 0 64 xd0 [xkm 0 0, xkm 1 0, xkm 2 0, xkm 3 0, xkm 4 0, xkm 5 0, xkm 6 0, xkm 7 0, xkm 8 0, xkm 9 0, xkm 10 0, xkm 11 0, xkm 12 0, xkm 13 0, xkm 14 0, xkm 15 0, xkm 16 0, xkm 17 0, xkm 18 0, xkm 19 0, xkm 20 0, xkm 21 0, xkm 22 0, xkm 23 0, xkm 24 0, xkm 25 0, xkm 26 0, xkm 27 0, xkm 28 0, xkm 29 0, xkm 30 0, xkm 31 0, xkm 32 0, xkm 33 0, xkm 34 0, xkm 35 0, xkm 36 0, xkm 37 0, xkm 38 0, xkm 39 0, xkm 40 0, xkm 41 0, xkm 42 0, xkm 43 0, xkm 44 0, xkm 45 0, xkm 46 0, xkm 47 0, xkm 48 0, xkm 49 0, xkm 50 0, xkm 51 0, xkm 52 0, xkm 53 0, xkm 54 0, xkm 55 0, xkm 56 0, xkm 57 0, xkm 58 0, xkm 59 0, xkm 60 0, xkm 61 0, xkm 62 0, xkm 63 0]
def w_18_c16 : xC := xcl 3 0 64 xd0 []
def w_18_c17 : xC := xcl 3 0 64 xd0 []
def w_18_c18 : xC := xcl 1 0 64 xd0 [xk0 1 1, xk0 2 2, xk0 3 3, xk0 4 4, xk0 5 5, xk0 6 6, xk0 7 7, xk0 8 8, xk0 9 9, xk0 10 10, xk0 11 11, xk0 12 12, xk0 13 13, xk0 14 14, xk0 15 15, xk0 16 16, xk0 17 17, xk0 18 18, xk0 19 19, xk0 20 20, xk0 21 21, xk0 22 22, xk0 23 23, xk0 24 24, xk0 25 25, xk0 26 26, xk0 27 27, xk0 28 28, xk0 29 29, xk0 30 30, xk0 31 31, xk0 32 32, xk0 33 33, xk0 34 34, xk0 35 35, xk0 36 36, xk0 37 37, xk0 38 38, xk0 39 39, xk0 40 40, xk0 41 41, xk0 42 42, xk0 43 43, xk0 44 44, xk0 45 45, xk0 46 46, xk0 47 47, xk0 48 48, xk0 49 49, xk0 50 50, xk0 51 51, xk0 52 52, xk0 53 53, xk0 54 54, xk0 55 55, xk0 56 56, xk0 57 57, xk0 58 58, xk0 59 59, xk0 60 60, xk0 61 61, xk0 62 62, xk0 63 63]
def w_18_c19 : xC := xcl 0 4 20 xd0 [xk0 0 0, xk0 1 0, xkr 2 20, xkr 3 21, xkr 4 22, xkr 5 23, xkr 6 24, xkr 7 25, xkr 8 26, xkr 9 27, xkr 10 28, xkr 11 29, xkr 12 30, xkr 13 35, xkr 14 36, xkr 15 37, xkr 16 38, xkr 17 39, xkr 18 40, xkr 19 41]
def w_18_c20 : xC := xcl 1 0 4 xd0 []
def w_18_c21 : xC := xcl 1 0 4 xd0 []
def w_18_c22 : xC := xcl 1 0 4 xd0 []
def w_18_c23 : xC := xcl 1 0 4 xd0 []
def w_18_c24 : xC := xcl 1 0 4 xd0 []
def w_18_c25 : xC := xcl 1 0 4 xd0 []
def w_18_c26 : xC := xcl 1 0 4 xd0 []
def w_18_c27 : xC := xcl 1 0 4 xd0 []
def w_18_c28 : xC := xcl 1 0 4 xd0 []
def w_18_c29 : xC := xcl 1 0 4 xd0 []
def w_18_c30 : xC := xcl 6 0 4 xdn [xkr 0 31, xkr 1 32, xkr 2 33, xkr 3 34]
def w_18_c31 : xC := xcl 1 0 32 xd0 []
def w_18_c32 : xC := xcl 1 0 32 xd0 []
def w_18_c33 : xC := xcl 1 0 32 xd0 []
def w_18_c34 : xC := xcl 1 0 32 xd0 []
def w_18_c35 : xC := xcl 1 0 4 xd0 []
def w_18_c36 : xC := xcl 1 0 32 xd0 []
def w_18_c37 : xC := xcl 1 0 32 xd0 []
def w_18_c38 : xC := xcl 1 0 32 xd0 []
def w_18_c39 : xC := xcl 1 0 32 xd0 []
def w_18_c40 : xC := xcl 1 0 32 xd0 []
def w_18_c41 : xC := xcl 6 0 32 xdn [xkr 0 42, xkr 1 43, xkr 2 44, xkr 3 45, xkr 4 46, xkr 5 47, xkr 6 48, xkr 7 49, xkr 8 50, xkr 9 51, xkr 10 52, xkr 11 53, xkr 12 54, xkr 13 55, xkr 14 56, xkr 15 57, xkr 16 58, xkr 17 59, xkr 18 60, xkr 19 61, xkr 20 62, xkr 21 63, xkr 22 64, xkr 23 65, xkr 24 66, xkr 25 67, xkr 26 68, xkr 27 69, xkr 28 70, xkr 29 71, xkr 30 72, xkr 31 73]
def w_18_c42 : xC := xcl 1 0 4 xd0 []
def w_18_c43 : xC := xcl 1 0 4 xd0 []
def w_18_c44 : xC := xcl 1 0 4 xd0 []
def w_18_c45 : xC := xcl 1 0 4 xd0 []
def w_18_c46 : xC := xcl 1 0 4 xd0 []
def w_18_c47 : xC := xcl 1 0 4 xd0 []
def w_18_c48 : xC := xcl 1 0 4 xd0 []
def w_18_c49 : xC := xcl 1 0 4 xd0 []
def w_18_c50 : xC := xcl 1 0 4 xd0 []
def w_18_c51 : xC := xcl 1 0 4 xd0 []
def w_18_c52 : xC := xcl 1 0 4 xd0 []
def w_18_c53 : xC := xcl 1 0 4 xd0 []
def w_18_c54 : xC := xcl 1 0 4 xd0 []
def w_18_c55 : xC := xcl 1 0 4 xd0 []
def w_18_c56 : xC := xcl 1 0 4 xd0 []
def w_18_c57 : xC := xcl 1 0 4 xd0 []
def w_18_c58 : xC := xcl 1 0 4 xd0 []
def w_18_c59 : xC := xcl 1 0 4 xd0 []
def w_18_c60 : xC := xcl 1 0 4 xd0 []
def w_18_c61 : xC := xcl 1 0 4 xd0 []
def w_18_c62 : xC := xcl 1 0 4 xd0 []
def w_18_c63 : xC := xcl 1 0 4 xd0 []
def w_18_c64 : xC := xcl 1 0 4 xd0 []
def w_18_c65 : xC := xcl 1 0 4 xd0 []
def w_18_c66 : xC := xcl 1 0 4 xd0 []
def w_18_c67 : xC := xcl 1 0 4 xd0 []
def w_18_c68 : xC := xcl 1 0 4 xd0 []
def w_18_c69 : xC := xcl 1 0 4 xd0 []
def w_18_c70 : xC := xcl 1 0 4 xd0 []
def w_18_c71 : xC := xcl 1 0 4 xd0 []
def w_18_c72 : xC := xcl 1 0 4 xd0 []
def w_18_c73 : xC := xcl 1 0 4 xd0 []
def w_18_c74 : xC := xcl 0 2 15 xd0 [xk0 0 0, xk0 1 0, xk0 2 0, xk0 3 0, xk0 4 0, xk0 5 0, xk0 6 0, xk0 7 0, xkr 8 75, xkr 9 76, xkr 10 77, xkr 11 78, xkr 12 79, xkr 13 80, xkr 14 81]
def w_18_c75 : xC := xcl 1 0 8000 xd0 []
def w_18_c76 : xC := xcl 1 0 8 xd0 []
def w_18_c77 : xC := xcl 3 0 8 xd0 []
def w_18_c78 : xC := xcl 3 0 8 xd0 [xk0 0 1, xk0 1 1, xk0 2 1, xk0 3 1, xk0 4 1, xk0 5 1, xk0 6 1, xk0 7 1]
def w_18_c79 : xC := xcl 3 0 8 xd0 [xk0 0 1, xk0 1 1, xk0 2 1, xk0 3 1, xk0 4 1, xk0 5 1, xk0 6 1, xk0 7 1]
def w_18_c80 : xC := xcl 3 0 8 xd0 []
def w_18_c81 : xC := xcl 1 0 8 xd0 []
def w_18_c82 : xC := xcl 5 10 16 xdn [xkr 0 154, xkr 1 160, xkr 2 166, xkr 3 172, xkr 4 178, xkr 5 184, xkr 6 190, xkr 7 196, xkr 8 202, xkr 9 208, xkr 10 214, xkr 11 220, xkr 12 226, xkr 13 232, xkr 14 238, xkr 15 244]
def w_18_c83 : xC := xcl 1 0 8 xd0 [xkm 0 0, xkm 1 0, xkm 2 0, xkm 3 0, xkm 4 0, xkm 5 0, xkm 6 0, xkm 7 0]
def w_18_c84 : xC := xcl 1 0 128 xd0 []
def w_18_c85 : xC := xcl 1 0 6 xd0 []
def w_18_c86 : xC := xcl 0 0 20 xd0 [xkr 0 87, xkr 1 88, xkr 2 89, xkr 3 90, xkr 4 91, xkr 5 92, xkr 6 93, xkr 7 94, xk0 8 0, xk0 9 0, xk0 10 0, xk0 11 0, xk0 12 0, xkm 13 0, xkm 14 0, xk0 15 0, xkm 16 0, xkm 17 0, xkm 18 0, xk0 19 0]
def w_18_c87 : xC := xcl 5 5 6 xdn [xkr 0 97, xkr 1 98, xkr 2 99, xkr 3 100, xkr 4 101, xkr 5 102]
def w_18_c88 : xC := xcl 1 0 8 xd0 []
def w_18_c89 : xC := xcl 1 0 8 xd0 []
def w_18_c90 : xC := xcl 1 0 7 xd0 []
def w_18_c91 : xC := xcl 1 0 7 xd0 []
def w_18_c92 : xC := xcl 1 0 7 xd0 []
def w_18_c93 : xC := xcl 1 0 32 xd0 []
def w_18_c94 : xC := xcl 0 1 5 xd0 [xk0 0 0, xk0 1 0, xk0 2 0, xkr 3 95, xkr 4 96]
def w_18_c95 : xC := xcl 1 0 32 xd0 []
def w_18_c96 : xC := xcl 1 0 4000 xd0 []
def w_18_c97 : xC := xcl 0 5 12 xd0 [xk0 0 0, xk0 1 0, xk0 2 0, xk0 3 0, xk0 4 0, xk0 5 0, xk0 6 0, xk0 7 0, xk0 8 0, xk0 9 0, xk0 10 0, xk0 11 0]
def w_18_c98 : xC := xcl 0 5 12 xd0 [xk0 0 0, xk0 1 0, xk0 2 0, xk0 3 0, xk0 4 0, xk0 5 0, xk0 6 0, xk0 7 0, xk0 8 0, xk0 9 0, xk0 10 0, xk0 11 0]
def w_18_c99 : xC := xcl 0 5 12 xd0 [xk0 0 0, xk0 1 0, xk0 2 0, xk0 3 0, xk0 4 0, xk0 5 0, xk0 6 0, xk0 7 0, xk0 8 0, xk0 9 0, xk0 10 0, xk0 11 0]
def w_18_c100 : xC := xcl 0 5 12 xd0 [xk0 0 0, xk0 1 0, xk0 2 0, xk0 3 0, xk0 4 0, xk0 5 0, xk0 6 0, xk0 7 0, xk0 8 0, xk0 9 0, xk0 10 0, xk0 11 0]
def w_18_c101 : xC := xcl 0 5 12 xd0 [xk0 0 0, xk0 1 0, xk0 2 0, xk0 3 0, xk0 4 0, xk0 5 0, xk0 6 0, xk0 7 0, xk0 8 0, xk0 9 0, xk0 10 0, xk0 11 0]
def w_18_c102 : xC := xcl 0 5 12 xd0 [xk0 0 0, xk0 1 0, xk0 2 0, xk0 3 0, xk0 4 0, xk0 5 0, xk0 6 0, xk0 7 0, xk0 8 0, xk0 9 0, xk0 10 0, xk0 11 0]
def w_18_c103 : xC := xcl 0 0 20 xd0 [xkr 0 104, xkr 1 105, xkr 2 106, xkr 3 107, xkr 4 108, xkr 5 109, xkr 6 110, xkr 7 111, xk0 8 0, xk0 9 0, xk0 10 0, xk0 11 0, xk0 12 0, xkm 13 0, xkm 14 0, xk0 15 0, xkm 16 0, xkm 17 0, xkm 18 0, xk0 19 0]
def w_18_c104 : xC := xcl 5 5 6 xdn [xkr 0 114, xkr 1 115, xkr 2 116, xkr 3 117, xkr 4 118, xkr 5 119]
def w_18_c105 : xC := xcl 1 0 8 xd0 []
def w_18_c106 : xC := xcl 1 0 8 xd0 []
def w_18_c107 : xC := xcl 1 0 7 xd0 []
def w_18_c108 : xC := xcl 1 0 7 xd0 []
def w_18_c109 : xC := xcl 1 0 7 xd0 []
def w_18_c110 : xC := xcl 1 0 32 xd0 []
def w_18_c111 : xC := xcl 0 1 5 xd0 [xk0 0 0, xk0 1 0, xk0 2 0, xkr 3 112, xkr 4 113]
def w_18_c112 : xC := xcl 1 0 32 xd0 []
def w_18_c113 : xC := xcl 1 0 4000 xd0 []
def w_18_c114 : xC := xcl 0 5 12 xd0 [xk0 0 0, xk0 1 0, xk0 2 0, xk0 3 0, xk0 4 0, xk0 5 0, xk0 6 0, xk0 7 0, xk0 8 0, xk0 9 0, xk0 10 0, xk0 11 0]
def w_18_c115 : xC := xcl 0 5 12 xd0 [xk0 0 0, xk0 1 0, xk0 2 0, xk0 3 0, xk0 4 0, xk0 5 0, xk0 6 0, xk0 7 0, xk0 8 0, xk0 9 0, xk0 10 0, xk0 11 0]
def w_18_c116 : xC := xcl 0 5 12 xd0 [xk0 0 0, xk0 1 0, xk0 2 0, xk0 3 0, xk0 4 0, xk0 5 0, xk0 6 0, xk0 7 0, xk0 8 0, xk0 9 0, xk0 10 0, xk0 11 0]
def w_18_c117 : xC := xcl 0 5 12 xd0 [xk0 0 0, xk0 1 0, xk0 2 0, xk0 3 0, xk0 4 0, xk0 5 0, xk0 6 0, xk0 7 0, xk0 8 0, xk0 9 0, xk0 10 0, xk0 11 0]
def w_18_c118 : xC := xcl 0 5 12 xd0 [xk0 0 0, xk0 1 0, xk0 2 0, xk0 3 0, xk0 4 0, xk0 5 0, xk0 6 0, xk0 7 0, xk0 8 0, xk0 9 0, xk0 10 0, xk0 11 0]
def w_18_c119 : xC := xcl 0 5 12 xd0 [xk0 0 0, xk0 1 0, xk0 2 0, xk0 3 0, xk0 4 0, xk0 5 0, xk0 6 0, xk0 7 0, xk0 8 0, xk0 9 0, xk0 10 0, xk0 11 0]
def w_18_c120 : xC := xcl 0 0 20 xd0 [xkr 0 121, xkr 1 122, xkr 2 123, xkr 3 124, xkr 4 125, xkr 5 126, xkr 6 127, xkr 7 128, xk0 8 0, xk0 9 0, xk0 10 0, xk0 11 0, xk0 12 0, xkm 13 0, xkm 14 0, xk0 15 0, xkm 16 0, xkm 17 0, xkm 18 0, xk0 19 0]
def w_18_c121 : xC := xcl 5 5 6 xdn [xkr 0 131, xkr 1 132, xkr 2 133, xkr 3 134, xkr 4 135, xkr 5 136]
def w_18_c122 : xC := xcl 1 0 8 xd0 []
def w_18_c123 : xC := xcl 1 0 8 xd0 []
def w_18_c124 : xC := xcl 1 0 7 xd0 []
def w_18_c125 : xC := xcl 1 0 7 xd0 []
def w_18_c126 : xC := xcl 1 0 7 xd0 []
def w_18_c127 : xC := xcl 1 0 32 xd0 []
def w_18_c128 : xC := xcl 0 1 5 xd0 [xk0 0 0, xk0 1 0, xk0 2 0, xkr 3 129, xkr 4 130]
def w_18_c129 : xC := xcl 1 0 32 xd0 []
def w_18_c130 : xC := xcl 1 0 4000 xd0 []
def w_18_c131 : xC := xcl 0 5 12 xd0 [xk0 0 0, xk0 1 0, xk0 2 0, xk0 3 0, xk0 4 0, xk0 5 0, xk0 6 0, xk0 7 0, xk0 8 0, xk0 9 0, xk0 10 0, xk0 11 0]
def w_18_c132 : xC := xcl 0 5 12 xd0 [xk0 0 0, xk0 1 0, xk0 2 0, xk0 3 0, xk0 4 0, xk0 5 0, xk0 6 0, xk0 7 0, xk0 8 0, xk0 9 0, xk0 10 0, xk0 11 0]
def w_18_c133 : xC := xcl 0 5 12 xd0 [xk0 0 0, xk0 1 0, xk0 2 0, xk0 3 0, xk0 4 0, xk0 5 0, xk0 6 0, xk0 7 0, xk0 8 0, xk0 9 0, xk0 10 0, xk0 11 0]
def w_18_c134 : xC := xcl 0 5 12 xd0 [xk0 0 0, xk0 1 0, xk0 2 0, xk0 3 0, xk0 4 0, xk0 5 0, xk0 6 0, xk0 7 0, xk0 8 0, xk0 9 0, xk0 10 0, xk0 11 0]
def w_18_c135 : xC := xcl 0 5 12 xd0 [xk0 0 0, xk0 1 0, xk0 2 0, xk0 3 0, xk0 4 0, xk0 5 0, xk0 6 0, xk0 7 0, xk0 8 0, xk0 9 0, xk0 10 0, xk0 11 0]
def w_18_c136 : xC := xcl 0 5 12 xd0 [xk0 0 0, xk0 1 0, xk0 2 0, xk0 3 0, xk0 4 0, xk0 5 0, xk0 6 0, xk0 7 0, xk0 8 0, xk0 9 0, xk0 10 0, xk0 11 0]
def w_18_c137 : xC := xcl 0 0 20 xd0 [xkr 0 138, xkr 1 139, xkr 2 140, xkr 3 141, xkr 4 142, xkr 5 143, xkr 6 144, xkr 7 145, xk0 8 0, xk0 9 0, xk0 10 0, xk0 11 0, xk0 12 0, xkm 13 0, xkm 14 0, xk0 15 0, xkm 16 0, xkm 17 0, xkm 18 0, xk0 19 0]
def w_18_c138 : xC := xcl 5 5 6 xdn [xkr 0 148, xkr 1 149, xkr 2 150, xkr 3 151, xkr 4 152, xkr 5 153]
def w_18_c139 : xC := xcl 1 0 8 xd0 []
def w_18_c140 : xC := xcl 1 0 8 xd0 []
def w_18_c141 : xC := xcl 1 0 7 xd0 []
def w_18_c142 : xC := xcl 1 0 7 xd0 []
def w_18_c143 : xC := xcl 1 0 7 xd0 []
def w_18_c144 : xC := xcl 1 0 32 xd0 []
def w_18_c145 : xC := xcl 0 1 5 xd0 [xk0 0 0, xk0 1 0, xk0 2 0, xkr 3 146, xkr 4 147]
def w_18_c146 : xC := xcl 1 0 32 xd0 []
def w_18_c147 : xC := xcl 1 0 4000 xd0 []
def w_18_c148 : xC := xcl 0 5 12 xd0 [xk0 0 0, xk0 1 0, xk0 2 0, xk0 3 0, xk0 4 0, xk0 5 0, xk0 6 0, xk0 7 0, xk0 8 0, xk0 9 0, xk0 10 0, xk0 11 0]
def w_18_c149 : xC := xcl 0 5 12 xd0 [xk0 0 0, xk0 1 0, xk0 2 0, xk0 3 0, xk0 4 0, xk0 5 0, xk0 6 0, xk0 7 0, xk0 8 0, xk0 9 0, xk0 10 0, xk0 11 0]
def w_18_c150 : xC := xcl 0 5 12 xd0 [xk0 0 0, xk0 1 0, xk0 2 0, xk0 3 0, xk0 4 0, xk0 5 0, xk0 6 0, xk0 7 0, xk0 8 0, xk0 9 0, xk0 10 0, xk0 11 0]
def w_18_c151 : xC := xcl 0 5 12 xd0 [xk0 0 0, xk0 1 0, xk0 2 0, xk0 3 0, xk0 4 0, xk0 5 0, xk0 6 0, xk0 7 0, xk0 8 0, xk0 9 0, xk0 10 0, xk0 11 0]
def w_18_c152 : xC := xcl 0 5 12 xd0 [xk0 0 0, xk0 1 0, xk0 2 0, xk0 3 0, xk0 4 0, xk0 5 0, xk0 6 0, xk0 7 0, xk0 8 0, xk0 9 0, xk0 10 0, xk0 11 0]
def w_18_c153 : xC := xcl 0 5 12 xd0 [xk0 0 0, xk0 1 0, xk0 2 0, xk0 3 0, xk0 4 0, xk0 5 0, xk0 6 0, xk0 7 0, xk0 8 0, xk0 9 0, xk0 10 0, xk0 11 0]
def w_18_c154 : xC := xcl 0 10 21 xd0 [xk0 0 0, xk0 1 0, xkm 2 0, xk0 3 0, xk0 4 0, xk0 5 0, xk0 6 0, xk0 7 0, xk0 8 0, xk0 9 0, xk0 10 0, xkm 11 0, xk0 12 0, xk0 13 0, xk0 14 0, xk0 15 0, xkr 16 155, xkr 17 156, xkr 18 157, xkr 19 158, xkr 20 159]
def w_18_c155 : xC := xcl 1 0 20 xd0 []
def w_18_c156 : xC := xcl 1 0 20 xd0 []
def w_18_c157 : xC := xcl 1 0 600 xd0 []
def w_18_c158 : xC := xcl 1 0 600 xd0 []
def w_18_c159 : xC := xcl 1 0 600 xd0 []
def w_18_c160 : xC := xcl 0 10 21 xd0 [xk0 0 1, xk0 1 0, xkm 2 0, xk0 3 0, xk0 4 0, xk0 5 0, xk0 6 0, xk0 7 0, xk0 8 0, xk0 9 0, xk0 10 0, xkm 11 0, xk0 12 0, xk0 13 0, xk0 14 0, xk0 15 0, xkr 16 161, xkr 17 162, xkr 18 163, xkr 19 164, xkr 20 165]
def w_18_c161 : xC := xcl 1 0 20 xd0 []
def w_18_c162 : xC := xcl 1 0 20 xd0 []
def w_18_c163 : xC := xcl 1 0 600 xd0 []
def w_18_c164 : xC := xcl 1 0 600 xd0 []
def w_18_c165 : xC := xcl 1 0 600 xd0 []
def w_18_c166 : xC := xcl 0 10 21 xd0 [xk0 0 2, xk0 1 0, xkm 2 0, xk0 3 0, xk0 4 0, xk0 5 0, xk0 6 0, xk0 7 0, xk0 8 0, xk0 9 0, xk0 10 0, xkm 11 0, xk0 12 0, xk0 13 0, xk0 14 0, xk0 15 0, xkr 16 167, xkr 17 168, xkr 18 169, xkr 19 170, xkr 20 171]
def w_18_c167 : xC := xcl 1 0 20 xd0 []
def w_18_c168 : xC := xcl 1 0 20 xd0 []
def w_18_c169 : xC := xcl 1 0 600 xd0 []
def w_18_c170 : xC := xcl 1 0 600 xd0 []
def w_18_c171 : xC := xcl 1 0 600 xd0 []
def w_18_c172 : xC := xcl 0 10 21 xd0 [xk0 0 3, xk0 1 0, xkm 2 0, xk0 3 0, xk0 4 0, xk0 5 0, xk0 6 0, xk0 7 0, xk0 8 0, xk0 9 0, xk0 10 0, xkm 11 0, xk0 12 0, xk0 13 0, xk0 14 0, xk0 15 0, xkr 16 173, xkr 17 174, xkr 18 175, xkr 19 176, xkr 20 177]
def w_18_c173 : xC := xcl 1 0 20 xd0 []
def w_18_c174 : xC := xcl 1 0 20 xd0 []
def w_18_c175 : xC := xcl 1 0 600 xd0 []
def w_18_c176 : xC := xcl 1 0 600 xd0 []
def w_18_c177 : xC := xcl 1 0 600 xd0 []
def w_18_c178 : xC := xcl 0 10 21 xd0 [xk0 0 4, xk0 1 0, xkm 2 0, xk0 3 0, xk0 4 0, xk0 5 0, xk0 6 0, xk0 7 0, xk0 8 0, xk0 9 0, xk0 10 0, xkm 11 0, xk0 12 0, xk0 13 0, xk0 14 0, xk0 15 0, xkr 16 179, xkr 17 180, xkr 18 181, xkr 19 182, xkr 20 183]
def w_18_c179 : xC := xcl 1 0 20 xd0 []
def w_18_c180 : xC := xcl 1 0 20 xd0 []
def w_18_c181 : xC := xcl 1 0 600 xd0 []
def w_18_c182 : xC := xcl 1 0 600 xd0 []
def w_18_c183 : xC := xcl 1 0 600 xd0 []
def w_18_c184 : xC := xcl 0 10 21 xd0 [xk0 0 5, xk0 1 0, xkm 2 0, xk0 3 0, xk0 4 0, xk0 5 0, xk0 6 0, xk0 7 0, xk0 8 0, xk0 9 0, xk0 10 0, xkm 11 0, xk0 12 0, xk0 13 0, xk0 14 0, xk0 15 0, xkr 16 185, xkr 17 186, xkr 18 187, xkr 19 188, xkr 20 189]
def w_18_c185 : xC := xcl 1 0 20 xd0 []
def w_18_c186 : xC := xcl 1 0 20 xd0 []
def w_18_c187 : xC := xcl 1 0 600 xd0 []
def w_18_c188 : xC := xcl 1 0 600 xd0 []
def w_18_c189 : xC := xcl 1 0 600 xd0 []
def w_18_c190 : xC := xcl 0 10 21 xd0 [xk0 0 6, xk0 1 0, xkm 2 0, xk0 3 0, xk0 4 0, xk0 5 0, xk0 6 0, xk0 7 0, xk0 8 0, xk0 9 0, xk0 10 0, xkm 11 0, xk0 12 0, xk0 13 0, xk0 14 0, xk0 15 0, xkr 16 191, xkr 17 192, xkr 18 193, xkr 19 194, xkr 20 195]
def w_18_c191 : xC := xcl 1 0 20 xd0 []
def w_18_c192 : xC := xcl 1 0 20 xd0 []
def w_18_c193 : xC := xcl 1 0 600 xd0 []
def w_18_c194 : xC := xcl 1 0 600 xd0 []
def w_18_c195 : xC := xcl 1 0 600 xd0 []
def w_18_c196 : xC := xcl 0 10 21 xd0 [xk0 0 7, xk0 1 0, xkm 2 0, xk0 3 0, xk0 4 0, xk0 5 0, xk0 6 0, xk0 7 0, xk0 8 0, xk0 9 0, xk0 10 0, xkm 11 0, xk0 12 0, xk0 13 0, xk0 14 0, xk0 15 0, xkr 16 197, xkr 17 198, xkr 18 199, xkr 19 200, xkr 20 201]
def w_18_c197 : xC := xcl 1 0 20 xd0 []
def w_18_c198 : xC := xcl 1 0 20 xd0 []
def w_18_c199 : xC := xcl 1 0 600 xd0 []
def w_18_c200 : xC := xcl 1 0 600 xd0 []
def w_18_c201 : xC := xcl 1 0 600 xd0 []
def w_18_c202 : xC := xcl 0 10 21 xd0 [xk0 0 8, xk0 1 0, xkm 2 0, xk0 3 0, xk0 4 0, xk0 5 0, xk0 6 0, xk0 7 0, xk0 8 0, xk0 9 0, xk0 10 0, xkm 11 0, xk0 12 0, xk0 13 0, xk0 14 0, xk0 15 0, xkr 16 203, xkr 17 204, xkr 18 205, xkr 19 206, xkr 20 207]
def w_18_c203 : xC := xcl 1 0 20 xd0 []
def w_18_c204 : xC := xcl 1 0 20 xd0 []
def w_18_c205 : xC := xcl 1 0 600 xd0 []
def w_18_c206 : xC := xcl 1 0 600 xd0 []
def w_18_c207 : xC := xcl 1 0 600 xd0 []
def w_18_c208 : xC := xcl 0 10 21 xd0 [xk0 0 9, xk0 1 0, xkm 2 0, xk0 3 0, xk0 4 0, xk0 5 0, xk0 6 0, xk0 7 0, xk0 8 0, xk0 9 0, xk0 10 0, xkm 11 0, xk0 12 0, xk0 13 0, xk0 14 0, xk0 15 0, xkr 16 209, xkr 17 210, xkr 18 211, xkr 19 212, xkr 20 213]
def w_18_c209 : xC := xcl 1 0 20 xd0 []
def w_18_c210 : xC := xcl 1 0 20 xd0 []
def w_18_c211 : xC := xcl 1 0 600 xd0 []
def w_18_c212 : xC := xcl 1 0 600 xd0 []
def w_18_c213 : xC := xcl 1 0 600 xd0 []
def w_18_c214 : xC := xcl 0 10 21 xd0 [xk0 0 10, xk0 1 0, xkm 2 0, xk0 3 0, xk0 4 0, xk0 5 0, xk0 6 0, xk0 7 0, xk0 8 0, xk0 9 0, xk0 10 0, xkm 11 0, xk0 12 0, xk0 13 0, xk0 14 0, xk0 15 0, xkr 16 215, xkr 17 216, xkr 18 217, xkr 19 218, xkr 20 219]
def w_18_c215 : xC := xcl 1 0 20 xd0 []
def w_18_c216 : xC := xcl 1 0 20 xd0 []
def w_18_c217 : xC := xcl 1 0 600 xd0 []
def w_18_c218 : xC := xcl 1 0 600 xd0 []
def w_18_c219 : xC := xcl 1 0 600 xd0 []
def w_18_c220 : xC := xcl 0 10 21 xd0 [xk0 0 11, xk0 1 0, xkm 2 0, xk0 3 0, xk0 4 0, xk0 5 0, xk0 6 0, xk0 7 0, xk0 8 0, xk0 9 0, xk0 10 0, xkm 11 0, xk0 12 0, xk0 13 0, xk0 14 0, xk0 15 0, xkr 16 221, xkr 17 222, xkr 18 223, xkr 19 224, xkr 20 225]
def w_18_c221 : xC := xcl 1 0 20 xd0 []
def w_18_c222 : xC := xcl 1 0 20 xd0 []
def w_18_c223 : xC := xcl 1 0 600 xd0 []
def w_18_c224 : xC := xcl 1 0 600 xd0 []
def w_18_c225 : xC := xcl 1 0 600 xd0 []
def w_18_c226 : xC := xcl 0 10 21 xd0 [xk0 0 12, xk0 1 0, xkm 2 0, xk0 3 0, xk0 4 0, xk0 5 0, xk0 6 0, xk0 7 0, xk0 8 0, xk0 9 0, xk0 10 0, xkm 11 0, xk0 12 0, xk0 13 0, xk0 14 0, xk0 15 0, xkr 16 227, xkr 17 228, xkr 18 229, xkr 19 230, xkr 20 231]
def w_18_c227 : xC := xcl 1 0 20 xd0 []
def w_18_c228 : xC := xcl 1 0 20 xd0 []
def w_18_c229 : xC := xcl 1 0 600 xd0 []
def w_18_c230 : xC := xcl 1 0 600 xd0 []
def w_18_c231 : xC := xcl 1 0 600 xd0 []
def w_18_c232 : xC := xcl 0 10 21 xd0 [xk0 0 13, xk0 1 0, xkm 2 0, xk0 3 0, xk0 4 0, xk0 5 0, xk0 6 0, xk0 7 0, xk0 8 0, xk0 9 0, xk0 10 0, xkm 11 0, xk0 12 0, xk0 13 0, xk0 14 0, xk0 15 0, xkr 16 233, xkr 17 234, xkr 18 235, xkr 19 236, xkr 20 237]
def w_18_c233 : xC := xcl 1 0 20 xd0 []
def w_18_c234 : xC := xcl 1 0 20 xd0 []
def w_18_c235 : xC := xcl 1 0 600 xd0 []
def w_18_c236 : xC := xcl 1 0 600 xd0 []
def w_18_c237 : xC := xcl 1 0 600 xd0 []
def w_18_c238 : xC := xcl 0 10 21 xd0 [xk0 0 14, xk0 1 0, xkm 2 0, xk0 3 0, xk0 4 0, xk0 5 0, xk0 6 0, xk0 7 0, xk0 8 0, xk0 9 0, xk0 10 0, xkm 11 0, xk0 12 0, xk0 13 0, xk0 14 0, xk0 15 0, xkr 16 239, xkr 17 240, xkr 18 241, xkr 19 242, xkr 20 243]
def w_18_c239 : xC := xcl 1 0 20 xd0 []
def w_18_c240 : xC := xcl 1 0 20 xd0 []
def w_18_c241 : xC := xcl 1 0 600 xd0 []
def w_18_c242 : xC := xcl 1 0 600 xd0 []
def w_18_c243 : xC := xcl 1 0 600 xd0 []
def w_18_c244 : xC := xcl 0 10 21 xd0 [xk0 0 15, xk0 1 0, xkm 2 0, xk0 3 0, xk0 4 0, xk0 5 0, xk0 6 0, xk0 7 0, xk0 8 0, xk0 9 0, xk0 10 0, xkm 11 0, xk0 12 0, xk0 13 0, xk0 14 0, xk0 15 0, xkr 16 245, xkr 17 246, xkr 18 247, xkr 19 248, xkr 20 249]
def w_18_c245 : xC := xcl 1 0 20 xd0 []
def w_18_c246 : xC := xcl 1 0 20 xd0 []
def w_18_c247 : xC := xcl 1 0 600 xd0 []
def w_18_c248 : xC := xcl 1 0 600 xd0 []
def w_18_c249 : xC := xcl 1 0 600 xd0 []
def w_18_c250 : xC := xcl 0 9 17 xd0 [xk0 0 0, xk0 1 0, xkr 2 251, xkr 3 252, xkr 4 253, xkr 5 254, xkr 6 255, xkr 7 256, xkr 8 257, xkr 9 258, xkr 10 259, xkr 11 260, xkr 12 261, xk0 13 0, xk0 14 0, xk0 15 0, xk0 16 0]
def w_18_c251 : xC := xcl 1 0 16 xd0 []
def w_18_c252 : xC := xcl 1 0 16 xd0 []
def w_18_c253 : xC := xcl 1 0 16 xd0 []
def w_18_c254 : xC := xcl 1 0 16 xd0 []
def w_18_c255 : xC := xcl 1 0 16 xd0 []
def w_18_c256 : xC := xcl 1 0 8 xd0 []
def w_18_c257 : xC := xcl 1 0 8 xd0 []
def w_18_c258 : xC := xcl 1 0 8 xd0 []
def w_18_c259 : xC := xcl 1 0 8 xd0 []
def w_18_c260 : xC := xcl 1 0 8 xd0 []
def w_18_c261 : xC := xcl 1 0 8 xd0 []
def w_18_c262 : xC := xcl 0 6 13 xd0 [xk0 0 0, xk0 1 0, xk0 2 0, xk0 3 0, xkr 4 263, xkr 5 264, xkr 6 265, xkr 7 266, xkr 8 267, xkr 9 268, xkr 10 269, xkr 11 270, xkr 12 271]
def w_18_c263 : xC := xcl 1 0 6 xd0 []
def w_18_c264 : xC := xcl 1 0 6 xd0 []
def w_18_c265 : xC := xcl 1 0 6 xd0 []
def w_18_c266 : xC := xcl 1 0 6 xd0 []
def w_18_c267 : xC := xcl 1 0 1000 xd0 []
def w_18_c268 : xC := xcl 1 0 1000 xd0 []
def w_18_c269 : xC := xcl 2 0 60000 xd0 []
def w_18_c270 : xC := xcl 1 0 60 xd0 []
def w_18_c271 : xC := xcl 1 0 60 xd0 []
def w_18_c272 : xC := xcl 1 0 6 xd0 []
def w_18_c273 : xC := xcl 1 0 8000 xd0 []
def w_18_c274 : xC := xcl 1 0 4 xd0 []
def w_18_c275 : xC := xcl 0 12 119 xd0 [xkr 0 276, xkr 1 277, xkr 2 278, xk0 3 0, xkr 4 279, xk0 5 0, xk0 6 0, xkr 7 280, xkr 8 281, xk0 9 0, xk0 10 0, xkr 11 282, xkr 12 283, xkr 13 284, xkr 14 285, xkr 15 286, xkr 16 287, xkr 17 288, xkr 18 289, xkr 19 290, xkr 20 291, xkr 21 292, xkr 22 293, xk0 23 0, xkr 24 294, xkr 25 295, xkr 26 296, xkr 27 297, xkr 28 298, xkr 29 299, xk0 30 0, xkr 31 300, xkr 32 301, xkr 33 302, xkr 34 303, xkr 35 304, xkr 36 305, xkr 37 306, xkr 38 307, xkr 39 308, xk0 40 0, xkr 41 309, xk0 42 0, xkr 43 310, xkr 44 311, xkr 45 312, xkr 46 313, xkr 47 314, xkr 48 315, xk0 49 0, xkr 50 316, xkr 51 317, xkr 52 318, xkr 53 319, xkr 54 320, xkr 55 321, xkr 56 322, xkr 57 323, xk0 58 0, xk0 59 0, xk0 60 0, xkr 61 324, xkr 62 325, xkr 63 326, xkr 64 327, xkr 65 328, xkr 66 329, xkr 67 330, xkr 68 331, xkr 69 332, xkr 70 333, xkr 71 334, xkr 72 335, xkr 73 336, xkr 74 337, xkr 75 338, xkr 76 339, xkr 77 340, xk0 78 0, xk0 79 0, xk0 80 0, xk0 81 0, xk0 82 0, xk0 83 0, xk0 84 0, xk0 85 0, xk0 86 0, xk0 87 0, xk0 88 0, xk0 89 0, xkr 90 341, xkr 91 342, xkr 92 343, xkr 93 344, xk0 94 0, xk0 95 0, xk0 96 0, xk0 97 0, xk0 98 0, xk0 99 0, xk0 100 0, xkr 101 345, xk0 102 0, xkr 103 346, xkr 104 347, xkr 105 348, xkr 106 349, xkr 107 350, xkr 108 351, xkr 109 352, xk0 110 0, xk0 111 0, xk0 112 0, xkr 113 353, xkr 114 354, xkr 115 355, xkr 116 356, xk0 117 0, xk0 118 0]
def w_18_c276 : xC := xcl 1 0 33060 xd0 [xkm 17 0, xkm 18 0, xkm 19 0, xkm 25 0, xkm 53 0, xkm 54 0, xkm 55 0, xkm 61 0, xkm 89 0, xkm 90 0, xkm 91 0, xkm 97 0, xkm 125 0, xkm 126 0, xkm 127 0, xkm 133 0, xkm 417 0, xkm 1677 0, xkm 2937 0, xkm 4197 0, xkm 5457 0, xkm 6717 0, xkm 7977 0, xkm 9237 0, xkm 10497 0, xkm 11757 0, xkm 13017 0, xkm 14277 0, xkm 15537 0, xkm 16797 0, xkm 18057 0, xkm 19317 0, xkm 20868 0, xk0 20836 1, xk0 20837 1, xkm 20869 0, xk0 20840 1, xk0 20841 1, xkm 20870 0, xk0 20844 1, xk0 20845 1, xkm 20871 0, xk0 20848 1, xk0 20849 1, xkm 20872 0, xk0 20852 1, xk0 20853 1, xkm 20873 0, xk0 20856 1, xk0 20857 1, xkm 20874 0, xk0 20860 1, xk0 20861 1, xkm 20875 0, xk0 20864 1, xk0 20865 1]
def w_18_c277 : xC := xcl 1 0 33060 xd0 []
def w_18_c278 : xC := xcl 1 0 661200 xd0 []
def w_18_c279 : xC := xcl 1 0 8000 xd0 []
def w_18_c280 : xC := xcl 1 0 4 xd0 []
def w_18_c281 : xC := xcl 2 0 4000 xd0 []
def w_18_c282 : xC := xcl 1 0 4 xd0 []
def w_18_c283 : xC := xcl 1 0 4 xd0 []
def w_18_c284 : xC := xcl 1 0 4 xd0 []
def w_18_c285 : xC := xcl 1 0 4 xd0 []
def w_18_c286 : xC := xcl 1 0 4 xd0 []
def w_18_c287 : xC := xcl 1 0 24 xd0 []
def w_18_c288 : xC := xcl 1 0 24 xd0 []
def w_18_c289 : xC := xcl 1 0 24 xd0 []
def w_18_c290 : xC := xcl 1 0 24 xd0 []
def w_18_c291 : xC := xcl 1 0 24 xd0 []
def w_18_c292 : xC := xcl 1 0 24 xd0 []
def w_18_c293 : xC := xcl 1 0 24 xd0 []
def w_18_c294 : xC := xcl 3 0 16 xd0 []
def w_18_c295 : xC := xcl 1 0 16 xd0 []
def w_18_c296 : xC := xcl 1 0 16 xd0 []
def w_18_c297 : xC := xcl 1 0 16 xd0 []
def w_18_c298 : xC := xcl 1 0 16 xd0 []
def w_18_c299 : xC := xcl 3 0 448 xd0 []
def w_18_c300 : xC := xcl 1 0 4 xd0 []
def w_18_c301 : xC := xcl 1 0 4 xd0 []
def w_18_c302 : xC := xcl 1 0 4 xd0 []
def w_18_c303 : xC := xcl 1 0 4 xd0 []
def w_18_c304 : xC := xcl 1 0 4 xd0 []
def w_18_c305 : xC := xcl 1 0 4 xd0 []
def w_18_c306 : xC := xcl 1 0 4 xd0 [xkm 0 0, xkm 1 0, xkm 2 0, xkm 3 0]
def w_18_c307 : xC := xcl 1 0 4 xd0 []
def w_18_c308 : xC := xcl 1 0 4 xd0 []
def w_18_c309 : xC := xcl 1 0 32 xd0 []
def w_18_c310 : xC := xcl 1 0 8 xd0 []
def w_18_c311 : xC := xcl 1 0 8 xd0 []
def w_18_c312 : xC := xcl 1 0 8 xd0 []
def w_18_c313 : xC := xcl 1 0 8 xd0 []
def w_18_c314 : xC := xcl 1 0 8 xd0 []
def w_18_c315 : xC := xcl 1 0 8 xd0 []
def w_18_c316 : xC := xcl 1 0 8 xd0 []
def w_18_c317 : xC := xcl 3 0 8 xd0 []
def w_18_c318 : xC := xcl 1 0 64 xd0 [xkm 0 0, xkm 1 0, xkm 2 0, xkm 3 0, xkm 4 0, xkm 5 0, xkm 6 0, xkm 7 0, xkm 8 0, xkm 9 0, xkm 10 0, xkm 11 0, xkm 12 0, xkm 13 0, xkm 14 0, xkm 15 0, xkm 16 0, xkm 17 0, xkm 18 0, xkm 19 0, xkm 20 0, xkm 21 0, xkm 22 0, xkm 23 0, xkm 24 0, xkm 25 0, xkm 26 0, xkm 27 0, xkm 28 0, xkm 29 0, xkm 30 0, xkm 31 0, xkm 32 0, xkm 33 0, xkm 34 0, xkm 35 0, xkm 36 0, xkm 37 0, xkm 38 0, xkm 39 0, xkm 40 0, xkm 41 0, xkm 42 0, xkm 43 0, xkm 44 0, xkm 45 0, xkm 46 0, xkm 47 0, xkm 48 0, xkm 49 0, xkm 50 0, xkm 51 0, xkm 52 0, xkm 53 0, xkm 54 0, xkm 55 0, xkm 56 0, xkm 57 0, xkm 58 0, xkm 59 0, xkm 60 0, xkm 61 0, xkm 62 0, xkm 63 0]
def w_18_c319 : xC := xcl 3 0 64 xd0 []
def w_18_c320 : xC := xcl 1 0 1025 (0, (-2147483648), 2147483647) []
def w_18_c321 : xC := xcl 1 0 35 xd0 []
def w_18_c322 : xC := xcl 1 0 35 xd0 []
def w_18_c323 : xC := xcl 1 0 6 xd0 []
def w_18_c324 : xC := xcl 1 0 4 xd0 []
def w_18_c325 : xC := xcl 1 0 4 xd0 []
def w_18_c326 : xC := xcl 1 0 65 xd0 []
def w_18_c327 : xC := xcl 3 0 64 xd0 []
def w_18_c328 : xC := xcl 1 0 50000 xd0 []
def w_18_c329 : xC := xcl 1 0 50000 xd0 []
def w_18_c330 : xC := xcl 1 0 50000 xd0 []
def w_18_c331 : xC := xcl 1 0 4500 xd0 []
def w_18_c332 : xC := xcl 1 0 4500 xd0 []
def w_18_c333 : xC := xcl 1 0 4500 xd0 []
def w_18_c334 : xC := xcl 1 0 4500 xd0 []
def w_18_c335 : xC := xcl 1 0 4500 xd0 []
def w_18_c336 : xC := xcl 1 0 4500 xd0 []
def w_18_c337 : xC := xcl 1 0 160 xd0 []
def w_18_c338 : xC := xcl 1 0 5 xd0 []
def w_18_c339 : xC := xcl 1 0 5 xd0 []
def w_18_c340 : xC := xcl 3 0 5 xd0 []
def w_18_c341 : xC := xcl 1 0 4100 xd0 []
def w_18_c342 : xC := xcl 1 0 4100 xd0 []
def w_18_c343 : xC := xcl 1 0 4100 xd0 []
def w_18_c344 : xC := xcl 1 0 4100 xd0 []
def w_18_c345 : xC := xcl 1 0 4200 xd0 []
def w_18_c346 : xC := xcl 1 0 24 xd0 []
def w_18_c347 : xC := xcl 1 0 6 xd0 []
def w_18_c348 : xC := xcl 1 0 6 xd0 []
def w_18_c349 : xC := xcl 1 0 1000 xd0 []
def w_18_c350 : xC := xcl 1 0 1000 xd0 []
def w_18_c351 : xC := xcl 1 0 1000 xd0 []
def w_18_c352 : xC := xcl 1 0 6000 xd0 []
def w_18_c353 : xC := xcl 1 0 1000 xd0 []
def w_18_c354 : xC := xcl 1 0 200000 xd0 []
def w_18_c355 : xC := xcl 1 0 2000 xd0 []
def w_18_c356 : xC := xcl 1 0 2000 xd0 []
def w_18 : List xC := [w_18_c0, w_18_c1, w_18_c2, w_18_c3, w_18_c4, w_18_c5, w_18_c6, w_18_c7, w_18_c8, w_18_c9, w_18_c10, w_18_c11, w_18_c12, w_18_c13, w_18_c14, w_18_c15, w_18_c16, w_18_c17, w_18_c18, w_18_c19, w_18_c20, w_18_c21, w_18_c22, w_18_c23, w_18_c24, w_18_c25, w_18_c26, w_18_c27, w_18_c28, w_18_c29, w_18_c30, w_18_c31, w_18_c32, w_18_c33, w_18_c34, w_18_c35, w_18_c36, w_18_c37, w_18_c38, w_18_c39, w_18_c40, w_18_c41, w_18_c42, w_18_c43, w_18_c44, w_18_c45, w_18_c46, w_18_c47, w_18_c48, w_18_c49, w_18_c50, w_18_c51, w_18_c52, w_18_c53, w_18_c54, w_18_c55, w_18_c56, w_18_c57, w_18_c58, w_18_c59, w_18_c60, w_18_c61, w_18_c62, w_18_c63, w_18_c64, w_18_c65, w_18_c66, w_18_c67, w_18_c68, w_18_c69, w_18_c70, w_18_c71, w_18_c72, w_18_c73, w_18_c74, w_18_c75, w_18_c76, w_18_c77, w_18_c78, w_18_c79, w_18_c80, w_18_c81, w_18_c82, w_18_c83, w_18_c84, w_18_c85, w_18_c86, w_18_c87, w_18_c88, w_18_c89, w_18_c90, w_18_c91, w_18_c92, w_18_c93, w_18_c94, w_18_c95, w_18_c96, w_18_c97, w_18_c98, w_18_c99, w_18_c100, w_18_c101, w_18_c102, w_18_c103, w_18_c104, w_18_c105, w_18_c106, w_18_c107, w_18_c108, w_18_c109, w_18_c110, w_18_c111, w_18_c112, w_18_c113, w_18_c114, w_18_c115, w_18_c116, w_18_c117, w_18_c118, w_18_c119, w_18_c120, w_18_c121, w_18_c122, w_18_c123, w_18_c124, w_18_c125, w_18_c126, w_18_c127, w_18_c128, w_18_c129, w_18_c130, w_18_c131, w_18_c132, w_18_c133, w_18_c134, w_18_c135, w_18_c136, w_18_c137, w_18_c138, w_18_c139, w_18_c140, w_18_c141, w_18_c142, w_18_c143, w_18_c144, w_18_c145, w_18_c146, w_18_c147, w_18_c148, w_18_c149, w_18_c150, w_18_c151, w_18_c152, w_18_c153, w_18_c154, w_18_c155, w_18_c156, w_18_c157, w_18_c158, w_18_c159, w_18_c160, w_18_c161, w_18_c162, w_18_c163, w_18_c164, w_18_c165, w_18_c166, w_18_c167, w_18_c168, w_18_c169, w_18_c170, w_18_c171, w_18_c172, w_18_c173, w_18_c174, w_18_c175, w_18_c176, w_18_c177, w_18_c178, w_18_c179, w_18_c180, w_18_c181, w_18_c182, w_18_c183, w_18_c184, w_18_c185, w_18_c186, w_18_c187, w_18_c188, w_18_c189, w_18_c190, w_18_c191, w_18_c192, w_18_c193, w_18_c194, w_18_c195, w_18_c196, w_18_c197, w_18_c198, w_18_c199, w_18_c200, w_18_c201, w_18_c202, w_18_c203, w_18_c204, w_18_c205, w_18_c206, w_18_c207, w_18_c208, w_18_c209, w_18_c210, w_18_c211, w_18_c212, w_18_c213, w_18_c214, w_18_c215, w_18_c216, w_18_c217, w_18_c218, w_18_c219, w_18_c220, w_18_c221, w_18_c222, w_18_c223, w_18_c224, w_18_c225, w_18_c226, w_18_c227, w_18_c228, w_18_c229, w_18_c230, w_18_c231, w_18_c232, w_18_c233, w_18_c234, w_18_c235, w_18_c236, w_18_c237, w_18_c238, w_18_c239, w_18_c240, w_18_c241, w_18_c242, w_18_c243, w_18_c244, w_18_c245, w_18_c246, w_18_c247, w_18_c248, w_18_c249, w_18_c250, w_18_c251, w_18_c252, w_18_c253, w_18_c254, w_18_c255, w_18_c256, w_18_c257, w_18_c258, w_18_c259, w_18_c260, w_18_c261, w_18_c262, w_18_c263, w_18_c264, w_18_c265, w_18_c266, w_18_c267, w_18_c268, w_18_c269, w_18_c270, w_18_c271, w_18_c272, w_18_c273, w_18_c274, w_18_c275, w_18_c276, w_18_c277, w_18_c278, w_18_c279, w_18_c280, w_18_c281, w_18_c282, w_18_c283, w_18_c284, w_18_c285, w_18_c286, w_18_c287, w_18_c288, w_18_c289, w_18_c290, w_18_c291, w_18_c292, w_18_c293, w_18_c294, w_18_c295, w_18_c296, w_18_c297, w_18_c298, w_18_c299, w_18_c300, w_18_c301, w_18_c302, w_18_c303, w_18_c304, w_18_c305, w_18_c306, w_18_c307, w_18_c308, w_18_c309, w_18_c310, w_18_c311, w_18_c312, w_18_c313, w_18_c314, w_18_c315, w_18_c316, w_18_c317, w_18_c318, w_18_c319, w_18_c320, w_18_c321, w_18_c322, w_18_c323, w_18_c324, w_18_c325, w_18_c326, w_18_c327, w_18_c328, w_18_c329, w_18_c330, w_18_c331, w_18_c332, w_18_c333, w_18_c334, w_18_c335, w_18_c336, w_18_c337, w_18_c338, w_18_c339, w_18_c340, w_18_c341, w_18_c342, w_18_c343, w_18_c344, w_18_c345, w_18_c346, w_18_c347, w_18_c348, w_18_c349, w_18_c350, w_18_c351, w_18_c352, w_18_c353, w_18_c354, w_18_c355, w_18_c356]
def s_18 : xS := (18, [(0, (10, 0, 0)), (1, (1, 0, 0)), (2, (1, 275, 0)), (3, (0, 0, 0))], [], w_18, [((-2147483648), 2147483647), ((-2147483648), 2147483647), ((-2147483648), 2147483647), ((-2147483648), 2147483647), ((-2147483648), 2147483647), ((-2147483648), 2147483647), ((-1099511627776), 1099511627776), ((-1099511627776), 1099511627776), ((-1099511627776), 1099511627776), ((-1099511627776), 1099511627776), ((-1099511627776), 1099511627776), ((-1099511627776), 1099511627776), ((-1099511627776), 1099511627776), ((-1099511627776), 1099511627776), ((-1099511627776), 1099511627776), (0, 6), ((-6), 0), ((-1099511627776), 1099511627776), ((-1099511627776), 1099511627776), ((-1099511627776), 1099511627776), ((-1099511627776), 1099511627776), ((-1099511627776), 1099511627776), ((-1099511627776), 1099511627776), ((-1099511627776), 1099511627776), ((-1099511627776), 1099511627776), ((-1099511627776), 1099511627776), ((-1099511627776), 1099511627776), ((-1099511627776), 1099511627776), ((-1099511627776), 1099511627776), ((-1099511627776), 1099511627776), ((-1099511627776), 1099511627776), ((-1099511627776), 1099511627776)], 357, 1288246)
/-- every way ends at a picture of us -/
def x_ends (rs : Option (List xS)) (us : List xS) : Bool := match rs with
  | some l => l.all (fun t => us.any (fun u => x_le 100 (99999, 99999) t u))
  | none => false
end
end
