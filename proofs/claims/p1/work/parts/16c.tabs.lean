def dl_26 : List (Nat × Instr × Nat) := [(0, .aload_n 0, 1), (1, .invokespecial 3, 3), (4, .aload_n 0, 1), (5, .bipush 20, 2), (7, .newarray .int, 2), (9, .putfield 11, 3), (12, .aload_n 0, 1), (13, .bipush 20, 2), (15, .newarray .int, 2), (17, .putfield 15, 3), (20, .aload_n 0, 1), (21, .sipush 600, 3), (24, .newarray .int, 2), (26, .putfield 18, 3), (29, .aload_n 0, 1), (30, .sipush 600, 3), (33, .newarray .int, 2), (35, .putfield 21, 3), (38, .aload_n 0, 1), (39, .sipush 600, 3), (42, .newarray .int, 2), (44, .putfield 24, 3), (47, .aload_n 0, 1), (48, .iload_n 1, 1), (49, .putfield 27, 3), (52, .return_, 1)]
set_option maxRecDepth 20000 in
theorem dl_26_ok : dl_26.all (fun q => decide (decode prog_12_method_1_code q.1 = .ok (q.2.1, q.2.2))) = true := by decide +kernel
def tb_26_0 : Nat → xE := (x_T 24 (x_T 9 (x_T 4 (x_T 0 (x_L 0 (0, xi_load 0 2 1, 0, 0)) (x_T 1 (x_L 1 (0, xi_oi 4, 0, 0)) (x_L 4 (0, xi_load 0 2 5, 0, 0)))) (x_T 5 (x_L 5 (0, xi_push (0, 20, 20) 7, 0, 0)) (x_T 7 (x_L 7 (0, xi_newa 1 0 (0, 0, 0) (xm_c m_26) (xm_s m_26) 9, 0, 0)) (x_L 9 (0, xi_putf 10 16 2 12, 0, 0))))) (x_T 15 (x_T 12 (x_L 12 (0, xi_load 0 2 13, 0, 0)) (x_T 13 (x_L 13 (0, xi_push (0, 20, 20) 15, 0, 0)) (x_L 15 (0, xi_newa 1 0 (0, 0, 0) (xm_c m_26) (xm_s m_26) 17, 0, 0)))) (x_T 20 (x_T 17 (x_L 17 (0, xi_putf 10 17 2 20, 0, 0)) (x_L 20 (0, xi_load 0 2 21, 0, 0))) (x_T 21 (x_L 21 (0, xi_push (0, 600, 600) 24, 0, 0)) (x_L 24 (0, xi_newa 1 0 (0, 0, 0) (xm_c m_26) (xm_s m_26) 26, 0, 0)))))) (x_T 38 (x_T 30 (x_T 26 (x_L 26 (0, xi_putf 10 18 2 29, 0, 0)) (x_T 29 (x_L 29 (0, xi_load 0 2 30, 0, 0)) (x_L 30 (0, xi_push (0, 600, 600) 33, 0, 0)))) (x_T 33 (x_L 33 (0, xi_newa 1 0 (0, 0, 0) (xm_c m_26) (xm_s m_26) 35, 0, 0)) (x_T 35 (x_L 35 (0, xi_putf 10 19 2 38, 0, 0)) (x_L 38 (0, xi_load 0 2 39, 0, 0))))) (x_T 44 (x_T 39 (x_L 39 (0, xi_push (0, 600, 600) 42, 0, 0)) (x_T 42 (x_L 42 (0, xi_newa 1 0 (0, 0, 0) (xm_c m_26) (xm_s m_26) 44, 0, 0)) (x_L 44 (0, xi_putf 10 20 2 47, 0, 0)))) (x_T 48 (x_T 47 (x_L 47 (0, xi_load 0 2 48, 0, 0)) (x_L 48 (0, xi_load 1 0 49, 0, 0))) (x_T 49 (x_L 49 (0, xi_putf 10 0 0 52, 0, 0)) (x_L 52 (1, x_nof, 0, 0)))))))
set_option maxRecDepth 20000 in
set_option maxHeartbeats 4000000 in
theorem tb_26_0_ok (K : xKx) : ∀ pc, x_EOq cls K xI m_26 pc (tb_26_0 pc) :=
  (x_Tok2
  (x_Tok2
  (x_Tok2
  (x_Tok2
  (x_Lok (x_st (I := xI) (xr_aload_n (i := 0) (x_dk dl_26_ok 0 rfl))))
  (x_Tok2
  (x_Lok (x_st (I := xI) (xr_oi (ix := 3) (in_t3 (List.mem_of_getElem? (i := 8) rfl) rfl) (in_t1 (List.mem_of_getElem? (i := 27) rfl) rfl) (in_t1 (List.mem_of_getElem? (i := 28) rfl) rfl) (x_dk dl_26_ok 1 rfl))))
  (x_Lok (x_st (I := xI) (xr_aload_n (i := 0) (x_dk dl_26_ok 2 rfl))))))
  (x_Tok2
  (x_Lok (x_st (I := xI) (xr_bipush (n := 20) (z := 20) (v := 20) (x_dk dl_26_ok 3 rfl) (by decide) (by decide))))
  (x_Tok2
  (x_Lok (x_st (I := xI) (xr_newa (kd := 1) (b := false) (ty := .int) rfl rfl (in_t1 (List.mem_of_getElem? (i := 64) rfl) rfl) (x_dk dl_26_ok 4 rfl))))
  (x_Lok (x_st (I := xI) (xr_putF (ci := 10) (k := 16) (ix := 11) (N := 21) (fk := 2) (C := RX10) (T := TX10) (ty0 := tyX10) (ty := .array .int) rfl in_X10 tyX10_ok nmX10 (by decide) (in_t3 (List.mem_of_getElem? (i := 40) rfl) rfl) rfl rfl rfl rfl x_fit_arr (x_dk dl_26_ok 5 rfl)))))))
  (x_Tok2
  (x_Tok2
  (x_Lok (x_st (I := xI) (xr_aload_n (i := 0) (x_dk dl_26_ok 6 rfl))))
  (x_Tok2
  (x_Lok (x_st (I := xI) (xr_bipush (n := 20) (z := 20) (v := 20) (x_dk dl_26_ok 7 rfl) (by decide) (by decide))))
  (x_Lok (x_st (I := xI) (xr_newa (kd := 1) (b := false) (ty := .int) rfl rfl (in_t1 (List.mem_of_getElem? (i := 64) rfl) rfl) (x_dk dl_26_ok 8 rfl))))))
  (x_Tok2
  (x_Tok2
  (x_Lok (x_st (I := xI) (xr_putF (ci := 10) (k := 17) (ix := 15) (N := 21) (fk := 2) (C := RX10) (T := TX10) (ty0 := tyX10) (ty := .array .int) rfl in_X10 tyX10_ok nmX10 (by decide) (in_t3 (List.mem_of_getElem? (i := 41) rfl) rfl) rfl rfl rfl rfl x_fit_arr (x_dk dl_26_ok 9 rfl))))
  (x_Lok (x_st (I := xI) (xr_aload_n (i := 0) (x_dk dl_26_ok 10 rfl)))))
  (x_Tok2
  (x_Lok (x_st (I := xI) (xr_sipush (n := 600) (z := 600) (v := 600) (x_dk dl_26_ok 11 rfl) (by decide) (by decide))))
  (x_Lok (x_st (I := xI) (xr_newa (kd := 1) (b := false) (ty := .int) rfl rfl (in_t1 (List.mem_of_getElem? (i := 64) rfl) rfl) (x_dk dl_26_ok 12 rfl))))))))
  (x_Tok2
  (x_Tok2
  (x_Tok2
  (x_Lok (x_st (I := xI) (xr_putF (ci := 10) (k := 18) (ix := 18) (N := 21) (fk := 2) (C := RX10) (T := TX10) (ty0 := tyX10) (ty := .array .int) rfl in_X10 tyX10_ok nmX10 (by decide) (in_t3 (List.mem_of_getElem? (i := 42) rfl) rfl) rfl rfl rfl rfl x_fit_arr (x_dk dl_26_ok 13 rfl))))
  (x_Tok2
  (x_Lok (x_st (I := xI) (xr_aload_n (i := 0) (x_dk dl_26_ok 14 rfl))))
  (x_Lok (x_st (I := xI) (xr_sipush (n := 600) (z := 600) (v := 600) (x_dk dl_26_ok 15 rfl) (by decide) (by decide))))))
  (x_Tok2
  (x_Lok (x_st (I := xI) (xr_newa (kd := 1) (b := false) (ty := .int) rfl rfl (in_t1 (List.mem_of_getElem? (i := 64) rfl) rfl) (x_dk dl_26_ok 16 rfl))))
  (x_Tok2
  (x_Lok (x_st (I := xI) (xr_putF (ci := 10) (k := 19) (ix := 21) (N := 21) (fk := 2) (C := RX10) (T := TX10) (ty0 := tyX10) (ty := .array .int) rfl in_X10 tyX10_ok nmX10 (by decide) (in_t3 (List.mem_of_getElem? (i := 43) rfl) rfl) rfl rfl rfl rfl x_fit_arr (x_dk dl_26_ok 17 rfl))))
  (x_Lok (x_st (I := xI) (xr_aload_n (i := 0) (x_dk dl_26_ok 18 rfl)))))))
  (x_Tok2
  (x_Tok2
  (x_Lok (x_st (I := xI) (xr_sipush (n := 600) (z := 600) (v := 600) (x_dk dl_26_ok 19 rfl) (by decide) (by decide))))
  (x_Tok2
  (x_Lok (x_st (I := xI) (xr_newa (kd := 1) (b := false) (ty := .int) rfl rfl (in_t1 (List.mem_of_getElem? (i := 64) rfl) rfl) (x_dk dl_26_ok 20 rfl))))
  (x_Lok (x_st (I := xI) (xr_putF (ci := 10) (k := 20) (ix := 24) (N := 21) (fk := 2) (C := RX10) (T := TX10) (ty0 := tyX10) (ty := .array .int) rfl in_X10 tyX10_ok nmX10 (by decide) (in_t3 (List.mem_of_getElem? (i := 44) rfl) rfl) rfl rfl rfl rfl x_fit_arr (x_dk dl_26_ok 21 rfl))))))
  (x_Tok2
  (x_Tok2
  (x_Lok (x_st (I := xI) (xr_aload_n (i := 0) (x_dk dl_26_ok 22 rfl))))
  (x_Lok (x_st (I := xI) (xr_iload_n (i := 1) (x_dk dl_26_ok 23 rfl)))))
  (x_Tok2
  (x_Lok (x_st (I := xI) (xr_putF (ci := 10) (k := 0) (ix := 27) (N := 21) (fk := 0) (C := RX10) (T := TX10) (ty0 := tyX10) (ty := .int) rfl in_X10 tyX10_ok nmX10 (by decide) (in_t3 (List.mem_of_getElem? (i := 9) rfl) rfl) rfl rfl rfl rfl x_fit_int (x_dk dl_26_ok 24 rfl))))
  (x_Lok (x_rt (I := xI) (k := 0) ⟨(x_dk dl_26_ok 25 rfl), rfl⟩)))))))
def tb_26 : Nat → xE := tb_26_0
theorem tb_26_ok (K : xKx) : ∀ pc, x_EOq cls K xI m_26 pc (tb_26 pc) := tb_26_0_ok K
def dl_27 : List (Nat × Instr × Nat) := [(0, .aload_n 0, 1), (1, .iconst (-1), 1), (2, .iconst 0, 1), (3, .iconst 0, 1), (4, .invokevirtual 31, 3), (7, .aload_n 0, 1), (8, .iconst 0, 1), (9, .putfield 35, 3), (12, .aload_n 0, 1), (13, .iconst 0, 1), (14, .putfield 38, 3), (17, .return_, 1)]
set_option maxRecDepth 20000 in
theorem dl_27_ok : dl_27.all (fun q => decide (decode prog_12_method_2_code q.1 = .ok (q.2.1, q.2.2))) = true := by decide +kernel
def tb_27_0 : Nat → xE := (x_T 7 (x_T 2 (x_T 0 (x_L 0 (0, xi_load 0 2 1, 0, 0)) (x_T 1 (x_L 1 (0, xi_push (0, (-1), (-1)) 2, 0, 0)) (x_L 2 (0, xi_push (0, 0, 0) 3, 0, 0)))) (x_T 3 (x_L 3 (0, xi_push (0, 0, 0) 4, 0, 0)) (x_T 4 (x_L 4 (2, x_nof, 28, 4)) (x_L 7 (0, xi_load 0 2 8, 0, 0))))) (x_T 12 (x_T 8 (x_L 8 (0, xi_push (0, 0, 0) 9, 0, 0)) (x_T 9 (x_L 9 (0, xi_putf 10 1 0 12, 0, 0)) (x_L 12 (0, xi_load 0 2 13, 0, 0)))) (x_T 13 (x_L 13 (0, xi_push (0, 0, 0) 14, 0, 0)) (x_T 14 (x_L 14 (0, xi_putf 10 4 0 17, 0, 0)) (x_L 17 (1, x_nof, 0, 0))))))
set_option maxRecDepth 20000 in
set_option maxHeartbeats 4000000 in
theorem tb_27_0_ok (K : xKx) : ∀ pc, x_EOq cls K xI m_27 pc (tb_27_0 pc) :=
  (x_Tok2
  (x_Tok2
  (x_Tok2
  (x_Lok (x_st (I := xI) (xr_aload_n (i := 0) (x_dk dl_27_ok 0 rfl))))
  (x_Tok2
  (x_Lok (x_st (I := xI) (xr_iconst (n := (-1)) (z := (-1)) (v := (-1)) (x_dk dl_27_ok 1 rfl) (by decide) (by decide))))
  (x_Lok (x_st (I := xI) (xr_iconst (n := 0) (z := 0) (v := 0) (x_dk dl_27_ok 2 rfl) (by decide) (by decide))))))
  (x_Tok2
  (x_Lok (x_st (I := xI) (xr_iconst (n := 0) (z := 0) (v := 0) (x_dk dl_27_ok 3 rfl) (by decide) (by decide))))
  (x_Tok2
  (x_Lok (x_ca (I := xI) (q' := m_28) rfl (xr_callV (q' := m_28) (ix := 31) (n := 3) (in_t4 (List.mem_of_getElem? (i := 102) rfl) rfl) good_w (in_t1 (List.mem_of_getElem? (i := 10) rfl) rfl) (in_t4 (List.mem_of_getElem? (i := 99) rfl) rfl) (in_t4 (List.mem_of_getElem? (i := 100) rfl) rfl) (in_t4 (List.mem_of_getElem? (i := 101) rfl) rfl) (by decide +kernel) (by decide +kernel) (by decide +kernel) (x_dk dl_27_ok 4 rfl))))
  (x_Lok (x_st (I := xI) (xr_aload_n (i := 0) (x_dk dl_27_ok 5 rfl)))))))
  (x_Tok2
  (x_Tok2
  (x_Lok (x_st (I := xI) (xr_iconst (n := 0) (z := 0) (v := 0) (x_dk dl_27_ok 6 rfl) (by decide) (by decide))))
  (x_Tok2
  (x_Lok (x_st (I := xI) (xr_putf (ci := 10) (k := 1) (ix := 35) (N := 21) (fk := 0) (C := RX10) (T := TX10) (ty0 := tyX10) (ty := .int) rfl in_X10 tyX10_ok nmX10 (by decide) (in_t3 (List.mem_of_getElem? (i := 11) rfl) rfl) rfl rfl x_fit_int (x_dk dl_27_ok 7 rfl))))
  (x_Lok (x_st (I := xI) (xr_aload_n (i := 0) (x_dk dl_27_ok 8 rfl))))))
  (x_Tok2
  (x_Lok (x_st (I := xI) (xr_iconst (n := 0) (z := 0) (v := 0) (x_dk dl_27_ok 9 rfl) (by decide) (by decide))))
  (x_Tok2
  (x_Lok (x_st (I := xI) (xr_putf (ci := 10) (k := 4) (ix := 38) (N := 21) (fk := 0) (C := RX10) (T := TX10) (ty0 := tyX10) (ty := .int) rfl in_X10 tyX10_ok nmX10 (by decide) (in_t3 (List.mem_of_getElem? (i := 19) rfl) rfl) rfl rfl x_fit_int (x_dk dl_27_ok 10 rfl))))
  (x_Lok (x_rt (I := xI) (k := 0) ⟨(x_dk dl_27_ok 11 rfl), rfl⟩))))))
def tb_27 : Nat → xE := tb_27_0
theorem tb_27_ok (K : xKx) : ∀ pc, x_EOq cls K xI m_27 pc (tb_27 pc) := tb_27_0_ok K
def dl_28 : List (Nat × Instr × Nat) := [(0, .aload_n 0, 1), (1, .iconst 1, 1), (2, .putfield 35, 3), (5, .aload_n 0, 1), (6, .iload_n 1, 1), (7, .putfield 41, 3), (10, .aload_n 0, 1), (11, .iload_n 3, 1), (12, .putfield 44, 3), (15, .aload_n 0, 1), (16, .iconst 0, 1), (17, .putfield 47, 3), (20, .aload_n 0, 1), (21, .iconst 0, 1), (22, .putfield 50, 3), (25, .aload_n 0, 1), (26, .iconst 0, 1), (27, .putfield 53, 3), (30, .aload_n 0, 1), (31, .iconst (-1), 1), (32, .putfield 57, 3), (35, .aload_n 0, 1), (36, .iconst 0, 1), (37, .putfield 60, 3), (40, .aload_n 0, 1), (41, .iconst 0, 1), (42, .putfield 38, 3), (45, .aload_n 0, 1), (46, .iconst 0, 1), (47, .putfield 63, 3), (50, .aload_n 0, 1), (51, .iload_n 2, 1), (52, .invokevirtual 66, 3), (55, .pop, 1), (56, .return_, 1)]
set_option maxRecDepth 20000 in
theorem dl_28_ok : dl_28.all (fun q => decide (decode prog_12_method_3_code q.1 = .ok (q.2.1, q.2.2))) = true := by decide +kernel
def tb_28_0 : Nat → xE := (x_T 26 (x_T 11 (x_T 5 (x_T 1 (x_T 0 (x_L 0 (0, xi_load 0 2 1, 0, 0)) (x_L 1 (0, xi_push (0, 1, 1) 2, 0, 0))) (x_T 2 (x_L 2 (0, xi_putf 10 1 0 5, 0, 0)) (x_L 5 (0, xi_load 0 2 6, 0, 0)))) (x_T 7 (x_T 6 (x_L 6 (0, xi_load 1 0 7, 0, 0)) (x_L 7 (0, xi_putf 10 2 0 10, 0, 0))) (x_T 10 (x_L 10 (0, xi_load 0 2 11, 0, 0)) (x_L 11 (0, xi_load 3 0 12, 0, 0))))) (x_T 17 (x_T 15 (x_T 12 (x_L 12 (0, xi_putf 10 7 0 15, 0, 0)) (x_L 15 (0, xi_load 0 2 16, 0, 0))) (x_T 16 (x_L 16 (0, xi_push (0, 0, 0) 17, 0, 0)) (x_L 17 (0, xi_putf 10 5 0 20, 0, 0)))) (x_T 21 (x_T 20 (x_L 20 (0, xi_load 0 2 21, 0, 0)) (x_L 21 (0, xi_push (0, 0, 0) 22, 0, 0))) (x_T 22 (x_L 22 (0, xi_putf 10 6 0 25, 0, 0)) (x_T 25 (x_L 25 (0, xi_load 0 2 26, 0, 0)) (x_L 26 (0, xi_push (0, 0, 0) 27, 0, 0))))))) (x_T 41 (x_T 32 (x_T 30 (x_T 27 (x_L 27 (0, xi_putf 10 10 1 30, 0, 0)) (x_L 30 (0, xi_load 0 2 31, 0, 0))) (x_T 31 (x_L 31 (0, xi_push (0, (-1), (-1)) 32, 0, 0)) (x_L 32 (0, xi_putf 10 11 0 35, 0, 0)))) (x_T 36 (x_T 35 (x_L 35 (0, xi_load 0 2 36, 0, 0)) (x_L 36 (0, xi_push (0, 0, 0) 37, 0, 0))) (x_T 37 (x_L 37 (0, xi_putf 10 14 0 40, 0, 0)) (x_T 40 (x_L 40 (0, xi_load 0 2 41, 0, 0)) (x_L 41 (0, xi_push (0, 0, 0) 42, 0, 0)))))) (x_T 47 (x_T 45 (x_T 42 (x_L 42 (0, xi_putf 10 4 0 45, 0, 0)) (x_L 45 (0, xi_load 0 2 46, 0, 0))) (x_T 46 (x_L 46 (0, xi_push (0, 0, 0) 47, 0, 0)) (x_L 47 (0, xi_putf 10 15 0 50, 0, 0)))) (x_T 51 (x_T 50 (x_L 50 (0, xi_load 0 2 51, 0, 0)) (x_L 51 (0, xi_load 2 0 52, 0, 0))) (x_T 52 (x_L 52 (2, x_nof, 29, 2)) (x_T 55 (x_L 55 (0, xi_stk xf_pop 56, 0, 0)) (x_L 56 (1, x_nof, 0, 0))))))))
set_option maxRecDepth 20000 in
set_option maxHeartbeats 4000000 in
theorem tb_28_0_ok (K : xKx) : ∀ pc, x_EOq cls K xI m_28 pc (tb_28_0 pc) :=
  (x_Tok2
  (x_Tok2
  (x_Tok2
  (x_Tok2
  (x_Tok2
  (x_Lok (x_st (I := xI) (xr_aload_n (i := 0) (x_dk dl_28_ok 0 rfl))))
  (x_Lok (x_st (I := xI) (xr_iconst (n := 1) (z := 1) (v := 1) (x_dk dl_28_ok 1 rfl) (by decide) (by decide)))))
  (x_Tok2
  (x_Lok (x_st (I := xI) (xr_putf (ci := 10) (k := 1) (ix := 35) (N := 21) (fk := 0) (C := RX10) (T := TX10) (ty0 := tyX10) (ty := .int) rfl in_X10 tyX10_ok nmX10 (by decide) (in_t3 (List.mem_of_getElem? (i := 11) rfl) rfl) rfl rfl x_fit_int (x_dk dl_28_ok 2 rfl))))
  (x_Lok (x_st (I := xI) (xr_aload_n (i := 0) (x_dk dl_28_ok 3 rfl))))))
  (x_Tok2
  (x_Tok2
  (x_Lok (x_st (I := xI) (xr_iload_n (i := 1) (x_dk dl_28_ok 4 rfl))))
  (x_Lok (x_st (I := xI) (xr_putf (ci := 10) (k := 2) (ix := 41) (N := 21) (fk := 0) (C := RX10) (T := TX10) (ty0 := tyX10) (ty := .int) rfl in_X10 tyX10_ok nmX10 (by decide) (in_t3 (List.mem_of_getElem? (i := 14) rfl) rfl) rfl rfl x_fit_int (x_dk dl_28_ok 5 rfl)))))
  (x_Tok2
  (x_Lok (x_st (I := xI) (xr_aload_n (i := 0) (x_dk dl_28_ok 6 rfl))))
  (x_Lok (x_st (I := xI) (xr_iload_n (i := 3) (x_dk dl_28_ok 7 rfl)))))))
  (x_Tok2
  (x_Tok2
  (x_Tok2
  (x_Lok (x_st (I := xI) (xr_putf (ci := 10) (k := 7) (ix := 44) (N := 21) (fk := 0) (C := RX10) (T := TX10) (ty0 := tyX10) (ty := .int) rfl in_X10 tyX10_ok nmX10 (by decide) (in_t3 (List.mem_of_getElem? (i := 27) rfl) rfl) rfl rfl x_fit_int (x_dk dl_28_ok 8 rfl))))
  (x_Lok (x_st (I := xI) (xr_aload_n (i := 0) (x_dk dl_28_ok 9 rfl)))))
  (x_Tok2
  (x_Lok (x_st (I := xI) (xr_iconst (n := 0) (z := 0) (v := 0) (x_dk dl_28_ok 10 rfl) (by decide) (by decide))))
  (x_Lok (x_st (I := xI) (xr_putf (ci := 10) (k := 5) (ix := 47) (N := 21) (fk := 0) (C := RX10) (T := TX10) (ty0 := tyX10) (ty := .int) rfl in_X10 tyX10_ok nmX10 (by decide) (in_t3 (List.mem_of_getElem? (i := 22) rfl) rfl) rfl rfl x_fit_int (x_dk dl_28_ok 11 rfl))))))
  (x_Tok2
  (x_Tok2
  (x_Lok (x_st (I := xI) (xr_aload_n (i := 0) (x_dk dl_28_ok 12 rfl))))
  (x_Lok (x_st (I := xI) (xr_iconst (n := 0) (z := 0) (v := 0) (x_dk dl_28_ok 13 rfl) (by decide) (by decide)))))
  (x_Tok2
  (x_Lok (x_st (I := xI) (xr_putf (ci := 10) (k := 6) (ix := 50) (N := 21) (fk := 0) (C := RX10) (T := TX10) (ty0 := tyX10) (ty := .int) rfl in_X10 tyX10_ok nmX10 (by decide) (in_t3 (List.mem_of_getElem? (i := 25) rfl) rfl) rfl rfl x_fit_int (x_dk dl_28_ok 14 rfl))))
  (x_Tok2
  (x_Lok (x_st (I := xI) (xr_aload_n (i := 0) (x_dk dl_28_ok 15 rfl))))
  (x_Lok (x_st (I := xI) (xr_iconst (n := 0) (z := 0) (v := 0) (x_dk dl_28_ok 16 rfl) (by decide) (by decide)))))))))
  (x_Tok2
  (x_Tok2
  (x_Tok2
  (x_Tok2
  (x_Lok (x_st (I := xI) (xr_putf (ci := 10) (k := 10) (ix := 53) (N := 21) (fk := 1) (C := RX10) (T := TX10) (ty0 := tyX10) (ty := .boolean) rfl in_X10 tyX10_ok nmX10 (by decide) (in_t3 (List.mem_of_getElem? (i := 31) rfl) rfl) rfl rfl x_fit_bool (x_dk dl_28_ok 17 rfl))))
  (x_Lok (x_st (I := xI) (xr_aload_n (i := 0) (x_dk dl_28_ok 18 rfl)))))
  (x_Tok2
  (x_Lok (x_st (I := xI) (xr_iconst (n := (-1)) (z := (-1)) (v := (-1)) (x_dk dl_28_ok 19 rfl) (by decide) (by decide))))
  (x_Lok (x_st (I := xI) (xr_putf (ci := 10) (k := 11) (ix := 57) (N := 21) (fk := 0) (C := RX10) (T := TX10) (ty0 := tyX10) (ty := .int) rfl in_X10 tyX10_ok nmX10 (by decide) (in_t3 (List.mem_of_getElem? (i := 33) rfl) rfl) rfl rfl x_fit_int (x_dk dl_28_ok 20 rfl))))))
  (x_Tok2
  (x_Tok2
  (x_Lok (x_st (I := xI) (xr_aload_n (i := 0) (x_dk dl_28_ok 21 rfl))))
  (x_Lok (x_st (I := xI) (xr_iconst (n := 0) (z := 0) (v := 0) (x_dk dl_28_ok 22 rfl) (by decide) (by decide)))))
  (x_Tok2
  (x_Lok (x_st (I := xI) (xr_putf (ci := 10) (k := 14) (ix := 60) (N := 21) (fk := 0) (C := RX10) (T := TX10) (ty0 := tyX10) (ty := .int) rfl in_X10 tyX10_ok nmX10 (by decide) (in_t3 (List.mem_of_getElem? (i := 37) rfl) rfl) rfl rfl x_fit_int (x_dk dl_28_ok 23 rfl))))
  (x_Tok2
  (x_Lok (x_st (I := xI) (xr_aload_n (i := 0) (x_dk dl_28_ok 24 rfl))))
  (x_Lok (x_st (I := xI) (xr_iconst (n := 0) (z := 0) (v := 0) (x_dk dl_28_ok 25 rfl) (by decide) (by decide))))))))
  (x_Tok2
  (x_Tok2
  (x_Tok2
  (x_Lok (x_st (I := xI) (xr_putf (ci := 10) (k := 4) (ix := 38) (N := 21) (fk := 0) (C := RX10) (T := TX10) (ty0 := tyX10) (ty := .int) rfl in_X10 tyX10_ok nmX10 (by decide) (in_t3 (List.mem_of_getElem? (i := 19) rfl) rfl) rfl rfl x_fit_int (x_dk dl_28_ok 26 rfl))))
  (x_Lok (x_st (I := xI) (xr_aload_n (i := 0) (x_dk dl_28_ok 27 rfl)))))
  (x_Tok2
  (x_Lok (x_st (I := xI) (xr_iconst (n := 0) (z := 0) (v := 0) (x_dk dl_28_ok 28 rfl) (by decide) (by decide))))
  (x_Lok (x_st (I := xI) (xr_putf (ci := 10) (k := 15) (ix := 63) (N := 21) (fk := 0) (C := RX10) (T := TX10) (ty0 := tyX10) (ty := .int) rfl in_X10 tyX10_ok nmX10 (by decide) (in_t3 (List.mem_of_getElem? (i := 39) rfl) rfl) rfl rfl x_fit_int (x_dk dl_28_ok 29 rfl))))))
  (x_Tok2
  (x_Tok2
  (x_Lok (x_st (I := xI) (xr_aload_n (i := 0) (x_dk dl_28_ok 30 rfl))))
  (x_Lok (x_st (I := xI) (xr_iload_n (i := 2) (x_dk dl_28_ok 31 rfl)))))
  (x_Tok2
  (x_Lok (x_ca (I := xI) (q' := m_29) rfl (xr_callV (q' := m_29) (ix := 66) (n := 1) (in_t4 (List.mem_of_getElem? (i := 106) rfl) rfl) good_w (in_t1 (List.mem_of_getElem? (i := 10) rfl) rfl) (in_t4 (List.mem_of_getElem? (i := 103) rfl) rfl) (in_t4 (List.mem_of_getElem? (i := 104) rfl) rfl) (in_t4 (List.mem_of_getElem? (i := 105) rfl) rfl) (by decide +kernel) (by decide +kernel) (by decide +kernel) (x_dk dl_28_ok 32 rfl))))
  (x_Tok2
  (x_Lok (x_st (I := xI) (xr_pop (x_dk dl_28_ok 33 rfl))))
  (x_Lok (x_rt (I := xI) (k := 0) ⟨(x_dk dl_28_ok 34 rfl), rfl⟩))))))))
def tb_28 : Nat → xE := tb_28_0
theorem tb_28_ok (K : xKx) : ∀ pc, x_EOq cls K xI m_28 pc (tb_28 pc) := tb_28_0_ok K
def dl_29 : List (Nat × Instr × Nat) := [(0, .aload_n 0, 1), (1, .getfield 38, 3), (4, .bipush 20, 2), (6, .if_icmp .lt 5, 3), (11, .aload_n 0, 1), (12, .getfield 11, 3), (15, .aload_n 0, 1), (16, .getfield 38, 3), (19, .aload_n 0, 1), (20, .getfield 70, 3), (23, .iastore, 1), (24, .aload_n 0, 1), (25, .getfield 15, 3), (28, .aload_n 0, 1), (29, .getfield 38, 3), (32, .aload_n 0, 1), (33, .getfield 63, 3), (36, .iastore, 1), (37, .aload_n 0, 1), (38, .dup, 1), (39, .getfield 38, 3), (42, .iconst 1, 1), (43, .iadd, 1), (44, .putfield 38, 3), (47, .aload_n 0, 1), (48, .iload_n 1, 1), (49, .putfield 70, 3), (52, .iconst 1, 1), (53, .ireturn, 1)]
set_option maxRecDepth 20000 in
theorem dl_29_ok : dl_29.all (fun q => decide (decode prog_12_method_5_code q.1 = .ok (q.2.1, q.2.2))) = true := by decide +kernel
def tb_29_0 : Nat → xE := (x_T 28 (x_T 15 (x_T 4 (x_T 0 (x_L 0 (0, xi_load 0 2 1, 0, 0)) (x_T 1 (x_L 1 (0, xi_getf 10 4 4, 0, 0)) (x_L 4 (0, xi_push (0, 20, 20) 6, 0, 0)))) (x_T 11 (x_T 6 (x_L 6 (0, xi_if2 2 11 9, 0, 0)) (x_L 11 (0, xi_load 0 2 12, 0, 0))) (x_T 12 (x_L 12 (0, xi_getf 10 16 15, 0, 0)) (x_L 15 (0, xi_load 0 2 16, 0, 0))))) (x_T 20 (x_T 16 (x_L 16 (0, xi_getf 10 4 19, 0, 0)) (x_T 19 (x_L 19 (0, xi_load 0 2 20, 0, 0)) (x_L 20 (0, xi_getf 10 3 23, 0, 0)))) (x_T 24 (x_T 23 (x_L 23 (0, xi_ast false 24, 0, 0)) (x_L 24 (0, xi_load 0 2 25, 0, 0))) (x_T 25 (x_L 25 (0, xi_getf 10 17 28, 0, 0)) (x_L 28 (0, xi_load 0 2 29, 0, 0)))))) (x_T 39 (x_T 33 (x_T 29 (x_L 29 (0, xi_getf 10 4 32, 0, 0)) (x_T 32 (x_L 32 (0, xi_load 0 2 33, 0, 0)) (x_L 33 (0, xi_getf 10 15 36, 0, 0)))) (x_T 37 (x_T 36 (x_L 36 (0, xi_ast false 37, 0, 0)) (x_L 37 (0, xi_load 0 2 38, 0, 0))) (x_T 38 (x_L 38 (0, xi_stk xf_dup 39, 0, 0)) (x_L 39 (0, xi_getf 10 4 42, 0, 0))))) (x_T 47 (x_T 43 (x_T 42 (x_L 42 (0, xi_push (0, 1, 1) 43, 0, 0)) (x_L 43 (0, xi_bin xF_add 44, 0, 0))) (x_T 44 (x_L 44 (0, xi_putf 10 4 0 47, 0, 0)) (x_L 47 (0, xi_load 0 2 48, 0, 0)))) (x_T 49 (x_T 48 (x_L 48 (0, xi_load 1 0 49, 0, 0)) (x_L 49 (0, xi_putf 10 3 0 52, 0, 0))) (x_T 52 (x_L 52 (0, xi_push (0, 1, 1) 53, 0, 0)) (x_L 53 (1, x_nof, 4, 0)))))))
set_option maxRecDepth 20000 in
set_option maxHeartbeats 4000000 in
theorem tb_29_0_ok (K : xKx) : ∀ pc, x_EOq cls K xI m_29 pc (tb_29_0 pc) :=
  (x_Tok2
  (x_Tok2
  (x_Tok2
  (x_Tok2
  (x_Lok (x_st (I := xI) (xr_aload_n (i := 0) (x_dk dl_29_ok 0 rfl))))
  (x_Tok2
  (x_Lok (x_st (I := xI) (xr_getf (ci := 10) (k := 4) (ix := 38) (N := 21) (C := RX10) (T := TX10) rfl in_X10 (by decide) (in_t3 (List.mem_of_getElem? (i := 19) rfl) rfl) (x_dk dl_29_ok 1 rfl))))
  (x_Lok (x_st (I := xI) (xr_bipush (n := 20) (z := 20) (v := 20) (x_dk dl_29_ok 2 rfl) (by decide) (by decide))))))
  (x_Tok2
  (x_Tok2
  (x_Lok (x_st (I := xI) (xr_icmplt (off := 5) (tg := 11) (x_dk dl_29_ok 3 rfl) (by decide))))
  (x_Lok (x_st (I := xI) (xr_aload_n (i := 0) (x_dk dl_29_ok 4 rfl)))))
  (x_Tok2
  (x_Lok (x_st (I := xI) (xr_getf (ci := 10) (k := 16) (ix := 11) (N := 21) (C := RX10) (T := TX10) rfl in_X10 (by decide) (in_t3 (List.mem_of_getElem? (i := 40) rfl) rfl) (x_dk dl_29_ok 5 rfl))))
  (x_Lok (x_st (I := xI) (xr_aload_n (i := 0) (x_dk dl_29_ok 6 rfl)))))))
  (x_Tok2
  (x_Tok2
  (x_Lok (x_st (I := xI) (xr_getf (ci := 10) (k := 4) (ix := 38) (N := 21) (C := RX10) (T := TX10) rfl in_X10 (by decide) (in_t3 (List.mem_of_getElem? (i := 19) rfl) rfl) (x_dk dl_29_ok 7 rfl))))
  (x_Tok2
  (x_Lok (x_st (I := xI) (xr_aload_n (i := 0) (x_dk dl_29_ok 8 rfl))))
  (x_Lok (x_st (I := xI) (xr_getf (ci := 10) (k := 3) (ix := 70) (N := 21) (C := RX10) (T := TX10) rfl in_X10 (by decide) (in_t3 (List.mem_of_getElem? (i := 17) rfl) rfl) (x_dk dl_29_ok 9 rfl))))))
  (x_Tok2
  (x_Tok2
  (x_Lok (x_st (I := xI) (xr_iastore (x_dk dl_29_ok 10 rfl))))
  (x_Lok (x_st (I := xI) (xr_aload_n (i := 0) (x_dk dl_29_ok 11 rfl)))))
  (x_Tok2
  (x_Lok (x_st (I := xI) (xr_getf (ci := 10) (k := 17) (ix := 15) (N := 21) (C := RX10) (T := TX10) rfl in_X10 (by decide) (in_t3 (List.mem_of_getElem? (i := 41) rfl) rfl) (x_dk dl_29_ok 12 rfl))))
  (x_Lok (x_st (I := xI) (xr_aload_n (i := 0) (x_dk dl_29_ok 13 rfl))))))))
  (x_Tok2
  (x_Tok2
  (x_Tok2
  (x_Lok (x_st (I := xI) (xr_getf (ci := 10) (k := 4) (ix := 38) (N := 21) (C := RX10) (T := TX10) rfl in_X10 (by decide) (in_t3 (List.mem_of_getElem? (i := 19) rfl) rfl) (x_dk dl_29_ok 14 rfl))))
  (x_Tok2
  (x_Lok (x_st (I := xI) (xr_aload_n (i := 0) (x_dk dl_29_ok 15 rfl))))
  (x_Lok (x_st (I := xI) (xr_getf (ci := 10) (k := 15) (ix := 63) (N := 21) (C := RX10) (T := TX10) rfl in_X10 (by decide) (in_t3 (List.mem_of_getElem? (i := 39) rfl) rfl) (x_dk dl_29_ok 16 rfl))))))
  (x_Tok2
  (x_Tok2
  (x_Lok (x_st (I := xI) (xr_iastore (x_dk dl_29_ok 17 rfl))))
  (x_Lok (x_st (I := xI) (xr_aload_n (i := 0) (x_dk dl_29_ok 18 rfl)))))
  (x_Tok2
  (x_Lok (x_st (I := xI) (xr_dup (x_dk dl_29_ok 19 rfl))))
  (x_Lok (x_st (I := xI) (xr_getf (ci := 10) (k := 4) (ix := 38) (N := 21) (C := RX10) (T := TX10) rfl in_X10 (by decide) (in_t3 (List.mem_of_getElem? (i := 19) rfl) rfl) (x_dk dl_29_ok 20 rfl)))))))
  (x_Tok2
  (x_Tok2
  (x_Tok2
  (x_Lok (x_st (I := xI) (xr_iconst (n := 1) (z := 1) (v := 1) (x_dk dl_29_ok 21 rfl) (by decide) (by decide))))
  (x_Lok (x_st (I := xI) (xr_iadd (x_dk dl_29_ok 22 rfl)))))
  (x_Tok2
  (x_Lok (x_st (I := xI) (xr_putf (ci := 10) (k := 4) (ix := 38) (N := 21) (fk := 0) (C := RX10) (T := TX10) (ty0 := tyX10) (ty := .int) rfl in_X10 tyX10_ok nmX10 (by decide) (in_t3 (List.mem_of_getElem? (i := 19) rfl) rfl) rfl rfl x_fit_int (x_dk dl_29_ok 23 rfl))))
  (x_Lok (x_st (I := xI) (xr_aload_n (i := 0) (x_dk dl_29_ok 24 rfl))))))
  (x_Tok2
  (x_Tok2
  (x_Lok (x_st (I := xI) (xr_iload_n (i := 1) (x_dk dl_29_ok 25 rfl))))
  (x_Lok (x_st (I := xI) (xr_putf (ci := 10) (k := 3) (ix := 70) (N := 21) (fk := 0) (C := RX10) (T := TX10) (ty0 := tyX10) (ty := .int) rfl in_X10 tyX10_ok nmX10 (by decide) (in_t3 (List.mem_of_getElem? (i := 17) rfl) rfl) rfl rfl x_fit_int (x_dk dl_29_ok 26 rfl)))))
  (x_Tok2
  (x_Lok (x_st (I := xI) (xr_iconst (n := 1) (z := 1) (v := 1) (x_dk dl_29_ok 27 rfl) (by decide) (by decide))))
  (x_Lok (x_rt (I := xI) (k := 4) ⟨(x_dk dl_29_ok 28 rfl), rfl⟩)))))))
def tb_29 : Nat → xE := tb_29_0
theorem tb_29_ok (K : xKx) : ∀ pc, x_EOq cls K xI m_29 pc (tb_29 pc) := tb_29_0_ok K
def dl_30 : List (Nat × Instr × Nat) := [(0, .aload_n 0, 1), (1, .invokespecial 1, 3), (4, .aload_n 0, 1), (5, .new 7, 3), (8, .dup, 1), (9, .invokespecial 9, 3), (12, .putfield 10, 3), (15, .aload_n 0, 1), (16, .new 16, 3), (19, .dup, 1), (20, .invokespecial 18, 3), (23, .putfield 19, 3), (26, .aload_n 0, 1), (27, .aload_n 0, 1), (28, .getfield 19, 3), (31, .getfield 23, 3), (34, .putfield 27, 3), (37, .aload_n 0, 1), (38, .aload_n 0, 1), (39, .getfield 19, 3), (42, .getfield 28, 3), (45, .putfield 32, 3), (48, .aload_n 0, 1), (49, .aload_n 0, 1), (50, .getfield 19, 3), (53, .getfield 33, 3), (56, .putfield 37, 3), (59, .aload_n 0, 1), (60, .aload_n 0, 1), (61, .getfield 19, 3), (64, .getfield 38, 3), (67, .putfield 42, 3), (70, .aload_n 0, 1), (71, .new 43, 3), (74, .dup, 1), (75, .invokespecial 45, 3), (78, .putfield 46, 3), (81, .aload_n 0, 1), (82, .new 50, 3), (85, .dup, 1), (86, .invokespecial 52, 3), (89, .putfield 53, 3), (92, .aload_n 0, 1), (93, .bipush 6, 2), (95, .newarray .int, 2), (97, .putfield 57, 3), (100, .aload_n 0, 1), (101, .sipush 8000, 3), (104, .newarray .int, 2), (106, .putfield 61, 3), (109, .aload_n 0, 1), (110, .iconst 4, 1), (111, .newarray .int, 2), (113, .putfield 64, 3), (116, .aload_n 0, 1), (117, .iconst 1, 1), (118, .putfield 67, 3), (121, .aload_n 0, 1), (122, .invokevirtual 71, 3), (125, .return_, 1)]
set_option maxRecDepth 20000 in
theorem dl_30_ok : dl_30.all (fun q => decide (decode prog_1_method_1_code q.1 = .ok (q.2.1, q.2.2))) = true := by decide +kernel
def tb_30_0 : Nat → xE := (x_T 28 (x_T 12 (x_T 4 (x_T 0 (x_L 0 (0, xi_load 0 2 1, 0, 0)) (x_T 1 (x_L 1 (0, xi_oi 4, 0, 0)) (x_L 4 (0, xi_load 0 2 5, 0, 0)))) (x_T 8 (x_T 5 (x_L 5 (0, xi_new (x_nc 8 ks_X8) (xm_c m_30) (xm_s m_30) 8, 0, 0)) (x_L 8 (0, xi_stk xf_dup 9, 0, 0))) (x_T 9 (x_L 9 (2, x_nof, 24, 1)) (x_L 12 (0, xi_putf 11 0 2 15, 0, 0))))) (x_T 20 (x_T 16 (x_T 15 (x_L 15 (0, xi_load 0 2 16, 0, 0)) (x_L 16 (0, xi_new (x_nc 3 ks_X3) (xm_c m_30) (xm_s m_30) 19, 0, 0))) (x_T 19 (x_L 19 (0, xi_stk xf_dup 20, 0, 0)) (x_L 20 (2, x_nof, 12, 1)))) (x_T 26 (x_T 23 (x_L 23 (0, xi_putf 11 1 2 26, 0, 0)) (x_L 26 (0, xi_load 0 2 27, 0, 0))) (x_T 27 (x_L 27 (0, xi_load 0 2 28, 0, 0)) (x_L 28 (0, xi_getf 11 1 31, 0, 0)))))) (x_T 45 (x_T 37 (x_T 31 (x_L 31 (0, xi_getf 3 0 34, 0, 0)) (x_T 34 (x_L 34 (0, xi_putf 11 2 2 37, 0, 0)) (x_L 37 (0, xi_load 0 2 38, 0, 0)))) (x_T 39 (x_T 38 (x_L 38 (0, xi_load 0 2 39, 0, 0)) (x_L 39 (0, xi_getf 11 1 42, 0, 0))) (x_T 42 (x_L 42 (0, xi_getf 3 1 45, 0, 0)) (x_L 45 (0, xi_putf 11 3 2 48, 0, 0))))) (x_T 53 (x_T 49 (x_T 48 (x_L 48 (0, xi_load 0 2 49, 0, 0)) (x_L 49 (0, xi_load 0 2 50, 0, 0))) (x_T 50 (x_L 50 (0, xi_getf 11 1 53, 0, 0)) (x_L 53 (0, xi_getf 3 2 56, 0, 0)))) (x_T 59 (x_T 56 (x_L 56 (0, xi_putf 11 4 2 59, 0, 0)) (x_L 59 (0, xi_load 0 2 60, 0, 0))) (x_T 60 (x_L 60 (0, xi_load 0 2 61, 0, 0)) (x_L 61 (0, xi_getf 11 1 64, 0, 0)))))))
set_option maxRecDepth 20000 in
set_option maxHeartbeats 4000000 in
theorem tb_30_0_ok (K : xKx) : ∀ pc, x_EOq cls K xI m_30 pc (tb_30_0 pc) :=
  (x_Tok2
  (x_Tok2
  (x_Tok2
  (x_Tok2
  (x_Lok (x_st (I := xI) (xr_aload_n (i := 0) (x_dk dl_30_ok 0 rfl))))
  (x_Tok2
  (x_Lok (x_st (I := xI) (xr_oi (ix := 1) (in_t1 (List.mem_of_getElem? (i := 26) rfl) rfl) (in_t1 (List.mem_of_getElem? (i := 27) rfl) rfl) (in_t1 (List.mem_of_getElem? (i := 28) rfl) rfl) (x_dk dl_30_ok 1 rfl))))
  (x_Lok (x_st (I := xI) (xr_aload_n (i := 0) (x_dk dl_30_ok 2 rfl))))))
  (x_Tok2
  (x_Tok2
  (x_Lok (x_st (I := xI) (xr_new (ci := 8) (ix := 7) (N := 17) (C := RX8) (T := TX8) (ty0 := tyX8) (ks := ks_X8) rfl in_X8 tyX8_ok (in_t1 (List.mem_of_getElem? (i := 29) rfl) rfl) (in_t1 (List.mem_of_getElem? (i := 30) rfl) rfl) (in_t1 (List.mem_of_getElem? (i := 2) rfl) rfl) rfl df_X8 (x_dk dl_30_ok 3 rfl))))
  (x_Lok (x_st (I := xI) (xr_dup (x_dk dl_30_ok 4 rfl)))))
  (x_Tok2
  (x_Lok (x_ca (I := xI) (q' := m_24) rfl (xr_callIN (q' := m_24) (ix := 9) (n := 0) (host := "RobotCellHouse") (in_t1 (List.mem_of_getElem? (i := 33) rfl) rfl) good_w (in_t1 (List.mem_of_getElem? (i := 2) rfl) rfl) (List.mem_of_getElem? (i := 0) rfl) (in_t1 (List.mem_of_getElem? (i := 32) rfl) rfl) rfl rfl (by decide +kernel) (by decide +kernel) (by decide +kernel) (x_dk dl_30_ok 5 rfl))))
  (x_Lok (x_st (I := xI) (xr_putF (ci := 11) (k := 0) (ix := 10) (N := 15) (fk := 2) (C := RX11) (T := TX11) (ty0 := tyX11) (ty := .object "RobotCellHouse$Reader") rfl in_X11 tyX11_ok nmX11 (by decide) (in_t4 (List.mem_of_getElem? (i := 108) rfl) rfl) rfl rfl rfl rfl x_fit_obj (x_dk dl_30_ok 6 rfl)))))))
  (x_Tok2
  (x_Tok2
  (x_Tok2
  (x_Lok (x_st (I := xI) (xr_aload_n (i := 0) (x_dk dl_30_ok 7 rfl))))
  (x_Lok (x_st (I := xI) (xr_new (ci := 3) (ix := 16) (N := 12) (C := RX3) (T := TX3) (ty0 := tyX3) (ks := ks_X3) rfl in_X3 tyX3_ok (in_t1 (List.mem_of_getElem? (i := 122) rfl) rfl) (in_t1 (List.mem_of_getElem? (i := 123) rfl) rfl) (in_t1 (List.mem_of_getElem? (i := 4) rfl) rfl) rfl df_X3 (x_dk dl_30_ok 8 rfl)))))
  (x_Tok2
  (x_Lok (x_st (I := xI) (xr_dup (x_dk dl_30_ok 9 rfl))))
  (x_Lok (x_ca (I := xI) (q' := m_12) rfl (xr_callI (q' := m_12) (ix := 18) (n := 0) (in_t1 (List.mem_of_getElem? (i := 126) rfl) rfl) good_w (in_t1 (List.mem_of_getElem? (i := 4) rfl) rfl) (in_t1 (List.mem_of_getElem? (i := 124) rfl) rfl) (in_t1 (List.mem_of_getElem? (i := 125) rfl) rfl) rfl rfl (by decide +kernel) (by decide +kernel) (by decide +kernel) (x_dk dl_30_ok 10 rfl))))))
  (x_Tok2
  (x_Tok2
  (x_Lok (x_st (I := xI) (xr_putF (ci := 11) (k := 1) (ix := 19) (N := 15) (fk := 2) (C := RX11) (T := TX11) (ty0 := tyX11) (ty := .object "RobotCellHouse$Doer") rfl in_X11 tyX11_ok nmX11 (by decide) (in_t4 (List.mem_of_getElem? (i := 109) rfl) rfl) rfl rfl rfl rfl x_fit_obj (x_dk dl_30_ok 11 rfl))))
  (x_Lok (x_st (I := xI) (xr_aload_n (i := 0) (x_dk dl_30_ok 12 rfl)))))
  (x_Tok2
  (x_Lok (x_st (I := xI) (xr_aload_n (i := 0) (x_dk dl_30_ok 13 rfl))))
  (x_Lok (x_st (I := xI) (xr_getf (ci := 11) (k := 1) (ix := 19) (N := 15) (C := RX11) (T := TX11) rfl in_X11 (by decide) (in_t4 (List.mem_of_getElem? (i := 109) rfl) rfl) (x_dk dl_30_ok 14 rfl))))))))
  (x_Tok2
  (x_Tok2
  (x_Tok2
  (x_Lok (x_st (I := xI) (xr_getf (ci := 3) (k := 0) (ix := 23) (N := 12) (C := RX3) (T := TX3) rfl in_X3 (by decide) (in_t3 (List.mem_of_getElem? (i := 89) rfl) rfl) (x_dk dl_30_ok 15 rfl))))
  (x_Tok2
  (x_Lok (x_st (I := xI) (xr_putF (ci := 11) (k := 2) (ix := 27) (N := 15) (fk := 2) (C := RX11) (T := TX11) (ty0 := tyX11) (ty := .array (.object "RobotCellHouse$Arm")) rfl in_X11 tyX11_ok nmX11 (by decide) (in_t4 (List.mem_of_getElem? (i := 110) rfl) rfl) rfl rfl rfl rfl x_fit_arr (x_dk dl_30_ok 16 rfl))))
  (x_Lok (x_st (I := xI) (xr_aload_n (i := 0) (x_dk dl_30_ok 17 rfl))))))
  (x_Tok2
  (x_Tok2
  (x_Lok (x_st (I := xI) (xr_aload_n (i := 0) (x_dk dl_30_ok 18 rfl))))
  (x_Lok (x_st (I := xI) (xr_getf (ci := 11) (k := 1) (ix := 19) (N := 15) (C := RX11) (T := TX11) rfl in_X11 (by decide) (in_t4 (List.mem_of_getElem? (i := 109) rfl) rfl) (x_dk dl_30_ok 19 rfl)))))
  (x_Tok2
  (x_Lok (x_st (I := xI) (xr_getf (ci := 3) (k := 1) (ix := 28) (N := 12) (C := RX3) (T := TX3) rfl in_X3 (by decide) (in_t3 (List.mem_of_getElem? (i := 91) rfl) rfl) (x_dk dl_30_ok 20 rfl))))
  (x_Lok (x_st (I := xI) (xr_putF (ci := 11) (k := 3) (ix := 32) (N := 15) (fk := 2) (C := RX11) (T := TX11) (ty0 := tyX11) (ty := .object "RobotCellHouse$Points") rfl in_X11 tyX11_ok nmX11 (by decide) (in_t4 (List.mem_of_getElem? (i := 111) rfl) rfl) rfl rfl rfl rfl x_fit_obj (x_dk dl_30_ok 21 rfl)))))))
  (x_Tok2
  (x_Tok2
  (x_Tok2
  (x_Lok (x_st (I := xI) (xr_aload_n (i := 0) (x_dk dl_30_ok 22 rfl))))
  (x_Lok (x_st (I := xI) (xr_aload_n (i := 0) (x_dk dl_30_ok 23 rfl)))))
  (x_Tok2
  (x_Lok (x_st (I := xI) (xr_getf (ci := 11) (k := 1) (ix := 19) (N := 15) (C := RX11) (T := TX11) rfl in_X11 (by decide) (in_t4 (List.mem_of_getElem? (i := 109) rfl) rfl) (x_dk dl_30_ok 24 rfl))))
  (x_Lok (x_st (I := xI) (xr_getf (ci := 3) (k := 2) (ix := 33) (N := 12) (C := RX3) (T := TX3) rfl in_X3 (by decide) (in_t3 (List.mem_of_getElem? (i := 93) rfl) rfl) (x_dk dl_30_ok 25 rfl))))))
  (x_Tok2
  (x_Tok2
  (x_Lok (x_st (I := xI) (xr_putF (ci := 11) (k := 4) (ix := 37) (N := 15) (fk := 2) (C := RX11) (T := TX11) (ty0 := tyX11) (ty := .object "RobotCellHouse$Floor") rfl in_X11 tyX11_ok nmX11 (by decide) (in_t4 (List.mem_of_getElem? (i := 112) rfl) rfl) rfl rfl rfl rfl x_fit_obj (x_dk dl_30_ok 26 rfl))))
  (x_Lok (x_st (I := xI) (xr_aload_n (i := 0) (x_dk dl_30_ok 27 rfl)))))
  (x_Tok2
  (x_Lok (x_st (I := xI) (xr_aload_n (i := 0) (x_dk dl_30_ok 28 rfl))))
  (x_Lok (x_st (I := xI) (xr_getf (ci := 11) (k := 1) (ix := 19) (N := 15) (C := RX11) (T := TX11) rfl in_X11 (by decide) (in_t4 (List.mem_of_getElem? (i := 109) rfl) rfl) (x_dk dl_30_ok 29 rfl)))))))))
def tb_30_30 : Nat → xE := (x_T 95 (x_T 78 (x_T 70 (x_T 64 (x_L 64 (0, xi_getf 3 3 67, 0, 0)) (x_T 67 (x_L 67 (0, xi_putf 11 5 2 70, 0, 0)) (x_L 70 (0, xi_load 0 2 71, 0, 0)))) (x_T 74 (x_T 71 (x_L 71 (0, xi_new (x_nc 9 ks_X9) (xm_c m_30) (xm_s m_30) 74, 0, 0)) (x_L 74 (0, xi_stk xf_dup 75, 0, 0))) (x_T 75 (x_L 75 (2, x_nof, 25, 1)) (x_L 78 (0, xi_putf 11 6 2 81, 0, 0))))) (x_T 86 (x_T 82 (x_T 81 (x_L 81 (0, xi_load 0 2 82, 0, 0)) (x_L 82 (0, xi_new (x_nc 6 ks_X6) (xm_c m_30) (xm_s m_30) 85, 0, 0))) (x_T 85 (x_L 85 (0, xi_stk xf_dup 86, 0, 0)) (x_L 86 (2, x_nof, 17, 1)))) (x_T 92 (x_T 89 (x_L 89 (0, xi_putf 11 7 2 92, 0, 0)) (x_L 92 (0, xi_load 0 2 93, 0, 0))) (x_T 93 (x_L 93 (0, xi_push (0, 6, 6) 95, 0, 0)) (x_L 95 (0, xi_newa 1 0 (0, 0, 0) (xm_c m_30) (xm_s m_30) 97, 0, 0)))))) (x_T 110 (x_T 101 (x_T 97 (x_L 97 (0, xi_putf 11 8 2 100, 0, 0)) (x_T 100 (x_L 100 (0, xi_load 0 2 101, 0, 0)) (x_L 101 (0, xi_push (0, 8000, 8000) 104, 0, 0)))) (x_T 106 (x_T 104 (x_L 104 (0, xi_newa 1 0 (0, 0, 0) (xm_c m_30) (xm_s m_30) 106, 0, 0)) (x_L 106 (0, xi_putf 11 9 2 109, 0, 0))) (x_T 109 (x_L 109 (0, xi_load 0 2 110, 0, 0)) (x_L 110 (0, xi_push (0, 4, 4) 111, 0, 0))))) (x_T 117 (x_T 113 (x_T 111 (x_L 111 (0, xi_newa 1 0 (0, 0, 0) (xm_c m_30) (xm_s m_30) 113, 0, 0)) (x_L 113 (0, xi_putf 11 10 2 116, 0, 0))) (x_T 116 (x_L 116 (0, xi_load 0 2 117, 0, 0)) (x_L 117 (0, xi_push (0, 1, 1) 118, 0, 0)))) (x_T 121 (x_T 118 (x_L 118 (0, xi_putf 11 14 1 121, 0, 0)) (x_L 121 (0, xi_load 0 2 122, 0, 0))) (x_T 122 (x_L 122 (2, x_nof, 31, 1)) (x_L 125 (1, x_nof, 0, 0)))))))
set_option maxRecDepth 20000 in
set_option maxHeartbeats 4000000 in
theorem tb_30_30_ok (K : xKx) : ∀ pc, x_EOq cls K xI m_30 pc (tb_30_30 pc) :=
  (x_Tok2
  (x_Tok2
  (x_Tok2
  (x_Tok2
  (x_Lok (x_st (I := xI) (xr_getf (ci := 3) (k := 3) (ix := 38) (N := 12) (C := RX3) (T := TX3) rfl in_X3 (by decide) (in_t3 (List.mem_of_getElem? (i := 95) rfl) rfl) (x_dk dl_30_ok 30 rfl))))
  (x_Tok2
  (x_Lok (x_st (I := xI) (xr_putF (ci := 11) (k := 5) (ix := 42) (N := 15) (fk := 2) (C := RX11) (T := TX11) (ty0 := tyX11) (ty := .object "RobotCellHouse$Core") rfl in_X11 tyX11_ok nmX11 (by decide) (in_t4 (List.mem_of_getElem? (i := 113) rfl) rfl) rfl rfl rfl rfl x_fit_obj (x_dk dl_30_ok 31 rfl))))
  (x_Lok (x_st (I := xI) (xr_aload_n (i := 0) (x_dk dl_30_ok 32 rfl))))))
  (x_Tok2
  (x_Tok2
  (x_Lok (x_st (I := xI) (xr_new (ci := 9) (ix := 43) (N := 17) (C := RX9) (T := TX9) (ty0 := tyX9) (ks := ks_X9) rfl in_X9 tyX9_ok (in_t3 (List.mem_of_getElem? (i := 131) rfl) rfl) (in_t3 (List.mem_of_getElem? (i := 132) rfl) rfl) (in_t1 (List.mem_of_getElem? (i := 11) rfl) rfl) rfl df_X9 (x_dk dl_30_ok 33 rfl))))
  (x_Lok (x_st (I := xI) (xr_dup (x_dk dl_30_ok 34 rfl)))))
  (x_Tok2
  (x_Lok (x_ca (I := xI) (q' := m_25) rfl (xr_callIN (q' := m_25) (ix := 45) (n := 0) (host := "RobotCellHouse") (in_t3 (List.mem_of_getElem? (i := 135) rfl) rfl) good_w (in_t1 (List.mem_of_getElem? (i := 11) rfl) rfl) (List.mem_of_getElem? (i := 7) rfl) (in_t3 (List.mem_of_getElem? (i := 134) rfl) rfl) rfl rfl (by decide +kernel) (by decide +kernel) (by decide +kernel) (x_dk dl_30_ok 35 rfl))))
  (x_Lok (x_st (I := xI) (xr_putF (ci := 11) (k := 6) (ix := 46) (N := 15) (fk := 2) (C := RX11) (T := TX11) (ty0 := tyX11) (ty := .object "RobotCellHouse$Shapes") rfl in_X11 tyX11_ok nmX11 (by decide) (in_t4 (List.mem_of_getElem? (i := 114) rfl) rfl) rfl rfl rfl rfl x_fit_obj (x_dk dl_30_ok 36 rfl)))))))
  (x_Tok2
  (x_Tok2
  (x_Tok2
  (x_Lok (x_st (I := xI) (xr_aload_n (i := 0) (x_dk dl_30_ok 37 rfl))))
  (x_Lok (x_st (I := xI) (xr_new (ci := 6) (ix := 50) (N := 13) (C := RX6) (T := TX6) (ty0 := tyX6) (ks := ks_X6) rfl in_X6 tyX6_ok (in_t3 (List.mem_of_getElem? (i := 192) rfl) rfl) (in_t3 (List.mem_of_getElem? (i := 193) rfl) rfl) (in_t1 (List.mem_of_getElem? (i := 12) rfl) rfl) rfl df_X6 (x_dk dl_30_ok 38 rfl)))))
  (x_Tok2
  (x_Lok (x_st (I := xI) (xr_dup (x_dk dl_30_ok 39 rfl))))
  (x_Lok (x_ca (I := xI) (q' := m_17) rfl (xr_callIN (q' := m_17) (ix := 52) (n := 0) (host := "RobotCellHouse") (in_t3 (List.mem_of_getElem? (i := 196) rfl) rfl) good_w (in_t1 (List.mem_of_getElem? (i := 12) rfl) rfl) (List.mem_of_getElem? (i := 8) rfl) (in_t3 (List.mem_of_getElem? (i := 195) rfl) rfl) rfl rfl (by decide +kernel) (by decide +kernel) (by decide +kernel) (x_dk dl_30_ok 40 rfl))))))
  (x_Tok2
  (x_Tok2
  (x_Lok (x_st (I := xI) (xr_putF (ci := 11) (k := 7) (ix := 53) (N := 15) (fk := 2) (C := RX11) (T := TX11) (ty0 := tyX11) (ty := .object "RobotCellHouse$Planner") rfl in_X11 tyX11_ok nmX11 (by decide) (in_t4 (List.mem_of_getElem? (i := 115) rfl) rfl) rfl rfl rfl rfl x_fit_obj (x_dk dl_30_ok 41 rfl))))
  (x_Lok (x_st (I := xI) (xr_aload_n (i := 0) (x_dk dl_30_ok 42 rfl)))))
  (x_Tok2
  (x_Lok (x_st (I := xI) (xr_bipush (n := 6) (z := 6) (v := 6) (x_dk dl_30_ok 43 rfl) (by decide) (by decide))))
  (x_Lok (x_st (I := xI) (xr_newa (kd := 1) (b := false) (ty := .int) rfl rfl (in_t1 (List.mem_of_getElem? (i := 64) rfl) rfl) (x_dk dl_30_ok 44 rfl))))))))
  (x_Tok2
  (x_Tok2
  (x_Tok2
  (x_Lok (x_st (I := xI) (xr_putF (ci := 11) (k := 8) (ix := 57) (N := 15) (fk := 2) (C := RX11) (T := TX11) (ty0 := tyX11) (ty := .array .int) rfl in_X11 tyX11_ok nmX11 (by decide) (in_t4 (List.mem_of_getElem? (i := 116) rfl) rfl) rfl rfl rfl rfl x_fit_arr (x_dk dl_30_ok 45 rfl))))
  (x_Tok2
  (x_Lok (x_st (I := xI) (xr_aload_n (i := 0) (x_dk dl_30_ok 46 rfl))))
  (x_Lok (x_st (I := xI) (xr_sipush (n := 8000) (z := 8000) (v := 8000) (x_dk dl_30_ok 47 rfl) (by decide) (by decide))))))
  (x_Tok2
  (x_Tok2
  (x_Lok (x_st (I := xI) (xr_newa (kd := 1) (b := false) (ty := .int) rfl rfl (in_t1 (List.mem_of_getElem? (i := 64) rfl) rfl) (x_dk dl_30_ok 48 rfl))))
  (x_Lok (x_st (I := xI) (xr_putF (ci := 11) (k := 9) (ix := 61) (N := 15) (fk := 2) (C := RX11) (T := TX11) (ty0 := tyX11) (ty := .array .int) rfl in_X11 tyX11_ok nmX11 (by decide) (in_t4 (List.mem_of_getElem? (i := 117) rfl) rfl) rfl rfl rfl rfl x_fit_arr (x_dk dl_30_ok 49 rfl)))))
  (x_Tok2
  (x_Lok (x_st (I := xI) (xr_aload_n (i := 0) (x_dk dl_30_ok 50 rfl))))
  (x_Lok (x_st (I := xI) (xr_iconst (n := 4) (z := 4) (v := 4) (x_dk dl_30_ok 51 rfl) (by decide) (by decide)))))))
  (x_Tok2
  (x_Tok2
  (x_Tok2
  (x_Lok (x_st (I := xI) (xr_newa (kd := 1) (b := false) (ty := .int) rfl rfl (in_t1 (List.mem_of_getElem? (i := 64) rfl) rfl) (x_dk dl_30_ok 52 rfl))))
  (x_Lok (x_st (I := xI) (xr_putF (ci := 11) (k := 10) (ix := 64) (N := 15) (fk := 2) (C := RX11) (T := TX11) (ty0 := tyX11) (ty := .array .int) rfl in_X11 tyX11_ok nmX11 (by decide) (in_t4 (List.mem_of_getElem? (i := 118) rfl) rfl) rfl rfl rfl rfl x_fit_arr (x_dk dl_30_ok 53 rfl)))))
  (x_Tok2
  (x_Lok (x_st (I := xI) (xr_aload_n (i := 0) (x_dk dl_30_ok 54 rfl))))
  (x_Lok (x_st (I := xI) (xr_iconst (n := 1) (z := 1) (v := 1) (x_dk dl_30_ok 55 rfl) (by decide) (by decide))))))
  (x_Tok2
  (x_Tok2
  (x_Lok (x_st (I := xI) (xr_putf (ci := 11) (k := 14) (ix := 67) (N := 15) (fk := 1) (C := RX11) (T := TX11) (ty0 := tyX11) (ty := .boolean) rfl in_X11 tyX11_ok nmX11 (by decide) (in_t4 (List.mem_of_getElem? (i := 122) rfl) rfl) rfl rfl x_fit_bool (x_dk dl_30_ok 56 rfl))))
  (x_Lok (x_st (I := xI) (xr_aload_n (i := 0) (x_dk dl_30_ok 57 rfl)))))
  (x_Tok2
  (x_Lok (x_ca (I := xI) (q' := m_31) rfl (xr_callV (q' := m_31) (ix := 71) (n := 0) (in_t4 (List.mem_of_getElem? (i := 2) rfl) rfl) good_w (in_t1 (List.mem_of_getElem? (i := 1) rfl) rfl) (in_t3 (List.mem_of_getElem? (i := 239) rfl) rfl) (in_t4 (List.mem_of_getElem? (i := 1) rfl) rfl) (in_s1 (List.mem_of_getElem? (i := 0) rfl)) (by decide +kernel) (by decide +kernel) (by decide +kernel) (x_dk dl_30_ok 58 rfl))))
  (x_Lok (x_rt (I := xI) (k := 0) ⟨(x_dk dl_30_ok 59 rfl), rfl⟩)))))))
def tb_30 : Nat → xE := (x_T 61 tb_30_0 tb_30_30)
theorem tb_30_ok (K : xKx) : ∀ pc, x_EOq cls K xI m_30 pc (tb_30 pc) := (x_Tok2 (tb_30_0_ok K) (tb_30_30_ok K))
def dl_31 : List (Nat × Instr × Nat) := [(0, .aload_n 0, 1), (1, .iconst 0, 1), (2, .putfield 94, 3), (5, .aload_n 0, 1), (6, .iconst 0, 1), (7, .putfield 246, 3), (10, .aload_n 0, 1), (11, .iconst 0, 1), (12, .putfield 91, 3), (15, .iconst 0, 1), (16, .istore_n 1, 1), (17, .iload_n 1, 1), (18, .iconst 4, 1), (19, .if_icmp .ge 22, 3), (22, .aload_n 0, 1), (23, .getfield 27, 3), (26, .iload_n 1, 1), (27, .aaload, 1), (28, .iconst 0, 1), (29, .iconst 0, 1), (30, .iconst 0, 1), (31, .iconst 0, 1), (32, .invokevirtual 97, 3), (35, .iinc 1 1, 3), (38, .goto (-21), 3), (41, .aload_n 0, 1), (42, .getfield 46, 3), (45, .iconst 0, 1), (46, .putfield 149, 3), (49, .aload_n 0, 1), (50, .getfield 46, 3), (53, .iconst 0, 1), (54, .putfield 198, 3), (57, .aload_n 0, 1), (58, .getfield 32, 3), (61, .invokevirtual 413, 3), (64, .aload_n 0, 1), (65, .getfield 37, 3), (68, .iconst 0, 1), (69, .putfield 167, 3), (72, .aload_n 0, 1), (73, .getfield 37, 3), (76, .iconst 0, 1), (77, .putfield 371, 3), (80, .aload_n 0, 1), (81, .getfield 42, 3), (84, .invokevirtual 414, 3), (87, .aload_n 0, 1), (88, .getfield 53, 3), (91, .iconst 0, 1), (92, .putfield 293, 3), (95, .aload_n 0, 1), (96, .getfield 64, 3), (99, .iconst 0, 1), (100, .invokestatic 415, 3), (103, .aload_n 0, 1), (104, .invokevirtual 249, 3), (107, .return_, 1)]
set_option maxRecDepth 20000 in
theorem dl_31_ok : dl_31.all (fun q => decide (decode prog_1_method_63_code q.1 = .ok (q.2.1, q.2.2))) = true := by decide +kernel
def tb_31_0 : Nat → xE := (x_T 19 (x_T 10 (x_T 2 (x_T 0 (x_L 0 (0, xi_load 0 2 1, 0, 0)) (x_T 1 (x_L 1 (0, xi_push (0, 0, 0) 2, 0, 0)) (x_L 2 (0, xi_putf 11 11 0 5, 0, 0)))) (x_T 6 (x_T 5 (x_L 5 (0, xi_load 0 2 6, 0, 0)) (x_L 6 (0, xi_push (0, 0, 0) 7, 0, 0))) (x_T 7 (x_L 7 (0, xi_putf 11 12 0 10, 0, 0)) (x_L 10 (0, xi_load 0 2 11, 0, 0))))) (x_T 15 (x_T 11 (x_L 11 (0, xi_push (0, 0, 0) 12, 0, 0)) (x_T 12 (x_L 12 (0, xi_putf 11 13 1 15, 0, 0)) (x_L 15 (0, xi_push (0, 0, 0) 16, 0, 0)))) (x_T 17 (x_T 16 (x_L 16 (0, xi_stor 1 0 17, 0, 0)) (x_L 17 (0, xi_load 1 0 18, 0, 0))) (x_T 18 (x_L 18 (0, xi_push (0, 4, 4) 19, 0, 0)) (x_L 19 (0, xi_if2 3 41 22, 0, 0)))))) (x_T 30 (x_T 26 (x_T 22 (x_L 22 (0, xi_load 0 2 23, 0, 0)) (x_T 23 (x_L 23 (0, xi_getf 11 2 26, 0, 0)) (x_L 26 (0, xi_load 1 0 27, 0, 0)))) (x_T 28 (x_T 27 (x_L 27 (0, xi_aald 28, 0, 0)) (x_L 28 (0, xi_push (0, 0, 0) 29, 0, 0))) (x_T 29 (x_L 29 (0, xi_push (0, 0, 0) 30, 0, 0)) (x_L 30 (0, xi_push (0, 0, 0) 31, 0, 0))))) (x_T 38 (x_T 32 (x_T 31 (x_L 31 (0, xi_push (0, 0, 0) 32, 0, 0)) (x_L 32 (2, x_nof, 2, 5))) (x_T 35 (x_L 35 (0, xi_inc 1 1 38, 0, 0)) (x_L 38 (0, xi_goto 17, 0, 0)))) (x_T 42 (x_T 41 (x_L 41 (0, xi_load 0 2 42, 0, 0)) (x_L 42 (0, xi_getf 11 6 45, 0, 0))) (x_T 45 (x_L 45 (0, xi_push (0, 0, 0) 46, 0, 0)) (x_L 46 (0, xi_putf 9 0 0 49, 0, 0)))))))
set_option maxRecDepth 20000 in
set_option maxHeartbeats 4000000 in
theorem tb_31_0_ok (K : xKx) : ∀ pc, x_EOq cls K xI m_31 pc (tb_31_0 pc) :=
  (x_Tok2
  (x_Tok2
  (x_Tok2
  (x_Tok2
  (x_Lok (x_st (I := xI) (xr_aload_n (i := 0) (x_dk dl_31_ok 0 rfl))))
  (x_Tok2
  (x_Lok (x_st (I := xI) (xr_iconst (n := 0) (z := 0) (v := 0) (x_dk dl_31_ok 1 rfl) (by decide) (by decide))))
  (x_Lok (x_st (I := xI) (xr_putf (ci := 11) (k := 11) (ix := 94) (N := 15) (fk := 0) (C := RX11) (T := TX11) (ty0 := tyX11) (ty := .int) rfl in_X11 tyX11_ok nmX11 (by decide) (in_t4 (List.mem_of_getElem? (i := 119) rfl) rfl) rfl rfl x_fit_int (x_dk dl_31_ok 2 rfl))))))
  (x_Tok2
  (x_Tok2
  (x_Lok (x_st (I := xI) (xr_aload_n (i := 0) (x_dk dl_31_ok 3 rfl))))
  (x_Lok (x_st (I := xI) (xr_iconst (n := 0) (z := 0) (v := 0) (x_dk dl_31_ok 4 rfl) (by decide) (by decide)))))
  (x_Tok2
  (x_Lok (x_st (I := xI) (xr_putf (ci := 11) (k := 12) (ix := 246) (N := 15) (fk := 0) (C := RX11) (T := TX11) (ty0 := tyX11) (ty := .int) rfl in_X11 tyX11_ok nmX11 (by decide) (in_t4 (List.mem_of_getElem? (i := 120) rfl) rfl) rfl rfl x_fit_int (x_dk dl_31_ok 5 rfl))))
  (x_Lok (x_st (I := xI) (xr_aload_n (i := 0) (x_dk dl_31_ok 6 rfl)))))))
  (x_Tok2
  (x_Tok2
  (x_Lok (x_st (I := xI) (xr_iconst (n := 0) (z := 0) (v := 0) (x_dk dl_31_ok 7 rfl) (by decide) (by decide))))
  (x_Tok2
  (x_Lok (x_st (I := xI) (xr_putf (ci := 11) (k := 13) (ix := 91) (N := 15) (fk := 1) (C := RX11) (T := TX11) (ty0 := tyX11) (ty := .boolean) rfl in_X11 tyX11_ok nmX11 (by decide) (in_t4 (List.mem_of_getElem? (i := 121) rfl) rfl) rfl rfl x_fit_bool (x_dk dl_31_ok 8 rfl))))
  (x_Lok (x_st (I := xI) (xr_iconst (n := 0) (z := 0) (v := 0) (x_dk dl_31_ok 9 rfl) (by decide) (by decide))))))
  (x_Tok2
  (x_Tok2
  (x_Lok (x_st (I := xI) (xr_istore_n (i := 1) (x_dk dl_31_ok 10 rfl) (by decide +kernel))))
  (x_Lok (x_st (I := xI) (xr_iload_n (i := 1) (x_dk dl_31_ok 11 rfl)))))
  (x_Tok2
  (x_Lok (x_st (I := xI) (xr_iconst (n := 4) (z := 4) (v := 4) (x_dk dl_31_ok 12 rfl) (by decide) (by decide))))
  (x_Lok (x_st (I := xI) (xr_icmpge (off := 22) (tg := 41) (x_dk dl_31_ok 13 rfl) (by decide))))))))
  (x_Tok2
  (x_Tok2
  (x_Tok2
  (x_Lok (x_st (I := xI) (xr_aload_n (i := 0) (x_dk dl_31_ok 14 rfl))))
  (x_Tok2
  (x_Lok (x_st (I := xI) (xr_getf (ci := 11) (k := 2) (ix := 27) (N := 15) (C := RX11) (T := TX11) rfl in_X11 (by decide) (in_t4 (List.mem_of_getElem? (i := 110) rfl) rfl) (x_dk dl_31_ok 15 rfl))))
  (x_Lok (x_st (I := xI) (xr_iload_n (i := 1) (x_dk dl_31_ok 16 rfl))))))
  (x_Tok2
  (x_Tok2
  (x_Lok (x_st (I := xI) (xr_aaload (x_dk dl_31_ok 17 rfl))))
  (x_Lok (x_st (I := xI) (xr_iconst (n := 0) (z := 0) (v := 0) (x_dk dl_31_ok 18 rfl) (by decide) (by decide)))))
  (x_Tok2
  (x_Lok (x_st (I := xI) (xr_iconst (n := 0) (z := 0) (v := 0) (x_dk dl_31_ok 19 rfl) (by decide) (by decide))))
  (x_Lok (x_st (I := xI) (xr_iconst (n := 0) (z := 0) (v := 0) (x_dk dl_31_ok 20 rfl) (by decide) (by decide)))))))
  (x_Tok2
  (x_Tok2
  (x_Tok2
  (x_Lok (x_st (I := xI) (xr_iconst (n := 0) (z := 0) (v := 0) (x_dk dl_31_ok 21 rfl) (by decide) (by decide))))
  (x_Lok (x_ca (I := xI) (q' := m_2) rfl (xr_callV (q' := m_2) (ix := 97) (n := 4) (in_t4 (List.mem_of_getElem? (i := 6) rfl) rfl) good_w (in_t1 (List.mem_of_getElem? (i := 8) rfl) rfl) (in_t4 (List.mem_of_getElem? (i := 3) rfl) rfl) (in_t4 (List.mem_of_getElem? (i := 4) rfl) rfl) (in_t4 (List.mem_of_getElem? (i := 5) rfl) rfl) (by decide +kernel) (by decide +kernel) (by decide +kernel) (x_dk dl_31_ok 22 rfl)))))
  (x_Tok2
  (x_Lok (x_st (I := xI) (xr_iinc (i := 1) (n := 1) (x_dk dl_31_ok 23 rfl) (by decide +kernel) (by decide))))
  (x_Lok (x_st (I := xI) (xr_goto (off := (-21)) (tg := 17) (x_dk dl_31_ok 24 rfl) (by decide))))))
  (x_Tok2
  (x_Tok2
  (x_Lok (x_st (I := xI) (xr_aload_n (i := 0) (x_dk dl_31_ok 25 rfl))))
  (x_Lok (x_st (I := xI) (xr_getf (ci := 11) (k := 6) (ix := 46) (N := 15) (C := RX11) (T := TX11) rfl in_X11 (by decide) (in_t4 (List.mem_of_getElem? (i := 114) rfl) rfl) (x_dk dl_31_ok 26 rfl)))))
  (x_Tok2
  (x_Lok (x_st (I := xI) (xr_iconst (n := 0) (z := 0) (v := 0) (x_dk dl_31_ok 27 rfl) (by decide) (by decide))))
  (x_Lok (x_st (I := xI) (xr_putf (ci := 9) (k := 0) (ix := 149) (N := 17) (fk := 0) (C := RX9) (T := TX9) (ty0 := tyX9) (ty := .int) rfl in_X9 tyX9_ok nmX9 (by decide) (in_t3 (List.mem_of_getElem? (i := 138) rfl) rfl) rfl rfl x_fit_int (x_dk dl_31_ok 28 rfl)))))))))
def tb_31_29 : Nat → xE := (x_T 76 (x_T 61 (x_T 53 (x_T 49 (x_L 49 (0, xi_load 0 2 50, 0, 0)) (x_T 50 (x_L 50 (0, xi_getf 11 6 53, 0, 0)) (x_L 53 (0, xi_push (0, 0, 0) 54, 0, 0)))) (x_T 57 (x_T 54 (x_L 54 (0, xi_putf 9 1 0 57, 0, 0)) (x_L 57 (0, xi_load 0 2 58, 0, 0))) (x_T 58 (x_L 58 (0, xi_getf 11 3 61, 0, 0)) (x_L 61 (2, x_nof, 19, 1))))) (x_T 68 (x_T 64 (x_L 64 (0, xi_load 0 2 65, 0, 0)) (x_T 65 (x_L 65 (0, xi_getf 11 4 68, 0, 0)) (x_L 68 (0, xi_push (0, 0, 0) 69, 0, 0)))) (x_T 72 (x_T 69 (x_L 69 (0, xi_putf 4 0 0 72, 0, 0)) (x_L 72 (0, xi_load 0 2 73, 0, 0))) (x_T 73 (x_L 73 (0, xi_getf 11 4 76, 0, 0)) (x_L 76 (0, xi_push (0, 0, 0) 77, 0, 0)))))) (x_T 91 (x_T 81 (x_T 77 (x_L 77 (0, xi_putf 4 1 0 80, 0, 0)) (x_T 80 (x_L 80 (0, xi_load 0 2 81, 0, 0)) (x_L 81 (0, xi_getf 11 5 84, 0, 0)))) (x_T 87 (x_T 84 (x_L 84 (2, x_nof, 10, 1)) (x_L 87 (0, xi_load 0 2 88, 0, 0))) (x_T 88 (x_L 88 (0, xi_getf 11 7 91, 0, 0)) (x_L 91 (0, xi_push (0, 0, 0) 92, 0, 0))))) (x_T 99 (x_T 95 (x_T 92 (x_L 92 (0, xi_putf 6 0 0 95, 0, 0)) (x_L 95 (0, xi_load 0 2 96, 0, 0))) (x_T 96 (x_L 96 (0, xi_getf 11 10 99, 0, 0)) (x_L 99 (0, xi_push (0, 0, 0) 100, 0, 0)))) (x_T 103 (x_T 100 (x_L 100 (2, x_nof, 33, 2)) (x_L 103 (0, xi_load 0 2 104, 0, 0))) (x_T 104 (x_L 104 (2, x_nof, 32, 1)) (x_L 107 (1, x_nof, 0, 0)))))))
set_option maxRecDepth 20000 in
set_option maxHeartbeats 4000000 in
theorem tb_31_29_ok (K : xKx) : ∀ pc, x_EOq cls K xI m_31 pc (tb_31_29 pc) :=
  (x_Tok2
  (x_Tok2
  (x_Tok2
  (x_Tok2
  (x_Lok (x_st (I := xI) (xr_aload_n (i := 0) (x_dk dl_31_ok 29 rfl))))
  (x_Tok2
  (x_Lok (x_st (I := xI) (xr_getf (ci := 11) (k := 6) (ix := 46) (N := 15) (C := RX11) (T := TX11) rfl in_X11 (by decide) (in_t4 (List.mem_of_getElem? (i := 114) rfl) rfl) (x_dk dl_31_ok 30 rfl))))
  (x_Lok (x_st (I := xI) (xr_iconst (n := 0) (z := 0) (v := 0) (x_dk dl_31_ok 31 rfl) (by decide) (by decide))))))
  (x_Tok2
  (x_Tok2
  (x_Lok (x_st (I := xI) (xr_putf (ci := 9) (k := 1) (ix := 198) (N := 17) (fk := 0) (C := RX9) (T := TX9) (ty0 := tyX9) (ty := .int) rfl in_X9 tyX9_ok nmX9 (by decide) (in_t3 (List.mem_of_getElem? (i := 140) rfl) rfl) rfl rfl x_fit_int (x_dk dl_31_ok 32 rfl))))
  (x_Lok (x_st (I := xI) (xr_aload_n (i := 0) (x_dk dl_31_ok 33 rfl)))))
  (x_Tok2
  (x_Lok (x_st (I := xI) (xr_getf (ci := 11) (k := 3) (ix := 32) (N := 15) (C := RX11) (T := TX11) rfl in_X11 (by decide) (in_t4 (List.mem_of_getElem? (i := 111) rfl) rfl) (x_dk dl_31_ok 34 rfl))))
  (x_Lok (x_ca (I := xI) (q' := m_19) rfl (xr_callV (q' := m_19) (ix := 413) (n := 0) (in_t4 (List.mem_of_getElem? (i := 43) rfl) rfl) good_w (in_t1 (List.mem_of_getElem? (i := 5) rfl) rfl) (in_t4 (List.mem_of_getElem? (i := 40) rfl) rfl) (in_t4 (List.mem_of_getElem? (i := 41) rfl) rfl) (in_t4 (List.mem_of_getElem? (i := 42) rfl) rfl) (by decide +kernel) (by decide +kernel) (by decide +kernel) (x_dk dl_31_ok 35 rfl)))))))
  (x_Tok2
  (x_Tok2
  (x_Lok (x_st (I := xI) (xr_aload_n (i := 0) (x_dk dl_31_ok 36 rfl))))
  (x_Tok2
  (x_Lok (x_st (I := xI) (xr_getf (ci := 11) (k := 4) (ix := 37) (N := 15) (C := RX11) (T := TX11) rfl in_X11 (by decide) (in_t4 (List.mem_of_getElem? (i := 112) rfl) rfl) (x_dk dl_31_ok 37 rfl))))
  (x_Lok (x_st (I := xI) (xr_iconst (n := 0) (z := 0) (v := 0) (x_dk dl_31_ok 38 rfl) (by decide) (by decide))))))
  (x_Tok2
  (x_Tok2
  (x_Lok (x_st (I := xI) (xr_putf (ci := 4) (k := 0) (ix := 167) (N := 20) (fk := 0) (C := RX4) (T := TX4) (ty0 := tyX4) (ty := .int) rfl in_X4 tyX4_ok nmX4 (by decide) (in_t1 (List.mem_of_getElem? (i := 176) rfl) rfl) rfl rfl x_fit_int (x_dk dl_31_ok 39 rfl))))
  (x_Lok (x_st (I := xI) (xr_aload_n (i := 0) (x_dk dl_31_ok 40 rfl)))))
  (x_Tok2
  (x_Lok (x_st (I := xI) (xr_getf (ci := 11) (k := 4) (ix := 37) (N := 15) (C := RX11) (T := TX11) rfl in_X11 (by decide) (in_t4 (List.mem_of_getElem? (i := 112) rfl) rfl) (x_dk dl_31_ok 41 rfl))))
  (x_Lok (x_st (I := xI) (xr_iconst (n := 0) (z := 0) (v := 0) (x_dk dl_31_ok 42 rfl) (by decide) (by decide))))))))
  (x_Tok2
  (x_Tok2
  (x_Tok2
  (x_Lok (x_st (I := xI) (xr_putf (ci := 4) (k := 1) (ix := 371) (N := 20) (fk := 0) (C := RX4) (T := TX4) (ty0 := tyX4) (ty := .int) rfl in_X4 tyX4_ok nmX4 (by decide) (in_t1 (List.mem_of_getElem? (i := 178) rfl) rfl) rfl rfl x_fit_int (x_dk dl_31_ok 43 rfl))))
  (x_Tok2
  (x_Lok (x_st (I := xI) (xr_aload_n (i := 0) (x_dk dl_31_ok 44 rfl))))
  (x_Lok (x_st (I := xI) (xr_getf (ci := 11) (k := 5) (ix := 42) (N := 15) (C := RX11) (T := TX11) rfl in_X11 (by decide) (in_t4 (List.mem_of_getElem? (i := 113) rfl) rfl) (x_dk dl_31_ok 45 rfl))))))
  (x_Tok2
  (x_Tok2
  (x_Lok (x_ca (I := xI) (q' := m_10) rfl (xr_callV (q' := m_10) (ix := 414) (n := 0) (in_t4 (List.mem_of_getElem? (i := 52) rfl) rfl) good_w (in_t1 (List.mem_of_getElem? (i := 7) rfl) rfl) (in_t4 (List.mem_of_getElem? (i := 49) rfl) rfl) (in_t4 (List.mem_of_getElem? (i := 50) rfl) rfl) (in_t4 (List.mem_of_getElem? (i := 51) rfl) rfl) (by decide +kernel) (by decide +kernel) (by decide +kernel) (x_dk dl_31_ok 46 rfl))))
  (x_Lok (x_st (I := xI) (xr_aload_n (i := 0) (x_dk dl_31_ok 47 rfl)))))
  (x_Tok2
  (x_Lok (x_st (I := xI) (xr_getf (ci := 11) (k := 7) (ix := 53) (N := 15) (C := RX11) (T := TX11) rfl in_X11 (by decide) (in_t4 (List.mem_of_getElem? (i := 115) rfl) rfl) (x_dk dl_31_ok 48 rfl))))
  (x_Lok (x_st (I := xI) (xr_iconst (n := 0) (z := 0) (v := 0) (x_dk dl_31_ok 49 rfl) (by decide) (by decide)))))))
  (x_Tok2
  (x_Tok2
  (x_Tok2
  (x_Lok (x_st (I := xI) (xr_putf (ci := 6) (k := 0) (ix := 293) (N := 13) (fk := 0) (C := RX6) (T := TX6) (ty0 := tyX6) (ty := .int) rfl in_X6 tyX6_ok nmX6 (by decide) (in_t3 (List.mem_of_getElem? (i := 199) rfl) rfl) rfl rfl x_fit_int (x_dk dl_31_ok 50 rfl))))
  (x_Lok (x_st (I := xI) (xr_aload_n (i := 0) (x_dk dl_31_ok 51 rfl)))))
  (x_Tok2
  (x_Lok (x_st (I := xI) (xr_getf (ci := 11) (k := 10) (ix := 64) (N := 15) (C := RX11) (T := TX11) rfl in_X11 (by decide) (in_t4 (List.mem_of_getElem? (i := 118) rfl) rfl) (x_dk dl_31_ok 52 rfl))))
  (x_Lok (x_st (I := xI) (xr_iconst (n := 0) (z := 0) (v := 0) (x_dk dl_31_ok 53 rfl) (by decide) (by decide))))))
  (x_Tok2
  (x_Tok2
  (x_Lok (x_ca (I := xI) (q' := m_33) rfl (xr_callS (q' := m_33) (ix := 415) (n := 2) (in_t4 (List.mem_of_getElem? (i := 9) rfl) rfl) good_w (in_t1 (List.mem_of_getElem? (i := 13) rfl) rfl) (in_t4 (List.mem_of_getElem? (i := 53) rfl) rfl) (in_t4 (List.mem_of_getElem? (i := 8) rfl) rfl) (by decide +kernel) (by decide +kernel) (x_dk dl_31_ok 54 rfl))))
  (x_Lok (x_st (I := xI) (xr_aload_n (i := 0) (x_dk dl_31_ok 55 rfl)))))
  (x_Tok2
  (x_Lok (x_ca (I := xI) (q' := m_32) rfl (xr_callV (q' := m_32) (ix := 249) (n := 0) (in_t4 (List.mem_of_getElem? (i := 57) rfl) rfl) good_w (in_t1 (List.mem_of_getElem? (i := 1) rfl) rfl) (in_t4 (List.mem_of_getElem? (i := 54) rfl) rfl) (in_t4 (List.mem_of_getElem? (i := 56) rfl) rfl) (in_s1 (List.mem_of_getElem? (i := 2) rfl)) (by decide +kernel) (by decide +kernel) (by decide +kernel) (x_dk dl_31_ok 56 rfl))))
  (x_Lok (x_rt (I := xI) (k := 0) ⟨(x_dk dl_31_ok 57 rfl), rfl⟩)))))))
def tb_31 : Nat → xE := (x_T 46 tb_31_0 tb_31_29)
theorem tb_31_ok (K : xKx) : ∀ pc, x_EOq cls K xI m_31 pc (tb_31 pc) := (x_Tok2 (tb_31_0_ok K) (tb_31_29_ok K))
def dl_32 : List (Nat × Instr × Nat) := [(0, .iconst 0, 1), (1, .istore_n 1, 1), (2, .iload_n 1, 1), (3, .iconst 4, 1), (4, .if_icmp .ge 18, 3), (7, .aload_n 0, 1), (8, .getfield 27, 3), (11, .iload_n 1, 1), (12, .aaload, 1), (13, .invokevirtual 421, 3), (16, .iinc 1 1, 3), (19, .goto (-17), 3), (22, .aload_n 0, 1), (23, .getfield 32, 3), (26, .invokevirtual 422, 3), (29, .aload_n 0, 1), (30, .getfield 37, 3), (33, .invokevirtual 423, 3), (36, .aload_n 0, 1), (37, .getfield 42, 3), (40, .invokevirtual 424, 3), (43, .aload_n 0, 1), (44, .getfield 19, 3), (47, .invokevirtual 425, 3), (50, .aload_n 0, 1), (51, .getfield 57, 3), (54, .iconst 0, 1), (55, .invokestatic 415, 3), (58, .return_, 1)]
set_option maxRecDepth 20000 in
theorem dl_32_ok : dl_32.all (fun q => decide (decode prog_1_method_64_code q.1 = .ok (q.2.1, q.2.2))) = true := by decide +kernel
def tb_32_0 : Nat → xE := (x_T 23 (x_T 8 (x_T 2 (x_T 0 (x_L 0 (0, xi_push (0, 0, 0) 1, 0, 0)) (x_T 1 (x_L 1 (0, xi_stor 1 0 2, 0, 0)) (x_L 2 (0, xi_load 1 0 3, 0, 0)))) (x_T 4 (x_T 3 (x_L 3 (0, xi_push (0, 4, 4) 4, 0, 0)) (x_L 4 (0, xi_if2 3 22 7, 0, 0))) (x_T 7 (x_L 7 (0, xi_load 0 2 8, 0, 0)) (x_L 8 (0, xi_getf 11 2 11, 0, 0))))) (x_T 13 (x_T 11 (x_L 11 (0, xi_load 1 0 12, 0, 0)) (x_T 12 (x_L 12 (0, xi_aald 13, 0, 0)) (x_L 13 (2, x_nof, 3, 1)))) (x_T 19 (x_T 16 (x_L 16 (0, xi_inc 1 1 19, 0, 0)) (x_L 19 (0, xi_goto 2, 0, 0))) (x_T 22 (x_L 22 (0, xi_load 0 2 23, 0, 0)) (x_L 23 (0, xi_getf 11 3 26, 0, 0)))))) (x_T 40 (x_T 30 (x_T 26 (x_L 26 (2, x_nof, 20, 1)) (x_T 29 (x_L 29 (0, xi_load 0 2 30, 0, 0)) (x_L 30 (0, xi_getf 11 4 33, 0, 0)))) (x_T 36 (x_T 33 (x_L 33 (2, x_nof, 15, 1)) (x_L 36 (0, xi_load 0 2 37, 0, 0))) (x_T 37 (x_L 37 (0, xi_getf 11 5 40, 0, 0)) (x_L 40 (2, x_nof, 11, 1))))) (x_T 50 (x_T 44 (x_T 43 (x_L 43 (0, xi_load 0 2 44, 0, 0)) (x_L 44 (0, xi_getf 11 1 47, 0, 0))) (x_T 47 (x_L 47 (2, x_nof, 13, 1)) (x_L 50 (0, xi_load 0 2 51, 0, 0)))) (x_T 54 (x_T 51 (x_L 51 (0, xi_getf 11 8 54, 0, 0)) (x_L 54 (0, xi_push (0, 0, 0) 55, 0, 0))) (x_T 55 (x_L 55 (2, x_nof, 33, 2)) (x_L 58 (1, x_nof, 0, 0)))))))
set_option maxRecDepth 20000 in
set_option maxHeartbeats 4000000 in
theorem tb_32_0_ok (K : xKx) : ∀ pc, x_EOq cls K xI m_32 pc (tb_32_0 pc) :=
  (x_Tok2
  (x_Tok2
  (x_Tok2
  (x_Tok2
  (x_Lok (x_st (I := xI) (xr_iconst (n := 0) (z := 0) (v := 0) (x_dk dl_32_ok 0 rfl) (by decide) (by decide))))
  (x_Tok2
  (x_Lok (x_st (I := xI) (xr_istore_n (i := 1) (x_dk dl_32_ok 1 rfl) (by decide +kernel))))
  (x_Lok (x_st (I := xI) (xr_iload_n (i := 1) (x_dk dl_32_ok 2 rfl))))))
  (x_Tok2
  (x_Tok2
  (x_Lok (x_st (I := xI) (xr_iconst (n := 4) (z := 4) (v := 4) (x_dk dl_32_ok 3 rfl) (by decide) (by decide))))
  (x_Lok (x_st (I := xI) (xr_icmpge (off := 18) (tg := 22) (x_dk dl_32_ok 4 rfl) (by decide)))))
  (x_Tok2
  (x_Lok (x_st (I := xI) (xr_aload_n (i := 0) (x_dk dl_32_ok 5 rfl))))
  (x_Lok (x_st (I := xI) (xr_getf (ci := 11) (k := 2) (ix := 27) (N := 15) (C := RX11) (T := TX11) rfl in_X11 (by decide) (in_t4 (List.mem_of_getElem? (i := 110) rfl) rfl) (x_dk dl_32_ok 6 rfl)))))))
  (x_Tok2
  (x_Tok2
  (x_Lok (x_st (I := xI) (xr_iload_n (i := 1) (x_dk dl_32_ok 7 rfl))))
  (x_Tok2
  (x_Lok (x_st (I := xI) (xr_aaload (x_dk dl_32_ok 8 rfl))))
  (x_Lok (x_ca (I := xI) (q' := m_3) rfl (xr_callV (q' := m_3) (ix := 421) (n := 0) (in_t4 (List.mem_of_getElem? (i := 17) rfl) rfl) good_w (in_t1 (List.mem_of_getElem? (i := 8) rfl) rfl) (in_t4 (List.mem_of_getElem? (i := 58) rfl) rfl) (in_t4 (List.mem_of_getElem? (i := 15) rfl) rfl) (in_t4 (List.mem_of_getElem? (i := 16) rfl) rfl) (by decide +kernel) (by decide +kernel) (by decide +kernel) (x_dk dl_32_ok 9 rfl))))))
  (x_Tok2
  (x_Tok2
  (x_Lok (x_st (I := xI) (xr_iinc (i := 1) (n := 1) (x_dk dl_32_ok 10 rfl) (by decide +kernel) (by decide))))
  (x_Lok (x_st (I := xI) (xr_goto (off := (-17)) (tg := 2) (x_dk dl_32_ok 11 rfl) (by decide)))))
  (x_Tok2
  (x_Lok (x_st (I := xI) (xr_aload_n (i := 0) (x_dk dl_32_ok 12 rfl))))
  (x_Lok (x_st (I := xI) (xr_getf (ci := 11) (k := 3) (ix := 32) (N := 15) (C := RX11) (T := TX11) rfl in_X11 (by decide) (in_t4 (List.mem_of_getElem? (i := 111) rfl) rfl) (x_dk dl_32_ok 13 rfl))))))))
  (x_Tok2
  (x_Tok2
  (x_Tok2
  (x_Lok (x_ca (I := xI) (q' := m_20) rfl (xr_callV (q' := m_20) (ix := 422) (n := 0) (in_t4 (List.mem_of_getElem? (i := 62) rfl) rfl) good_w (in_t1 (List.mem_of_getElem? (i := 5) rfl) rfl) (in_t4 (List.mem_of_getElem? (i := 59) rfl) rfl) (in_t4 (List.mem_of_getElem? (i := 60) rfl) rfl) (in_t4 (List.mem_of_getElem? (i := 61) rfl) rfl) (by decide +kernel) (by decide +kernel) (by decide +kernel) (x_dk dl_32_ok 14 rfl))))
  (x_Tok2
  (x_Lok (x_st (I := xI) (xr_aload_n (i := 0) (x_dk dl_32_ok 15 rfl))))
  (x_Lok (x_st (I := xI) (xr_getf (ci := 11) (k := 4) (ix := 37) (N := 15) (C := RX11) (T := TX11) rfl in_X11 (by decide) (in_t4 (List.mem_of_getElem? (i := 112) rfl) rfl) (x_dk dl_32_ok 16 rfl))))))
  (x_Tok2
  (x_Tok2
  (x_Lok (x_ca (I := xI) (q' := m_15) rfl (xr_callV (q' := m_15) (ix := 423) (n := 0) (in_t4 (List.mem_of_getElem? (i := 74) rfl) rfl) good_w (in_t1 (List.mem_of_getElem? (i := 6) rfl) rfl) (in_t4 (List.mem_of_getElem? (i := 71) rfl) rfl) (in_t4 (List.mem_of_getElem? (i := 72) rfl) rfl) (in_t4 (List.mem_of_getElem? (i := 73) rfl) rfl) (by decide +kernel) (by decide +kernel) (by decide +kernel) (x_dk dl_32_ok 17 rfl))))
  (x_Lok (x_st (I := xI) (xr_aload_n (i := 0) (x_dk dl_32_ok 18 rfl)))))
  (x_Tok2
  (x_Lok (x_st (I := xI) (xr_getf (ci := 11) (k := 5) (ix := 42) (N := 15) (C := RX11) (T := TX11) rfl in_X11 (by decide) (in_t4 (List.mem_of_getElem? (i := 113) rfl) rfl) (x_dk dl_32_ok 19 rfl))))
  (x_Lok (x_ca (I := xI) (q' := m_11) rfl (xr_callV (q' := m_11) (ix := 424) (n := 0) (in_t4 (List.mem_of_getElem? (i := 90) rfl) rfl) good_w (in_t1 (List.mem_of_getElem? (i := 7) rfl) rfl) (in_t4 (List.mem_of_getElem? (i := 87) rfl) rfl) (in_t4 (List.mem_of_getElem? (i := 88) rfl) rfl) (in_t4 (List.mem_of_getElem? (i := 89) rfl) rfl) (by decide +kernel) (by decide +kernel) (by decide +kernel) (x_dk dl_32_ok 20 rfl)))))))
  (x_Tok2
  (x_Tok2
  (x_Tok2
  (x_Lok (x_st (I := xI) (xr_aload_n (i := 0) (x_dk dl_32_ok 21 rfl))))
  (x_Lok (x_st (I := xI) (xr_getf (ci := 11) (k := 1) (ix := 19) (N := 15) (C := RX11) (T := TX11) rfl in_X11 (by decide) (in_t4 (List.mem_of_getElem? (i := 109) rfl) rfl) (x_dk dl_32_ok 22 rfl)))))
  (x_Tok2
  (x_Lok (x_ca (I := xI) (q' := m_13) rfl (xr_callV (q' := m_13) (ix := 425) (n := 0) (in_t4 (List.mem_of_getElem? (i := 94) rfl) rfl) good_w (in_t1 (List.mem_of_getElem? (i := 4) rfl) rfl) (in_t4 (List.mem_of_getElem? (i := 91) rfl) rfl) (in_t4 (List.mem_of_getElem? (i := 92) rfl) rfl) (in_t4 (List.mem_of_getElem? (i := 93) rfl) rfl) (by decide +kernel) (by decide +kernel) (by decide +kernel) (x_dk dl_32_ok 23 rfl))))
  (x_Lok (x_st (I := xI) (xr_aload_n (i := 0) (x_dk dl_32_ok 24 rfl))))))
  (x_Tok2
  (x_Tok2
  (x_Lok (x_st (I := xI) (xr_getf (ci := 11) (k := 8) (ix := 57) (N := 15) (C := RX11) (T := TX11) rfl in_X11 (by decide) (in_t4 (List.mem_of_getElem? (i := 116) rfl) rfl) (x_dk dl_32_ok 25 rfl))))
  (x_Lok (x_st (I := xI) (xr_iconst (n := 0) (z := 0) (v := 0) (x_dk dl_32_ok 26 rfl) (by decide) (by decide)))))
  (x_Tok2
  (x_Lok (x_ca (I := xI) (q' := m_33) rfl (xr_callS (q' := m_33) (ix := 415) (n := 2) (in_t4 (List.mem_of_getElem? (i := 9) rfl) rfl) good_w (in_t1 (List.mem_of_getElem? (i := 13) rfl) rfl) (in_t4 (List.mem_of_getElem? (i := 53) rfl) rfl) (in_t4 (List.mem_of_getElem? (i := 8) rfl) rfl) (by decide +kernel) (by decide +kernel) (x_dk dl_32_ok 27 rfl))))
  (x_Lok (x_rt (I := xI) (k := 0) ⟨(x_dk dl_32_ok 28 rfl), rfl⟩)))))))
def tb_32 : Nat → xE := tb_32_0
theorem tb_32_ok (K : xKx) : ∀ pc, x_EOq cls K xI m_32 pc (tb_32 pc) := tb_32_0_ok K
def dl_33 : List (Nat × Instr × Nat) := [(0, .iconst 0, 1), (1, .istore_n 2, 1), (2, .aload_n 0, 1), (3, .arraylength, 1), (4, .istore_n 3, 1), (5, .iload_n 2, 1), (6, .iload_n 3, 1), (7, .if_icmp .ge 13, 3), (10, .aload_n 0, 1), (11, .iload_n 2, 1), (12, .iload_n 1, 1), (13, .iastore, 1), (14, .iinc 2 1, 3), (17, .goto (-12), 3), (20, .return_, 1)]
set_option maxRecDepth 20000 in
theorem dl_33_ok : dl_33.all (fun q => decide (decode prog_20_method_103_code q.1 = .ok (q.2.1, q.2.2))) = true := by decide +kernel
def tb_33_0 : Nat → xE := (x_T 6 (x_T 2 (x_T 0 (x_L 0 (0, xi_push (0, 0, 0) 1, 0, 0)) (x_T 1 (x_L 1 (0, xi_stor 2 0 2, 0, 0)) (x_L 2 (0, xi_load 0 2 3, 0, 0)))) (x_T 4 (x_T 3 (x_L 3 (0, xi_alen 4, 0, 0)) (x_L 4 (0, xi_stor 3 0 5, 0, 0))) (x_T 5 (x_L 5 (0, xi_load 2 0 6, 0, 0)) (x_L 6 (0, xi_load 3 0 7, 0, 0))))) (x_T 12 (x_T 10 (x_T 7 (x_L 7 (0, xi_if2 3 20 10, 0, 0)) (x_L 10 (0, xi_load 0 2 11, 0, 0))) (x_T 11 (x_L 11 (0, xi_load 2 0 12, 0, 0)) (x_L 12 (0, xi_load 1 0 13, 0, 0)))) (x_T 14 (x_T 13 (x_L 13 (0, xi_ast false 14, 0, 0)) (x_L 14 (0, xi_inc 2 1 17, 0, 0))) (x_T 17 (x_L 17 (0, xi_goto 5, 0, 0)) (x_L 20 (1, x_nof, 0, 0))))))
set_option maxRecDepth 20000 in
set_option maxHeartbeats 4000000 in
theorem tb_33_0_ok (K : xKx) : ∀ pc, x_EOq cls K xI m_33 pc (tb_33_0 pc) :=
  (x_Tok2
  (x_Tok2
  (x_Tok2
  (x_Lok (x_st (I := xI) (xr_iconst (n := 0) (z := 0) (v := 0) (x_dk dl_33_ok 0 rfl) (by decide) (by decide))))
  (x_Tok2
  (x_Lok (x_st (I := xI) (xr_istore_n (i := 2) (x_dk dl_33_ok 1 rfl) (by decide +kernel))))
  (x_Lok (x_st (I := xI) (xr_aload_n (i := 0) (x_dk dl_33_ok 2 rfl))))))
  (x_Tok2
  (x_Tok2
  (x_Lok (x_st (I := xI) (xr_alen (x_dk dl_33_ok 3 rfl))))
  (x_Lok (x_st (I := xI) (xr_istore_n (i := 3) (x_dk dl_33_ok 4 rfl) (by decide +kernel)))))
  (x_Tok2
  (x_Lok (x_st (I := xI) (xr_iload_n (i := 2) (x_dk dl_33_ok 5 rfl))))
  (x_Lok (x_st (I := xI) (xr_iload_n (i := 3) (x_dk dl_33_ok 6 rfl)))))))
  (x_Tok2
  (x_Tok2
  (x_Tok2
  (x_Lok (x_st (I := xI) (xr_icmpge (off := 13) (tg := 20) (x_dk dl_33_ok 7 rfl) (by decide))))
  (x_Lok (x_st (I := xI) (xr_aload_n (i := 0) (x_dk dl_33_ok 8 rfl)))))
  (x_Tok2
  (x_Lok (x_st (I := xI) (xr_iload_n (i := 2) (x_dk dl_33_ok 9 rfl))))
  (x_Lok (x_st (I := xI) (xr_iload_n (i := 1) (x_dk dl_33_ok 10 rfl))))))
  (x_Tok2
  (x_Tok2
  (x_Lok (x_st (I := xI) (xr_iastore (x_dk dl_33_ok 11 rfl))))
  (x_Lok (x_st (I := xI) (xr_iinc (i := 2) (n := 1) (x_dk dl_33_ok 12 rfl) (by decide +kernel) (by decide)))))
  (x_Tok2
  (x_Lok (x_st (I := xI) (xr_goto (off := (-12)) (tg := 5) (x_dk dl_33_ok 13 rfl) (by decide))))
  (x_Lok (x_rt (I := xI) (k := 0) ⟨(x_dk dl_33_ok 14 rfl), rfl⟩))))))
def tb_33 : Nat → xE := tb_33_0
theorem tb_33_ok (K : xKx) : ∀ pc, x_EOq cls K xI m_33 pc (tb_33 pc) := tb_33_0_ok K
