def dl_1 : List (Nat × Instr × Nat) := [(0, .aload_n 0, 1), (1, .invokespecial 3, 3), (4, .aload_n 0, 1), (5, .bipush 6, 2), (7, .anewarray 9, 3), (10, .putfield 11, 3), (13, .aload_n 0, 1), (14, .bipush 8, 2), (16, .newarray .int, 2), (18, .putfield 17, 3), (21, .aload_n 0, 1), (22, .bipush 8, 2), (24, .newarray .int, 2), (26, .putfield 21, 3), (29, .aload_n 0, 1), (30, .bipush 7, 2), (32, .newarray .int, 2), (34, .putfield 24, 3), (37, .aload_n 0, 1), (38, .bipush 7, 2), (40, .newarray .int, 2), (42, .putfield 27, 3), (45, .aload_n 0, 1), (46, .bipush 7, 2), (48, .newarray .int, 2), (50, .putfield 30, 3), (53, .aload_n 0, 1), (54, .bipush 32, 2), (56, .newarray .int, 2), (58, .putfield 33, 3), (61, .aload_n 0, 1), (62, .new 36, 3), (65, .dup, 1), (66, .invokespecial 38, 3), (69, .putfield 39, 3), (72, .iconst 0, 1), (73, .istore_n 1, 1), (74, .iload_n 1, 1), (75, .bipush 6, 2), (77, .if_icmp .ge 22, 3), (80, .aload_n 0, 1), (81, .getfield 11, 3), (84, .iload_n 1, 1), (85, .new 9, 3), (88, .dup, 1), (89, .invokespecial 43, 3), (92, .aastore, 1), (93, .iinc 1 1, 3), (96, .goto (-22), 3), (99, .return_, 1)]
set_option maxRecDepth 20000 in
theorem dl_1_ok : dl_1.all (fun q => decide (decode prog_2_method_1_code q.1 = .ok (q.2.1, q.2.2))) = true := by decide +kernel
def tb_1_0 : Nat → xE := (x_T 22 (x_T 10 (x_T 4 (x_T 0 (x_L 0 (0, xi_load 0 2 1, 0, 0)) (x_T 1 (x_L 1 (0, xi_oi 4, 0, 0)) (x_L 4 (0, xi_load 0 2 5, 0, 0)))) (x_T 5 (x_L 5 (0, xi_push (0, 6, 6) 7, 0, 0)) (x_T 7 (x_L 7 (0, xi_newa 5 5 (2, 0, 0) (xm_c m_1) (xm_s m_1) 10, 0, 0)) (x_L 10 (0, xi_putf 0 0 2 13, 0, 0))))) (x_T 16 (x_T 13 (x_L 13 (0, xi_load 0 2 14, 0, 0)) (x_T 14 (x_L 14 (0, xi_push (0, 8, 8) 16, 0, 0)) (x_L 16 (0, xi_newa 1 0 (0, 0, 0) (xm_c m_1) (xm_s m_1) 18, 0, 0)))) (x_T 18 (x_L 18 (0, xi_putf 0 1 2 21, 0, 0)) (x_T 21 (x_L 21 (0, xi_load 0 2 22, 0, 0)) (x_L 22 (0, xi_push (0, 8, 8) 24, 0, 0)))))) (x_T 34 (x_T 29 (x_T 24 (x_L 24 (0, xi_newa 1 0 (0, 0, 0) (xm_c m_1) (xm_s m_1) 26, 0, 0)) (x_T 26 (x_L 26 (0, xi_putf 0 2 2 29, 0, 0)) (x_L 29 (0, xi_load 0 2 30, 0, 0)))) (x_T 30 (x_L 30 (0, xi_push (0, 7, 7) 32, 0, 0)) (x_T 32 (x_L 32 (0, xi_newa 1 0 (0, 0, 0) (xm_c m_1) (xm_s m_1) 34, 0, 0)) (x_L 34 (0, xi_putf 0 3 2 37, 0, 0))))) (x_T 40 (x_T 37 (x_L 37 (0, xi_load 0 2 38, 0, 0)) (x_T 38 (x_L 38 (0, xi_push (0, 7, 7) 40, 0, 0)) (x_L 40 (0, xi_newa 1 0 (0, 0, 0) (xm_c m_1) (xm_s m_1) 42, 0, 0)))) (x_T 45 (x_T 42 (x_L 42 (0, xi_putf 0 4 2 45, 0, 0)) (x_L 45 (0, xi_load 0 2 46, 0, 0))) (x_T 46 (x_L 46 (0, xi_push (0, 7, 7) 48, 0, 0)) (x_L 48 (0, xi_newa 1 0 (0, 0, 0) (xm_c m_1) (xm_s m_1) 50, 0, 0)))))))
set_option maxRecDepth 20000 in
set_option maxHeartbeats 4000000 in
theorem tb_1_0_ok (K : xKx) : ∀ pc, x_EOq cls K xI m_1 pc (tb_1_0 pc) :=
  (x_Tok2
  (x_Tok2
  (x_Tok2
  (x_Tok2
  (x_Lok (x_st (I := xI) (xr_aload_n (i := 0) (x_dk dl_1_ok 0 rfl))))
  (x_Tok2
  (x_Lok (x_st (I := xI) (xr_oi (ix := 3) (in_t2 (List.mem_of_getElem? (i := 78) rfl) rfl) (in_t1 (List.mem_of_getElem? (i := 27) rfl) rfl) (in_t1 (List.mem_of_getElem? (i := 28) rfl) rfl) (x_dk dl_1_ok 1 rfl))))
  (x_Lok (x_st (I := xI) (xr_aload_n (i := 0) (x_dk dl_1_ok 2 rfl))))))
  (x_Tok2
  (x_Lok (x_st (I := xI) (xr_bipush (n := 6) (z := 6) (v := 6) (x_dk dl_1_ok 3 rfl) (by decide) (by decide))))
  (x_Tok2
  (x_Lok (x_st (I := xI) (xr_newq (ci := 5) (ix := 9) (r := (RX5, TX5, 12)) rfl (in_t2 (List.mem_of_getElem? (i := 79) rfl) rfl) (fun U h => h.1.1) (x_dk dl_1_ok 4 rfl))))
  (x_Lok (x_st (I := xI) (xr_putF (ci := 0) (k := 0) (ix := 11) (N := 20) (fk := 2) (C := RX0) (T := TX0) (ty0 := tyX0) (ty := .array (.object "RobotCellHouse$Joint")) rfl in_X0 tyX0_ok nmX0 (by decide) (in_t2 (List.mem_of_getElem? (i := 144) rfl) rfl) rfl rfl rfl rfl x_fit_arr (x_dk dl_1_ok 5 rfl)))))))
  (x_Tok2
  (x_Tok2
  (x_Lok (x_st (I := xI) (xr_aload_n (i := 0) (x_dk dl_1_ok 6 rfl))))
  (x_Tok2
  (x_Lok (x_st (I := xI) (xr_bipush (n := 8) (z := 8) (v := 8) (x_dk dl_1_ok 7 rfl) (by decide) (by decide))))
  (x_Lok (x_st (I := xI) (xr_newa (kd := 1) (b := false) (ty := .int) rfl rfl (in_t1 (List.mem_of_getElem? (i := 64) rfl) rfl) (x_dk dl_1_ok 8 rfl))))))
  (x_Tok2
  (x_Lok (x_st (I := xI) (xr_putF (ci := 0) (k := 1) (ix := 17) (N := 20) (fk := 2) (C := RX0) (T := TX0) (ty0 := tyX0) (ty := .array .int) rfl in_X0 tyX0_ok nmX0 (by decide) (in_t2 (List.mem_of_getElem? (i := 148) rfl) rfl) rfl rfl rfl rfl x_fit_arr (x_dk dl_1_ok 9 rfl))))
  (x_Tok2
  (x_Lok (x_st (I := xI) (xr_aload_n (i := 0) (x_dk dl_1_ok 10 rfl))))
  (x_Lok (x_st (I := xI) (xr_bipush (n := 8) (z := 8) (v := 8) (x_dk dl_1_ok 11 rfl) (by decide) (by decide))))))))
  (x_Tok2
  (x_Tok2
  (x_Tok2
  (x_Lok (x_st (I := xI) (xr_newa (kd := 1) (b := false) (ty := .int) rfl rfl (in_t1 (List.mem_of_getElem? (i := 64) rfl) rfl) (x_dk dl_1_ok 12 rfl))))
  (x_Tok2
  (x_Lok (x_st (I := xI) (xr_putF (ci := 0) (k := 2) (ix := 21) (N := 20) (fk := 2) (C := RX0) (T := TX0) (ty0 := tyX0) (ty := .array .int) rfl in_X0 tyX0_ok nmX0 (by decide) (in_t2 (List.mem_of_getElem? (i := 152) rfl) rfl) rfl rfl rfl rfl x_fit_arr (x_dk dl_1_ok 13 rfl))))
  (x_Lok (x_st (I := xI) (xr_aload_n (i := 0) (x_dk dl_1_ok 14 rfl))))))
  (x_Tok2
  (x_Lok (x_st (I := xI) (xr_bipush (n := 7) (z := 7) (v := 7) (x_dk dl_1_ok 15 rfl) (by decide) (by decide))))
  (x_Tok2
  (x_Lok (x_st (I := xI) (xr_newa (kd := 1) (b := false) (ty := .int) rfl rfl (in_t1 (List.mem_of_getElem? (i := 64) rfl) rfl) (x_dk dl_1_ok 16 rfl))))
  (x_Lok (x_st (I := xI) (xr_putF (ci := 0) (k := 3) (ix := 24) (N := 20) (fk := 2) (C := RX0) (T := TX0) (ty0 := tyX0) (ty := .array .int) rfl in_X0 tyX0_ok nmX0 (by decide) (in_t2 (List.mem_of_getElem? (i := 156) rfl) rfl) rfl rfl rfl rfl x_fit_arr (x_dk dl_1_ok 17 rfl)))))))
  (x_Tok2
  (x_Tok2
  (x_Lok (x_st (I := xI) (xr_aload_n (i := 0) (x_dk dl_1_ok 18 rfl))))
  (x_Tok2
  (x_Lok (x_st (I := xI) (xr_bipush (n := 7) (z := 7) (v := 7) (x_dk dl_1_ok 19 rfl) (by decide) (by decide))))
  (x_Lok (x_st (I := xI) (xr_newa (kd := 1) (b := false) (ty := .int) rfl rfl (in_t1 (List.mem_of_getElem? (i := 64) rfl) rfl) (x_dk dl_1_ok 20 rfl))))))
  (x_Tok2
  (x_Tok2
  (x_Lok (x_st (I := xI) (xr_putF (ci := 0) (k := 4) (ix := 27) (N := 20) (fk := 2) (C := RX0) (T := TX0) (ty0 := tyX0) (ty := .array .int) rfl in_X0 tyX0_ok nmX0 (by decide) (in_t2 (List.mem_of_getElem? (i := 158) rfl) rfl) rfl rfl rfl rfl x_fit_arr (x_dk dl_1_ok 21 rfl))))
  (x_Lok (x_st (I := xI) (xr_aload_n (i := 0) (x_dk dl_1_ok 22 rfl)))))
  (x_Tok2
  (x_Lok (x_st (I := xI) (xr_bipush (n := 7) (z := 7) (v := 7) (x_dk dl_1_ok 23 rfl) (by decide) (by decide))))
  (x_Lok (x_st (I := xI) (xr_newa (kd := 1) (b := false) (ty := .int) rfl rfl (in_t1 (List.mem_of_getElem? (i := 64) rfl) rfl) (x_dk dl_1_ok 24 rfl)))))))))
def tb_1_25 : Nat → xE := (x_T 73 (x_T 61 (x_T 54 (x_T 50 (x_L 50 (0, xi_putf 0 5 2 53, 0, 0)) (x_T 53 (x_L 53 (0, xi_load 0 2 54, 0, 0)) (x_L 54 (0, xi_push (0, 32, 32) 56, 0, 0)))) (x_T 56 (x_L 56 (0, xi_newa 1 0 (0, 0, 0) (xm_c m_1) (xm_s m_1) 58, 0, 0)) (x_T 58 (x_L 58 (0, xi_putf 0 6 2 61, 0, 0)) (x_L 61 (0, xi_load 0 2 62, 0, 0))))) (x_T 66 (x_T 62 (x_L 62 (0, xi_new (x_nc 1 ks_X1) (xm_c m_1) (xm_s m_1) 65, 0, 0)) (x_T 65 (x_L 65 (0, xi_stk xf_dup 66, 0, 0)) (x_L 66 (2, x_nof, 7, 1)))) (x_T 69 (x_L 69 (0, xi_putf 0 7 2 72, 0, 0)) (x_T 72 (x_L 72 (0, xi_push (0, 0, 0) 73, 0, 0)) (x_L 73 (0, xi_stor 1 0 74, 0, 0)))))) (x_T 84 (x_T 77 (x_T 74 (x_L 74 (0, xi_load 1 0 75, 0, 0)) (x_T 75 (x_L 75 (0, xi_push (0, 6, 6) 77, 0, 0)) (x_L 77 (0, xi_if2 3 99 80, 0, 0)))) (x_T 80 (x_L 80 (0, xi_load 0 2 81, 0, 0)) (x_T 81 (x_L 81 (0, xi_getf 0 0 84, 0, 0)) (x_L 84 (0, xi_load 1 0 85, 0, 0))))) (x_T 89 (x_T 85 (x_L 85 (0, xi_new (x_nc 5 ks_X5) (xm_c m_1) (xm_s m_1) 88, 0, 0)) (x_T 88 (x_L 88 (0, xi_stk xf_dup 89, 0, 0)) (x_L 89 (2, x_nof, 16, 1)))) (x_T 93 (x_T 92 (x_L 92 (0, xi_aast 93, 0, 0)) (x_L 93 (0, xi_inc 1 1 96, 0, 0))) (x_T 96 (x_L 96 (0, xi_goto 74, 0, 0)) (x_L 99 (1, x_nof, 0, 0)))))))
set_option maxRecDepth 20000 in
set_option maxHeartbeats 4000000 in
theorem tb_1_25_ok (K : xKx) : ∀ pc, x_EOq cls K xI m_1 pc (tb_1_25 pc) :=
  (x_Tok2
  (x_Tok2
  (x_Tok2
  (x_Tok2
  (x_Lok (x_st (I := xI) (xr_putF (ci := 0) (k := 5) (ix := 30) (N := 20) (fk := 2) (C := RX0) (T := TX0) (ty0 := tyX0) (ty := .array .int) rfl in_X0 tyX0_ok nmX0 (by decide) (in_t2 (List.mem_of_getElem? (i := 160) rfl) rfl) rfl rfl rfl rfl x_fit_arr (x_dk dl_1_ok 25 rfl))))
  (x_Tok2
  (x_Lok (x_st (I := xI) (xr_aload_n (i := 0) (x_dk dl_1_ok 26 rfl))))
  (x_Lok (x_st (I := xI) (xr_bipush (n := 32) (z := 32) (v := 32) (x_dk dl_1_ok 27 rfl) (by decide) (by decide))))))
  (x_Tok2
  (x_Lok (x_st (I := xI) (xr_newa (kd := 1) (b := false) (ty := .int) rfl rfl (in_t1 (List.mem_of_getElem? (i := 64) rfl) rfl) (x_dk dl_1_ok 28 rfl))))
  (x_Tok2
  (x_Lok (x_st (I := xI) (xr_putF (ci := 0) (k := 6) (ix := 33) (N := 20) (fk := 2) (C := RX0) (T := TX0) (ty0 := tyX0) (ty := .array .int) rfl in_X0 tyX0_ok nmX0 (by decide) (in_t2 (List.mem_of_getElem? (i := 162) rfl) rfl) rfl rfl rfl rfl x_fit_arr (x_dk dl_1_ok 29 rfl))))
  (x_Lok (x_st (I := xI) (xr_aload_n (i := 0) (x_dk dl_1_ok 30 rfl)))))))
  (x_Tok2
  (x_Tok2
  (x_Lok (x_st (I := xI) (xr_new (ci := 1) (ix := 36) (N := 5) (C := RX1) (T := TX1) (ty0 := tyX1) (ks := ks_X1) rfl in_X1 tyX1_ok (in_t2 (List.mem_of_getElem? (i := 81) rfl) rfl) (in_t1 (List.mem_of_getElem? (i := 36) rfl) rfl) (in_t1 (List.mem_of_getElem? (i := 3) rfl) rfl) rfl df_X1 (x_dk dl_1_ok 31 rfl))))
  (x_Tok2
  (x_Lok (x_st (I := xI) (xr_dup (x_dk dl_1_ok 32 rfl))))
  (x_Lok (x_ca (I := xI) (q' := m_7) rfl (xr_callIN (q' := m_7) (ix := 38) (n := 0) (host := "RobotCellHouse") (in_t1 (List.mem_of_getElem? (i := 39) rfl) rfl) good_w (in_t1 (List.mem_of_getElem? (i := 3) rfl) rfl) (List.mem_of_getElem? (i := 5) rfl) (in_t1 (List.mem_of_getElem? (i := 38) rfl) rfl) rfl rfl (by decide +kernel) (by decide +kernel) (by decide +kernel) (x_dk dl_1_ok 33 rfl))))))
  (x_Tok2
  (x_Lok (x_st (I := xI) (xr_putf (ci := 0) (k := 7) (ix := 39) (N := 20) (fk := 2) (C := RX0) (T := TX0) (ty0 := tyX0) (ty := .object "RobotCellHouse$Code") rfl in_X0 tyX0_ok nmX0 (by decide) (in_t2 (List.mem_of_getElem? (i := 165) rfl) rfl) rfl rfl x_fit_obj (x_dk dl_1_ok 34 rfl))))
  (x_Tok2
  (x_Lok (x_st (I := xI) (xr_iconst (n := 0) (z := 0) (v := 0) (x_dk dl_1_ok 35 rfl) (by decide) (by decide))))
  (x_Lok (x_st (I := xI) (xr_istore_n (i := 1) (x_dk dl_1_ok 36 rfl) (by decide +kernel))))))))
  (x_Tok2
  (x_Tok2
  (x_Tok2
  (x_Lok (x_st (I := xI) (xr_iload_n (i := 1) (x_dk dl_1_ok 37 rfl))))
  (x_Tok2
  (x_Lok (x_st (I := xI) (xr_bipush (n := 6) (z := 6) (v := 6) (x_dk dl_1_ok 38 rfl) (by decide) (by decide))))
  (x_Lok (x_st (I := xI) (xr_icmpge (off := 22) (tg := 99) (x_dk dl_1_ok 39 rfl) (by decide))))))
  (x_Tok2
  (x_Lok (x_st (I := xI) (xr_aload_n (i := 0) (x_dk dl_1_ok 40 rfl))))
  (x_Tok2
  (x_Lok (x_st (I := xI) (xr_getf (ci := 0) (k := 0) (ix := 11) (N := 20) (C := RX0) (T := TX0) rfl in_X0 (by decide) (in_t2 (List.mem_of_getElem? (i := 144) rfl) rfl) (x_dk dl_1_ok 41 rfl))))
  (x_Lok (x_st (I := xI) (xr_iload_n (i := 1) (x_dk dl_1_ok 42 rfl)))))))
  (x_Tok2
  (x_Tok2
  (x_Lok (x_st (I := xI) (xr_new (ci := 5) (ix := 9) (N := 12) (C := RX5) (T := TX5) (ty0 := tyX5) (ks := ks_X5) rfl in_X5 tyX5_ok (in_t2 (List.mem_of_getElem? (i := 79) rfl) rfl) (in_t2 (List.mem_of_getElem? (i := 83) rfl) rfl) (in_t1 (List.mem_of_getElem? (i := 9) rfl) rfl) rfl df_X5 (x_dk dl_1_ok 43 rfl))))
  (x_Tok2
  (x_Lok (x_st (I := xI) (xr_dup (x_dk dl_1_ok 44 rfl))))
  (x_Lok (x_ca (I := xI) (q' := m_16) rfl (xr_callIN (q' := m_16) (ix := 43) (n := 0) (host := "RobotCellHouse") (in_t2 (List.mem_of_getElem? (i := 86) rfl) rfl) good_w (in_t1 (List.mem_of_getElem? (i := 9) rfl) rfl) (List.mem_of_getElem? (i := 6) rfl) (in_t2 (List.mem_of_getElem? (i := 85) rfl) rfl) rfl rfl (by decide +kernel) (by decide +kernel) (by decide +kernel) (x_dk dl_1_ok 45 rfl))))))
  (x_Tok2
  (x_Tok2
  (x_Lok (x_st (I := xI) (xr_aastore (x_dk dl_1_ok 46 rfl))))
  (x_Lok (x_st (I := xI) (xr_iinc (i := 1) (n := 1) (x_dk dl_1_ok 47 rfl) (by decide +kernel) (by decide)))))
  (x_Tok2
  (x_Lok (x_st (I := xI) (xr_goto (off := (-22)) (tg := 74) (x_dk dl_1_ok 48 rfl) (by decide))))
  (x_Lok (x_rt (I := xI) (k := 0) ⟨(x_dk dl_1_ok 49 rfl), rfl⟩)))))))
def tb_1 : Nat → xE := (x_T 48 tb_1_0 tb_1_25)
theorem tb_1_ok (K : xKx) : ∀ pc, x_EOq cls K xI m_1 pc (tb_1 pc) := (x_Tok2 (tb_1_0_ok K) (tb_1_25_ok K))
def dl_2 : List (Nat × Instr × Nat) := [(0, .aload_n 0, 1), (1, .iconst 0, 1), (2, .putfield 44, 3), (5, .aload_n 0, 1), (6, .getfield 17, 3), (9, .iconst 0, 1), (10, .iload_n 1, 1), (11, .iastore, 1), (12, .aload_n 0, 1), (13, .getfield 21, 3), (16, .iconst 0, 1), (17, .iload_n 2, 1), (18, .iastore, 1), (19, .aload_n 0, 1), (20, .iload_n 3, 1), (21, .putfield 48, 3), (24, .aload_n 0, 1), (25, .iload 4, 2), (27, .putfield 51, 3), (30, .aload_n 0, 1), (31, .getfield 30, 3), (34, .iconst 0, 1), (35, .invokestatic 54, 3), (38, .aload_n 0, 1), (39, .getfield 39, 3), (42, .invokevirtual 60, 3), (45, .aload_n 0, 1), (46, .invokevirtual 63, 3), (49, .return_, 1)]
set_option maxRecDepth 20000 in
theorem dl_2_ok : dl_2.all (fun q => decide (decode prog_2_method_2_code q.1 = .ok (q.2.1, q.2.2))) = true := by decide +kernel
def tb_2_0 : Nat → xE := (x_T 19 (x_T 10 (x_T 2 (x_T 0 (x_L 0 (0, xi_load 0 2 1, 0, 0)) (x_T 1 (x_L 1 (0, xi_push (0, 0, 0) 2, 0, 0)) (x_L 2 (0, xi_putf 0 8 0 5, 0, 0)))) (x_T 6 (x_T 5 (x_L 5 (0, xi_load 0 2 6, 0, 0)) (x_L 6 (0, xi_getf 0 1 9, 0, 0))) (x_T 9 (x_L 9 (0, xi_push (0, 0, 0) 10, 0, 0)) (x_L 10 (0, xi_load 1 0 11, 0, 0))))) (x_T 13 (x_T 11 (x_L 11 (0, xi_ast false 12, 0, 0)) (x_T 12 (x_L 12 (0, xi_load 0 2 13, 0, 0)) (x_L 13 (0, xi_getf 0 2 16, 0, 0)))) (x_T 17 (x_T 16 (x_L 16 (0, xi_push (0, 0, 0) 17, 0, 0)) (x_L 17 (0, xi_load 2 0 18, 0, 0))) (x_T 18 (x_L 18 (0, xi_ast false 19, 0, 0)) (x_L 19 (0, xi_load 0 2 20, 0, 0)))))) (x_T 31 (x_T 24 (x_T 20 (x_L 20 (0, xi_load 3 0 21, 0, 0)) (x_T 21 (x_L 21 (0, xi_putf 0 9 0 24, 0, 0)) (x_L 24 (0, xi_load 0 2 25, 0, 0)))) (x_T 27 (x_T 25 (x_L 25 (0, xi_load 4 0 27, 0, 0)) (x_L 27 (0, xi_putf 0 10 0 30, 0, 0))) (x_T 30 (x_L 30 (0, xi_load 0 2 31, 0, 0)) (x_L 31 (0, xi_getf 0 5 34, 0, 0))))) (x_T 39 (x_T 35 (x_T 34 (x_L 34 (0, xi_push (0, 0, 0) 35, 0, 0)) (x_L 35 (2, x_nof, 33, 2))) (x_T 38 (x_L 38 (0, xi_load 0 2 39, 0, 0)) (x_L 39 (0, xi_getf 0 7 42, 0, 0)))) (x_T 45 (x_T 42 (x_L 42 (2, x_nof, 8, 1)) (x_L 45 (0, xi_load 0 2 46, 0, 0))) (x_T 46 (x_L 46 (2, x_nof, 3, 1)) (x_L 49 (1, x_nof, 0, 0)))))))
set_option maxRecDepth 20000 in
set_option maxHeartbeats 4000000 in
theorem tb_2_0_ok (K : xKx) : ∀ pc, x_EOq cls K xI m_2 pc (tb_2_0 pc) :=
  (x_Tok2
  (x_Tok2
  (x_Tok2
  (x_Tok2
  (x_Lok (x_st (I := xI) (xr_aload_n (i := 0) (x_dk dl_2_ok 0 rfl))))
  (x_Tok2
  (x_Lok (x_st (I := xI) (xr_iconst (n := 0) (z := 0) (v := 0) (x_dk dl_2_ok 1 rfl) (by decide) (by decide))))
  (x_Lok (x_st (I := xI) (xr_putf (ci := 0) (k := 8) (ix := 44) (N := 20) (fk := 0) (C := RX0) (T := TX0) (ty0 := tyX0) (ty := .int) rfl in_X0 tyX0_ok nmX0 (by decide) (in_t2 (List.mem_of_getElem? (i := 168) rfl) rfl) rfl rfl x_fit_int (x_dk dl_2_ok 2 rfl))))))
  (x_Tok2
  (x_Tok2
  (x_Lok (x_st (I := xI) (xr_aload_n (i := 0) (x_dk dl_2_ok 3 rfl))))
  (x_Lok (x_st (I := xI) (xr_getf (ci := 0) (k := 1) (ix := 17) (N := 20) (C := RX0) (T := TX0) rfl in_X0 (by decide) (in_t2 (List.mem_of_getElem? (i := 148) rfl) rfl) (x_dk dl_2_ok 4 rfl)))))
  (x_Tok2
  (x_Lok (x_st (I := xI) (xr_iconst (n := 0) (z := 0) (v := 0) (x_dk dl_2_ok 5 rfl) (by decide) (by decide))))
  (x_Lok (x_st (I := xI) (xr_iload_n (i := 1) (x_dk dl_2_ok 6 rfl)))))))
  (x_Tok2
  (x_Tok2
  (x_Lok (x_st (I := xI) (xr_iastore (x_dk dl_2_ok 7 rfl))))
  (x_Tok2
  (x_Lok (x_st (I := xI) (xr_aload_n (i := 0) (x_dk dl_2_ok 8 rfl))))
  (x_Lok (x_st (I := xI) (xr_getf (ci := 0) (k := 2) (ix := 21) (N := 20) (C := RX0) (T := TX0) rfl in_X0 (by decide) (in_t2 (List.mem_of_getElem? (i := 152) rfl) rfl) (x_dk dl_2_ok 9 rfl))))))
  (x_Tok2
  (x_Tok2
  (x_Lok (x_st (I := xI) (xr_iconst (n := 0) (z := 0) (v := 0) (x_dk dl_2_ok 10 rfl) (by decide) (by decide))))
  (x_Lok (x_st (I := xI) (xr_iload_n (i := 2) (x_dk dl_2_ok 11 rfl)))))
  (x_Tok2
  (x_Lok (x_st (I := xI) (xr_iastore (x_dk dl_2_ok 12 rfl))))
  (x_Lok (x_st (I := xI) (xr_aload_n (i := 0) (x_dk dl_2_ok 13 rfl))))))))
  (x_Tok2
  (x_Tok2
  (x_Tok2
  (x_Lok (x_st (I := xI) (xr_iload_n (i := 3) (x_dk dl_2_ok 14 rfl))))
  (x_Tok2
  (x_Lok (x_st (I := xI) (xr_putf (ci := 0) (k := 9) (ix := 48) (N := 20) (fk := 0) (C := RX0) (T := TX0) (ty0 := tyX0) (ty := .int) rfl in_X0 tyX0_ok nmX0 (by decide) (in_t2 (List.mem_of_getElem? (i := 173) rfl) rfl) rfl rfl x_fit_int (x_dk dl_2_ok 15 rfl))))
  (x_Lok (x_st (I := xI) (xr_aload_n (i := 0) (x_dk dl_2_ok 16 rfl))))))
  (x_Tok2
  (x_Tok2
  (x_Lok (x_st (I := xI) (xr_iload (i := 4) (x_dk dl_2_ok 17 rfl))))
  (x_Lok (x_st (I := xI) (xr_putf (ci := 0) (k := 10) (ix := 51) (N := 20) (fk := 0) (C := RX0) (T := TX0) (ty0 := tyX0) (ty := .int) rfl in_X0 tyX0_ok nmX0 (by decide) (in_t2 (List.mem_of_getElem? (i := 174) rfl) rfl) rfl rfl x_fit_int (x_dk dl_2_ok 18 rfl)))))
  (x_Tok2
  (x_Lok (x_st (I := xI) (xr_aload_n (i := 0) (x_dk dl_2_ok 19 rfl))))
  (x_Lok (x_st (I := xI) (xr_getf (ci := 0) (k := 5) (ix := 30) (N := 20) (C := RX0) (T := TX0) rfl in_X0 (by decide) (in_t2 (List.mem_of_getElem? (i := 160) rfl) rfl) (x_dk dl_2_ok 20 rfl)))))))
  (x_Tok2
  (x_Tok2
  (x_Tok2
  (x_Lok (x_st (I := xI) (xr_iconst (n := 0) (z := 0) (v := 0) (x_dk dl_2_ok 21 rfl) (by decide) (by decide))))
  (x_Lok (x_ca (I := xI) (q' := m_33) rfl (xr_callS (q' := m_33) (ix := 54) (n := 2) (in_t4 (List.mem_of_getElem? (i := 9) rfl) rfl) good_w (in_t1 (List.mem_of_getElem? (i := 13) rfl) rfl) (in_t4 (List.mem_of_getElem? (i := 7) rfl) rfl) (in_t4 (List.mem_of_getElem? (i := 8) rfl) rfl) (by decide +kernel) (by decide +kernel) (x_dk dl_2_ok 22 rfl)))))
  (x_Tok2
  (x_Lok (x_st (I := xI) (xr_aload_n (i := 0) (x_dk dl_2_ok 23 rfl))))
  (x_Lok (x_st (I := xI) (xr_getf (ci := 0) (k := 7) (ix := 39) (N := 20) (C := RX0) (T := TX0) rfl in_X0 (by decide) (in_t2 (List.mem_of_getElem? (i := 165) rfl) rfl) (x_dk dl_2_ok 24 rfl))))))
  (x_Tok2
  (x_Tok2
  (x_Lok (x_ca (I := xI) (q' := m_8) rfl (xr_callV (q' := m_8) (ix := 60) (n := 0) (in_t4 (List.mem_of_getElem? (i := 13) rfl) rfl) good_w (in_t1 (List.mem_of_getElem? (i := 3) rfl) rfl) (in_t4 (List.mem_of_getElem? (i := 10) rfl) rfl) (in_t4 (List.mem_of_getElem? (i := 11) rfl) rfl) (in_t4 (List.mem_of_getElem? (i := 12) rfl) rfl) (by decide +kernel) (by decide +kernel) (by decide +kernel) (x_dk dl_2_ok 25 rfl))))
  (x_Lok (x_st (I := xI) (xr_aload_n (i := 0) (x_dk dl_2_ok 26 rfl)))))
  (x_Tok2
  (x_Lok (x_ca (I := xI) (q' := m_3) rfl (xr_callV (q' := m_3) (ix := 63) (n := 0) (in_t4 (List.mem_of_getElem? (i := 17) rfl) rfl) good_w (in_t1 (List.mem_of_getElem? (i := 8) rfl) rfl) (in_t4 (List.mem_of_getElem? (i := 14) rfl) rfl) (in_t4 (List.mem_of_getElem? (i := 15) rfl) rfl) (in_t4 (List.mem_of_getElem? (i := 16) rfl) rfl) (by decide +kernel) (by decide +kernel) (by decide +kernel) (x_dk dl_2_ok 27 rfl))))
  (x_Lok (x_rt (I := xI) (k := 0) ⟨(x_dk dl_2_ok 28 rfl), rfl⟩)))))))
def tb_2 : Nat → xE := tb_2_0
theorem tb_2_ok (K : xKx) : ∀ pc, x_EOq cls K xI m_2 pc (tb_2 pc) := tb_2_0_ok K
def dl_3 : List (Nat × Instr × Nat) := [(0, .iconst 0, 1), (1, .istore_n 1, 1), (2, .iload_n 1, 1), (3, .bipush 6, 2), (5, .if_icmp .ge 29, 3), (8, .aload_n 0, 1), (9, .getfield 11, 3), (12, .iload_n 1, 1), (13, .aaload, 1), (14, .iconst 0, 1), (15, .putfield 90, 3), (18, .aload_n 0, 1), (19, .getfield 11, 3), (22, .iload_n 1, 1), (23, .aaload, 1), (24, .iconst 0, 1), (25, .putfield 93, 3), (28, .iinc 1 1, 3), (31, .goto (-29), 3), (34, .aload_n 0, 1), (35, .getfield 33, 3), (38, .iconst 0, 1), (39, .invokestatic 54, 3), (42, .aload_n 0, 1), (43, .invokevirtual 96, 3), (46, .aload_n 0, 1), (47, .iconst (-1), 1), (48, .putfield 99, 3), (51, .aload_n 0, 1), (52, .iconst 0, 1), (53, .putfield 102, 3), (56, .aload_n 0, 1), (57, .iconst (-1), 1), (58, .putfield 105, 3), (61, .aload_n 0, 1), (62, .iconst (-1), 1), (63, .putfield 108, 3), (66, .aload_n 0, 1), (67, .iconst 0, 1), (68, .putfield 111, 3), (71, .aload_n 0, 1), (72, .invokevirtual 87, 3), (75, .aload_n 0, 1), (76, .invokevirtual 114, 3), (79, .return_, 1)]
set_option maxRecDepth 20000 in
theorem dl_3_ok : dl_3.all (fun q => decide (decode prog_2_method_4_code q.1 = .ok (q.2.1, q.2.2))) = true := by decide +kernel
def tb_3_0 : Nat → xE := (x_T 15 (x_T 5 (x_T 1 (x_T 0 (x_L 0 (0, xi_push (0, 0, 0) 1, 0, 0)) (x_L 1 (0, xi_stor 1 0 2, 0, 0))) (x_T 2 (x_L 2 (0, xi_load 1 0 3, 0, 0)) (x_T 3 (x_L 3 (0, xi_push (0, 6, 6) 5, 0, 0)) (x_L 5 (0, xi_if2 3 34 8, 0, 0))))) (x_T 12 (x_T 8 (x_L 8 (0, xi_load 0 2 9, 0, 0)) (x_T 9 (x_L 9 (0, xi_getf 0 0 12, 0, 0)) (x_L 12 (0, xi_load 1 0 13, 0, 0)))) (x_T 13 (x_L 13 (0, xi_aald 14, 0, 0)) (x_T 14 (x_L 14 (0, xi_push (0, 0, 0) 15, 0, 0)) (x_L 15 (0, xi_putf 5 7 0 18, 0, 0)))))) (x_T 24 (x_T 19 (x_T 18 (x_L 18 (0, xi_load 0 2 19, 0, 0)) (x_L 19 (0, xi_getf 0 0 22, 0, 0))) (x_T 22 (x_L 22 (0, xi_load 1 0 23, 0, 0)) (x_T 23 (x_L 23 (0, xi_aald 24, 0, 0)) (x_L 24 (0, xi_push (0, 0, 0) 25, 0, 0))))) (x_T 31 (x_T 25 (x_L 25 (0, xi_putf 5 9 0 28, 0, 0)) (x_T 28 (x_L 28 (0, xi_inc 1 1 31, 0, 0)) (x_L 31 (0, xi_goto 2, 0, 0)))) (x_T 34 (x_L 34 (0, xi_load 0 2 35, 0, 0)) (x_T 35 (x_L 35 (0, xi_getf 0 6 38, 0, 0)) (x_L 38 (0, xi_push (0, 0, 0) 39, 0, 0)))))))
set_option maxRecDepth 20000 in
set_option maxHeartbeats 4000000 in
theorem tb_3_0_ok (K : xKx) : ∀ pc, x_EOq cls K xI m_3 pc (tb_3_0 pc) :=
  (x_Tok2
  (x_Tok2
  (x_Tok2
  (x_Tok2
  (x_Lok (x_st (I := xI) (xr_iconst (n := 0) (z := 0) (v := 0) (x_dk dl_3_ok 0 rfl) (by decide) (by decide))))
  (x_Lok (x_st (I := xI) (xr_istore_n (i := 1) (x_dk dl_3_ok 1 rfl) (by decide +kernel)))))
  (x_Tok2
  (x_Lok (x_st (I := xI) (xr_iload_n (i := 1) (x_dk dl_3_ok 2 rfl))))
  (x_Tok2
  (x_Lok (x_st (I := xI) (xr_bipush (n := 6) (z := 6) (v := 6) (x_dk dl_3_ok 3 rfl) (by decide) (by decide))))
  (x_Lok (x_st (I := xI) (xr_icmpge (off := 29) (tg := 34) (x_dk dl_3_ok 4 rfl) (by decide)))))))
  (x_Tok2
  (x_Tok2
  (x_Lok (x_st (I := xI) (xr_aload_n (i := 0) (x_dk dl_3_ok 5 rfl))))
  (x_Tok2
  (x_Lok (x_st (I := xI) (xr_getf (ci := 0) (k := 0) (ix := 11) (N := 20) (C := RX0) (T := TX0) rfl in_X0 (by decide) (in_t2 (List.mem_of_getElem? (i := 144) rfl) rfl) (x_dk dl_3_ok 6 rfl))))
  (x_Lok (x_st (I := xI) (xr_iload_n (i := 1) (x_dk dl_3_ok 7 rfl))))))
  (x_Tok2
  (x_Lok (x_st (I := xI) (xr_aaload (x_dk dl_3_ok 8 rfl))))
  (x_Tok2
  (x_Lok (x_st (I := xI) (xr_iconst (n := 0) (z := 0) (v := 0) (x_dk dl_3_ok 9 rfl) (by decide) (by decide))))
  (x_Lok (x_st (I := xI) (xr_putf (ci := 5) (k := 7) (ix := 90) (N := 12) (fk := 0) (C := RX5) (T := TX5) (ty0 := tyX5) (ty := .int) rfl in_X5 tyX5_ok nmX5 (by decide) (in_t2 (List.mem_of_getElem? (i := 105) rfl) rfl) rfl rfl x_fit_int (x_dk dl_3_ok 10 rfl))))))))
  (x_Tok2
  (x_Tok2
  (x_Tok2
  (x_Lok (x_st (I := xI) (xr_aload_n (i := 0) (x_dk dl_3_ok 11 rfl))))
  (x_Lok (x_st (I := xI) (xr_getf (ci := 0) (k := 0) (ix := 11) (N := 20) (C := RX0) (T := TX0) rfl in_X0 (by decide) (in_t2 (List.mem_of_getElem? (i := 144) rfl) rfl) (x_dk dl_3_ok 12 rfl)))))
  (x_Tok2
  (x_Lok (x_st (I := xI) (xr_iload_n (i := 1) (x_dk dl_3_ok 13 rfl))))
  (x_Tok2
  (x_Lok (x_st (I := xI) (xr_aaload (x_dk dl_3_ok 14 rfl))))
  (x_Lok (x_st (I := xI) (xr_iconst (n := 0) (z := 0) (v := 0) (x_dk dl_3_ok 15 rfl) (by decide) (by decide)))))))
  (x_Tok2
  (x_Tok2
  (x_Lok (x_st (I := xI) (xr_putf (ci := 5) (k := 9) (ix := 93) (N := 12) (fk := 0) (C := RX5) (T := TX5) (ty0 := tyX5) (ty := .int) rfl in_X5 tyX5_ok nmX5 (by decide) (in_t2 (List.mem_of_getElem? (i := 112) rfl) rfl) rfl rfl x_fit_int (x_dk dl_3_ok 16 rfl))))
  (x_Tok2
  (x_Lok (x_st (I := xI) (xr_iinc (i := 1) (n := 1) (x_dk dl_3_ok 17 rfl) (by decide +kernel) (by decide))))
  (x_Lok (x_st (I := xI) (xr_goto (off := (-29)) (tg := 2) (x_dk dl_3_ok 18 rfl) (by decide))))))
  (x_Tok2
  (x_Lok (x_st (I := xI) (xr_aload_n (i := 0) (x_dk dl_3_ok 19 rfl))))
  (x_Tok2
  (x_Lok (x_st (I := xI) (xr_getf (ci := 0) (k := 6) (ix := 33) (N := 20) (C := RX0) (T := TX0) rfl in_X0 (by decide) (in_t2 (List.mem_of_getElem? (i := 162) rfl) rfl) (x_dk dl_3_ok 20 rfl))))
  (x_Lok (x_st (I := xI) (xr_iconst (n := 0) (z := 0) (v := 0) (x_dk dl_3_ok 21 rfl) (by decide) (by decide)))))))))
def tb_3_22 : Nat → xE := (x_T 57 (x_T 47 (x_T 42 (x_T 39 (x_L 39 (2, x_nof, 33, 2)) (x_L 42 (0, xi_load 0 2 43, 0, 0))) (x_T 43 (x_L 43 (2, x_nof, 6, 1)) (x_T 46 (x_L 46 (0, xi_load 0 2 47, 0, 0)) (x_L 47 (0, xi_push (0, (-1), (-1)) 48, 0, 0))))) (x_T 52 (x_T 48 (x_L 48 (0, xi_putf 0 14 0 51, 0, 0)) (x_T 51 (x_L 51 (0, xi_load 0 2 52, 0, 0)) (x_L 52 (0, xi_push (0, 0, 0) 53, 0, 0)))) (x_T 53 (x_L 53 (0, xi_putf 0 15 0 56, 0, 0)) (x_T 56 (x_L 56 (0, xi_load 0 2 57, 0, 0)) (x_L 57 (0, xi_push (0, (-1), (-1)) 58, 0, 0)))))) (x_T 67 (x_T 62 (x_T 58 (x_L 58 (0, xi_putf 0 16 0 61, 0, 0)) (x_T 61 (x_L 61 (0, xi_load 0 2 62, 0, 0)) (x_L 62 (0, xi_push (0, (-1), (-1)) 63, 0, 0)))) (x_T 63 (x_L 63 (0, xi_putf 0 17 0 66, 0, 0)) (x_T 66 (x_L 66 (0, xi_load 0 2 67, 0, 0)) (x_L 67 (0, xi_push (0, 0, 0) 68, 0, 0))))) (x_T 72 (x_T 68 (x_L 68 (0, xi_putf 0 19 0 71, 0, 0)) (x_T 71 (x_L 71 (0, xi_load 0 2 72, 0, 0)) (x_L 72 (2, x_nof, 4, 1)))) (x_T 75 (x_L 75 (0, xi_load 0 2 76, 0, 0)) (x_T 76 (x_L 76 (2, x_nof, 5, 1)) (x_L 79 (1, x_nof, 0, 0)))))))
set_option maxRecDepth 20000 in
set_option maxHeartbeats 4000000 in
theorem tb_3_22_ok (K : xKx) : ∀ pc, x_EOq cls K xI m_3 pc (tb_3_22 pc) :=
  (x_Tok2
  (x_Tok2
  (x_Tok2
  (x_Tok2
  (x_Lok (x_ca (I := xI) (q' := m_33) rfl (xr_callS (q' := m_33) (ix := 54) (n := 2) (in_t4 (List.mem_of_getElem? (i := 9) rfl) rfl) good_w (in_t1 (List.mem_of_getElem? (i := 13) rfl) rfl) (in_t4 (List.mem_of_getElem? (i := 7) rfl) rfl) (in_t4 (List.mem_of_getElem? (i := 8) rfl) rfl) (by decide +kernel) (by decide +kernel) (x_dk dl_3_ok 22 rfl))))
  (x_Lok (x_st (I := xI) (xr_aload_n (i := 0) (x_dk dl_3_ok 23 rfl)))))
  (x_Tok2
  (x_Lok (x_ca (I := xI) (q' := m_6) rfl (xr_callV (q' := m_6) (ix := 96) (n := 0) (in_t4 (List.mem_of_getElem? (i := 21) rfl) rfl) good_w (in_t1 (List.mem_of_getElem? (i := 8) rfl) rfl) (in_t4 (List.mem_of_getElem? (i := 18) rfl) rfl) (in_t4 (List.mem_of_getElem? (i := 19) rfl) rfl) (in_t4 (List.mem_of_getElem? (i := 20) rfl) rfl) (by decide +kernel) (by decide +kernel) (by decide +kernel) (x_dk dl_3_ok 24 rfl))))
  (x_Tok2
  (x_Lok (x_st (I := xI) (xr_aload_n (i := 0) (x_dk dl_3_ok 25 rfl))))
  (x_Lok (x_st (I := xI) (xr_iconst (n := (-1)) (z := (-1)) (v := (-1)) (x_dk dl_3_ok 26 rfl) (by decide) (by decide)))))))
  (x_Tok2
  (x_Tok2
  (x_Lok (x_st (I := xI) (xr_putf (ci := 0) (k := 14) (ix := 99) (N := 20) (fk := 0) (C := RX0) (T := TX0) (ty0 := tyX0) (ty := .int) rfl in_X0 tyX0_ok nmX0 (by decide) (in_t2 (List.mem_of_getElem? (i := 183) rfl) rfl) rfl rfl x_fit_int (x_dk dl_3_ok 27 rfl))))
  (x_Tok2
  (x_Lok (x_st (I := xI) (xr_aload_n (i := 0) (x_dk dl_3_ok 28 rfl))))
  (x_Lok (x_st (I := xI) (xr_iconst (n := 0) (z := 0) (v := 0) (x_dk dl_3_ok 29 rfl) (by decide) (by decide))))))
  (x_Tok2
  (x_Lok (x_st (I := xI) (xr_putf (ci := 0) (k := 15) (ix := 102) (N := 20) (fk := 0) (C := RX0) (T := TX0) (ty0 := tyX0) (ty := .int) rfl in_X0 tyX0_ok nmX0 (by decide) (in_t2 (List.mem_of_getElem? (i := 187) rfl) rfl) rfl rfl x_fit_int (x_dk dl_3_ok 30 rfl))))
  (x_Tok2
  (x_Lok (x_st (I := xI) (xr_aload_n (i := 0) (x_dk dl_3_ok 31 rfl))))
  (x_Lok (x_st (I := xI) (xr_iconst (n := (-1)) (z := (-1)) (v := (-1)) (x_dk dl_3_ok 32 rfl) (by decide) (by decide))))))))
  (x_Tok2
  (x_Tok2
  (x_Tok2
  (x_Lok (x_st (I := xI) (xr_putf (ci := 0) (k := 16) (ix := 105) (N := 20) (fk := 0) (C := RX0) (T := TX0) (ty0 := tyX0) (ty := .int) rfl in_X0 tyX0_ok nmX0 (by decide) (in_t2 (List.mem_of_getElem? (i := 189) rfl) rfl) rfl rfl x_fit_int (x_dk dl_3_ok 33 rfl))))
  (x_Tok2
  (x_Lok (x_st (I := xI) (xr_aload_n (i := 0) (x_dk dl_3_ok 34 rfl))))
  (x_Lok (x_st (I := xI) (xr_iconst (n := (-1)) (z := (-1)) (v := (-1)) (x_dk dl_3_ok 35 rfl) (by decide) (by decide))))))
  (x_Tok2
  (x_Lok (x_st (I := xI) (xr_putf (ci := 0) (k := 17) (ix := 108) (N := 20) (fk := 0) (C := RX0) (T := TX0) (ty0 := tyX0) (ty := .int) rfl in_X0 tyX0_ok nmX0 (by decide) (in_t2 (List.mem_of_getElem? (i := 193) rfl) rfl) rfl rfl x_fit_int (x_dk dl_3_ok 36 rfl))))
  (x_Tok2
  (x_Lok (x_st (I := xI) (xr_aload_n (i := 0) (x_dk dl_3_ok 37 rfl))))
  (x_Lok (x_st (I := xI) (xr_iconst (n := 0) (z := 0) (v := 0) (x_dk dl_3_ok 38 rfl) (by decide) (by decide)))))))
  (x_Tok2
  (x_Tok2
  (x_Lok (x_st (I := xI) (xr_putf (ci := 0) (k := 19) (ix := 111) (N := 20) (fk := 0) (C := RX0) (T := TX0) (ty0 := tyX0) (ty := .int) rfl in_X0 tyX0_ok nmX0 (by decide) (in_t2 (List.mem_of_getElem? (i := 200) rfl) rfl) rfl rfl x_fit_int (x_dk dl_3_ok 39 rfl))))
  (x_Tok2
  (x_Lok (x_st (I := xI) (xr_aload_n (i := 0) (x_dk dl_3_ok 40 rfl))))
  (x_Lok (x_ca (I := xI) (q' := m_4) rfl (xr_callV (q' := m_4) (ix := 87) (n := 0) (in_t4 (List.mem_of_getElem? (i := 25) rfl) rfl) good_w (in_t1 (List.mem_of_getElem? (i := 8) rfl) rfl) (in_t4 (List.mem_of_getElem? (i := 22) rfl) rfl) (in_t4 (List.mem_of_getElem? (i := 23) rfl) rfl) (in_t4 (List.mem_of_getElem? (i := 24) rfl) rfl) (by decide +kernel) (by decide +kernel) (by decide +kernel) (x_dk dl_3_ok 41 rfl))))))
  (x_Tok2
  (x_Lok (x_st (I := xI) (xr_aload_n (i := 0) (x_dk dl_3_ok 42 rfl))))
  (x_Tok2
  (x_Lok (x_ca (I := xI) (q' := m_5) rfl (xr_callV (q' := m_5) (ix := 114) (n := 0) (in_t4 (List.mem_of_getElem? (i := 39) rfl) rfl) good_w (in_t1 (List.mem_of_getElem? (i := 8) rfl) rfl) (in_t4 (List.mem_of_getElem? (i := 36) rfl) rfl) (in_t4 (List.mem_of_getElem? (i := 37) rfl) rfl) (in_t4 (List.mem_of_getElem? (i := 38) rfl) rfl) (by decide +kernel) (by decide +kernel) (by decide +kernel) (x_dk dl_3_ok 43 rfl))))
  (x_Lok (x_rt (I := xI) (k := 0) ⟨(x_dk dl_3_ok 44 rfl), rfl⟩)))))))
def tb_3 : Nat → xE := (x_T 38 tb_3_0 tb_3_22)
theorem tb_3_ok (K : xKx) : ∀ pc, x_EOq cls K xI m_3 pc (tb_3 pc) := (x_Tok2 (tb_3_0_ok K) (tb_3_22_ok K))
