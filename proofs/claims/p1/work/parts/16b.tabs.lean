noncomputable section
def dl_13_0 : List (Nat × Instr × Nat) := [(0, .iconst 0, 1), (1, .istore_n 1, 1), (2, .iload_n 1, 1), (3, .bipush 16, 2), (5, .if_icmp .ge 18, 3), (8, .aload_n 0, 1), (9, .getfield 40, 3), (12, .iload_n 1, 1), (13, .aaload, 1), (14, .invokevirtual 58, 3), (17, .iinc 1 1, 3), (20, .goto (-18), 3), (23, .aload_n 0, 1), (24, .getfield 44, 3), (27, .iconst (-1), 1), (28, .invokestatic 61, 3), (31, .aload_n 0, 1), (32, .iconst 0, 1), (33, .putfield 67, 3), (36, .return_, 1)]
set_option maxRecDepth 20000 in
theorem dl_13_0_ok : dl_13_0.all (fun q => decide (decode prog_5_method_2_code q.1 = .ok (q.2.1, q.2.2))) = true := by decide +kernel
def tb_13_0 : Nat → xE := (x_T 14 (x_T 5 (x_T 1 (x_T 0 (x_L 0 (0, xi_push (0, 0, 0) 1, 0, 0)) (x_L 1 (0, xi_stor 1 0 2, 0, 0))) (x_T 2 (x_L 2 (0, xi_load 1 0 3, 0, 0)) (x_T 3 (x_L 3 (0, xi_push (0, 16, 16) 5, 0, 0)) (x_L 5 (0, xi_if2 3 23 8, 0, 0))))) (x_T 9 (x_T 8 (x_L 8 (0, xi_load 0 2 9, 0, 0)) (x_L 9 (0, xi_getf 3 4 12, 0, 0))) (x_T 12 (x_L 12 (0, xi_load 1 0 13, 0, 0)) (x_T 13 (x_L 13 (0, xi_aald 14, 0, 0)) (x_L 14 (2, x_nof, 37, 1)))))) (x_T 27 (x_T 20 (x_T 17 (x_L 17 (0, xi_inc 1 1 20, 0, 0)) (x_L 20 (0, xi_goto 2, 0, 0))) (x_T 23 (x_L 23 (0, xi_load 0 2 24, 0, 0)) (x_T 24 (x_L 24 (0, xi_getf 3 5 27, 0, 0)) (x_L 27 (0, xi_push (0, (-1), (-1)) 28, 0, 0))))) (x_T 31 (x_T 28 (x_L 28 (2, x_nof, 174, 2)) (x_L 31 (0, xi_load 0 2 32, 0, 0))) (x_T 32 (x_L 32 (0, xi_push (0, 0, 0) 33, 0, 0)) (x_T 33 (x_L 33 (0, xi_putf 3 9 0 36, 0, 0)) (x_L 36 (1, x_nof, 0, 0)))))))
set_option maxRecDepth 20000 in
set_option maxHeartbeats 4000000 in
theorem tb_13_0_ok (K : xKx) (hK : x_KP K) : ∀ pc, x_EOq cls K xI m_13 pc (tb_13_0 pc) :=
  (x_Tok2
  (x_Tok2
  (x_Tok2
  (x_Tok2
  (x_Lok (x_st (I := xI) (xr_iconst (n := 0) (z := 0) (v := 0) (x_dk dl_13_0_ok 0 rfl) (by decide) (by decide))))
  (x_Lok (x_st (I := xI) (xr_istore_n (i := 1) (x_dk dl_13_0_ok 1 rfl) (by decide +kernel)))))
  (x_Tok2
  (x_Lok (x_st (I := xI) (xr_iload_n (i := 1) (x_dk dl_13_0_ok 2 rfl))))
  (x_Tok2
  (x_Lok (x_st (I := xI) (xr_bipush (n := 16) (z := 16) (v := 16) (x_dk dl_13_0_ok 3 rfl) (by decide) (by decide))))
  (x_Lok (x_st (I := xI) (xr_icmpge (off := 18) (tg := 23) (x_dk dl_13_0_ok 4 rfl) (by decide)))))))
  (x_Tok2
  (x_Tok2
  (x_Lok (x_st (I := xI) (xr_aload_n (i := 0) (x_dk dl_13_0_ok 5 rfl))))
  (x_Lok (x_st (I := xI) (xr_getf (ci := 3) (k := 4) (ix := 40) (N := 12) (C := RX3) (T := TX3) rfl in_X3 (by decide) (in_t3 (List.mem_of_getElem? (i := 96) rfl) rfl) (x_dk dl_13_0_ok 6 rfl)))))
  (x_Tok2
  (x_Lok (x_st (I := xI) (xr_iload_n (i := 1) (x_dk dl_13_0_ok 7 rfl))))
  (x_Tok2
  (x_Lok (x_st (I := xI) (xr_aaload (x_dk dl_13_0_ok 8 rfl))))
  (x_Lok (x_ca (I := xI) (q' := m_37) rfl (xr_callV (q' := m_37) (ix := 58) (n := 0) (in_t4 (List.mem_of_getElem? (i := 98) rfl) rfl) good_w (in_t1 (List.mem_of_getElem? (i := 10) rfl) rfl) (in_t4 (List.mem_of_getElem? (i := 95) rfl) rfl) (in_t4 (List.mem_of_getElem? (i := 96) rfl) rfl) (in_t4 (List.mem_of_getElem? (i := 97) rfl) rfl) (by decide +kernel) (by decide +kernel) (by decide +kernel) (x_dk dl_13_0_ok 9 rfl))))))))
  (x_Tok2
  (x_Tok2
  (x_Tok2
  (x_Lok (x_st (I := xI) (xr_iinc (i := 1) (n := 1) (x_dk dl_13_0_ok 10 rfl) (by decide +kernel) (by decide))))
  (x_Lok (x_st (I := xI) (xr_goto (off := (-18)) (tg := 2) (x_dk dl_13_0_ok 11 rfl) (by decide)))))
  (x_Tok2
  (x_Lok (x_st (I := xI) (xr_aload_n (i := 0) (x_dk dl_13_0_ok 12 rfl))))
  (x_Tok2
  (x_Lok (x_st (I := xI) (xr_getf (ci := 3) (k := 5) (ix := 44) (N := 12) (C := RX3) (T := TX3) rfl in_X3 (by decide) (in_t3 (List.mem_of_getElem? (i := 98) rfl) rfl) (x_dk dl_13_0_ok 13 rfl))))
  (x_Lok (x_st (I := xI) (xr_iconst (n := (-1)) (z := (-1)) (v := (-1)) (x_dk dl_13_0_ok 14 rfl) (by decide) (by decide)))))))
  (x_Tok2
  (x_Tok2
  (x_Lok (x_ca (I := xI) (q' := m_174) rfl (xr_callS (q' := m_174) (ix := 61) (n := 2) (in_t4 (List.mem_of_getElem? (i := 9) rfl) rfl) good_w (in_t1 (List.mem_of_getElem? (i := 13) rfl) rfl) (in_t4 (List.mem_of_getElem? (i := 107) rfl) rfl) (in_t4 (List.mem_of_getElem? (i := 8) rfl) rfl) (by decide +kernel) (by decide +kernel) (x_dk dl_13_0_ok 15 rfl))))
  (x_Lok (x_st (I := xI) (xr_aload_n (i := 0) (x_dk dl_13_0_ok 16 rfl)))))
  (x_Tok2
  (x_Lok (x_st (I := xI) (xr_iconst (n := 0) (z := 0) (v := 0) (x_dk dl_13_0_ok 17 rfl) (by decide) (by decide))))
  (x_Tok2
  (x_Lok (x_st (I := xI) (xr_putf (ci := 3) (k := 9) (ix := 67) (N := 12) (fk := 0) (C := RX3) (T := TX3) (ty0 := tyX3) (ty := .int) rfl in_X3 tyX3_ok nmX3 (by decide) (in_t3 (List.mem_of_getElem? (i := 103) rfl) rfl) rfl rfl x_fit_int (x_dk dl_13_0_ok 18 rfl))))
  (x_Lok (x_rt (I := xI) (k := 0) ⟨(x_dk dl_13_0_ok 19 rfl), rfl⟩)))))))
def tb_13 : Nat → xE := tb_13_0
theorem tb_13_ok (K : xKx) (hK : x_KP K) : ∀ pc, x_EOq cls K xI m_13 pc (tb_13 pc) := tb_13_0_ok K hK
def dl_14_0 : List (Nat × Instr × Nat) := [(0, .aload_n 0, 1), (1, .invokespecial 3, 3), (4, .aload_n 0, 1), (5, .iconst 4, 1), (6, .newarray .int, 2), (8, .putfield 9, 3), (11, .aload_n 0, 1), (12, .iconst 4, 1), (13, .newarray .int, 2), (15, .putfield 15, 3), (18, .aload_n 0, 1), (19, .iconst 4, 1), (20, .newarray .int, 2), (22, .putfield 18, 3), (25, .aload_n 0, 1), (26, .iconst 4, 1), (27, .newarray .int, 2), (29, .putfield 21, 3), (32, .aload_n 0, 1), (33, .iconst 4, 1), (34, .newarray .int, 2), (36, .putfield 24, 3), (39, .aload_n 0, 1), (40, .iconst 4, 1), (41, .newarray .int, 2), (43, .putfield 27, 3), (46, .aload_n 0, 1), (47, .iconst 4, 1), (48, .newarray .int, 2), (50, .putfield 30, 3), (53, .aload_n 0, 1), (54, .iconst 4, 1), (55, .newarray .int, 2), (57, .putfield 33, 3), (60, .aload_n 0, 1), (61, .iconst 4, 1), (62, .newarray .int, 2), (64, .putfield 36, 3), (67, .aload_n 0, 1), (68, .iconst 4, 1), (69, .newarray .int, 2), (71, .putfield 39, 3), (74, .aload_n 0, 1), (75, .iconst 4, 1), (76, .bipush 32, 2), (78, .multianewarray 42 2, 4), (82, .putfield 44, 3), (85, .aload_n 0, 1), (86, .iconst 4, 1), (87, .newarray .int, 2), (89, .putfield 47, 3), (92, .aload_n 0, 1), (93, .bipush 32, 2), (95, .newarray .int, 2), (97, .putfield 50, 3), (100, .aload_n 0, 1), (101, .bipush 32, 2), (103, .newarray .int, 2), (105, .putfield 53, 3), (108, .aload_n 0, 1), (109, .bipush 32, 2), (111, .newarray .int, 2), (113, .putfield 56, 3), (116, .aload_n 0, 1), (117, .bipush 32, 2), (119, .newarray .int, 2), (121, .putfield 59, 3), (124, .aload_n 0, 1), (125, .bipush 32, 2), (127, .newarray .int, 2), (129, .putfield 62, 3), (132, .aload_n 0, 1), (133, .bipush 32, 2), (135, .iconst 4, 1), (136, .multianewarray 42 2, 4), (140, .putfield 65, 3), (143, .return_, 1)]
set_option maxRecDepth 20000 in
theorem dl_14_0_ok : dl_14_0.all (fun q => decide (decode prog_6_method_1_code q.1 = .ok (q.2.1, q.2.2))) = true := by decide +kernel
def tb_14_0 : Nat → xE := (x_T 32 (x_T 13 (x_T 5 (x_T 1 (x_T 0 (x_L 0 (0, xi_load 0 2 1, 0, 0)) (x_L 1 (0, xi_oi 4, 0, 0))) (x_T 4 (x_L 4 (0, xi_load 0 2 5, 0, 0)) (x_L 5 (0, xi_push (0, 4, 4) 6, 0, 0)))) (x_T 8 (x_T 6 (x_L 6 (0, xi_newa 1 0 (0, 0, 0) (xm_c m_14) (xm_s m_14) 8, 0, 0)) (x_L 8 (0, xi_putf 4 2 2 11, 0, 0))) (x_T 11 (x_L 11 (0, xi_load 0 2 12, 0, 0)) (x_T 12 (x_L 12 (0, xi_push (0, 4, 4) 13, 0, 0)) (x_L 13 (0, xi_newa 1 0 (0, 0, 0) (xm_c m_14) (xm_s m_14) 15, 0, 0)))))) (x_T 22 (x_T 18 (x_T 15 (x_L 15 (0, xi_putf 4 3 2 18, 0, 0)) (x_L 18 (0, xi_load 0 2 19, 0, 0))) (x_T 19 (x_L 19 (0, xi_push (0, 4, 4) 20, 0, 0)) (x_T 20 (x_L 20 (0, xi_newa 1 0 (0, 0, 0) (xm_c m_14) (xm_s m_14) 22, 0, 0)) (x_L 22 (0, xi_putf 4 4 2 25, 0, 0))))) (x_T 26 (x_T 25 (x_L 25 (0, xi_load 0 2 26, 0, 0)) (x_L 26 (0, xi_push (0, 4, 4) 27, 0, 0))) (x_T 27 (x_L 27 (0, xi_newa 1 0 (0, 0, 0) (xm_c m_14) (xm_s m_14) 29, 0, 0)) (x_T 29 (x_L 29 (0, xi_putf 4 5 2 32, 0, 0)) (x_L 32 (0, xi_load 0 2 33, 0, 0))))))) (x_T 47 (x_T 39 (x_T 34 (x_T 33 (x_L 33 (0, xi_push (0, 4, 4) 34, 0, 0)) (x_L 34 (0, xi_newa 1 0 (0, 0, 0) (xm_c m_14) (xm_s m_14) 36, 0, 0))) (x_T 36 (x_L 36 (0, xi_putf 4 6 2 39, 0, 0)) (x_L 39 (0, xi_load 0 2 40, 0, 0)))) (x_T 41 (x_T 40 (x_L 40 (0, xi_push (0, 4, 4) 41, 0, 0)) (x_L 41 (0, xi_newa 1 0 (0, 0, 0) (xm_c m_14) (xm_s m_14) 43, 0, 0))) (x_T 43 (x_L 43 (0, xi_putf 4 7 2 46, 0, 0)) (x_T 46 (x_L 46 (0, xi_load 0 2 47, 0, 0)) (x_L 47 (0, xi_push (0, 4, 4) 48, 0, 0)))))) (x_T 55 (x_T 50 (x_T 48 (x_L 48 (0, xi_newa 1 0 (0, 0, 0) (xm_c m_14) (xm_s m_14) 50, 0, 0)) (x_L 50 (0, xi_putf 4 8 2 53, 0, 0))) (x_T 53 (x_L 53 (0, xi_load 0 2 54, 0, 0)) (x_T 54 (x_L 54 (0, xi_push (0, 4, 4) 55, 0, 0)) (x_L 55 (0, xi_newa 1 0 (0, 0, 0) (xm_c m_14) (xm_s m_14) 57, 0, 0))))) (x_T 60 (x_T 57 (x_L 57 (0, xi_putf 4 9 2 60, 0, 0)) (x_L 60 (0, xi_load 0 2 61, 0, 0))) (x_T 61 (x_L 61 (0, xi_push (0, 4, 4) 62, 0, 0)) (x_T 62 (x_L 62 (0, xi_newa 1 0 (0, 0, 0) (xm_c m_14) (xm_s m_14) 64, 0, 0)) (x_L 64 (0, xi_putf 4 10 2 67, 0, 0))))))))
set_option maxRecDepth 20000 in
set_option maxHeartbeats 4000000 in
theorem tb_14_0_ok (K : xKx) (hK : x_KP K) : ∀ pc, x_EOq cls K xI m_14 pc (tb_14_0 pc) :=
  (x_Tok2
  (x_Tok2
  (x_Tok2
  (x_Tok2
  (x_Tok2
  (x_Lok (x_st (I := xI) (xr_aload_n (i := 0) (x_dk dl_14_0_ok 0 rfl))))
  (x_Lok (x_st (I := xI) (xr_oi (ix := 3) (in_t1 (List.mem_of_getElem? (i := 172) rfl) rfl) (in_t1 (List.mem_of_getElem? (i := 27) rfl) rfl) (in_t1 (List.mem_of_getElem? (i := 28) rfl) rfl) (x_dk dl_14_0_ok 1 rfl)))))
  (x_Tok2
  (x_Lok (x_st (I := xI) (xr_aload_n (i := 0) (x_dk dl_14_0_ok 2 rfl))))
  (x_Lok (x_st (I := xI) (xr_iconst (n := 4) (z := 4) (v := 4) (x_dk dl_14_0_ok 3 rfl) (by decide) (by decide))))))
  (x_Tok2
  (x_Tok2
  (x_Lok (x_st (I := xI) (xr_newa (kd := 1) (b := false) (ty := .int) rfl rfl (in_t1 (List.mem_of_getElem? (i := 64) rfl) rfl) (x_dk dl_14_0_ok 4 rfl))))
  (x_Lok (x_st (I := xI) (xr_putF (ci := 4) (k := 2) (ix := 9) (N := 20) (fk := 2) (C := RX4) (T := TX4) (ty0 := tyX4) (ty := .array .int) rfl in_X4 tyX4_ok nmX4 (by decide) (in_t1 (List.mem_of_getElem? (i := 179) rfl) rfl) rfl rfl rfl rfl x_fit_arr (x_dk dl_14_0_ok 5 rfl)))))
  (x_Tok2
  (x_Lok (x_st (I := xI) (xr_aload_n (i := 0) (x_dk dl_14_0_ok 6 rfl))))
  (x_Tok2
  (x_Lok (x_st (I := xI) (xr_iconst (n := 4) (z := 4) (v := 4) (x_dk dl_14_0_ok 7 rfl) (by decide) (by decide))))
  (x_Lok (x_st (I := xI) (xr_newa (kd := 1) (b := false) (ty := .int) rfl rfl (in_t1 (List.mem_of_getElem? (i := 64) rfl) rfl) (x_dk dl_14_0_ok 8 rfl))))))))
  (x_Tok2
  (x_Tok2
  (x_Tok2
  (x_Lok (x_st (I := xI) (xr_putF (ci := 4) (k := 3) (ix := 15) (N := 20) (fk := 2) (C := RX4) (T := TX4) (ty0 := tyX4) (ty := .array .int) rfl in_X4 tyX4_ok nmX4 (by decide) (in_t1 (List.mem_of_getElem? (i := 181) rfl) rfl) rfl rfl rfl rfl x_fit_arr (x_dk dl_14_0_ok 9 rfl))))
  (x_Lok (x_st (I := xI) (xr_aload_n (i := 0) (x_dk dl_14_0_ok 10 rfl)))))
  (x_Tok2
  (x_Lok (x_st (I := xI) (xr_iconst (n := 4) (z := 4) (v := 4) (x_dk dl_14_0_ok 11 rfl) (by decide) (by decide))))
  (x_Tok2
  (x_Lok (x_st (I := xI) (xr_newa (kd := 1) (b := false) (ty := .int) rfl rfl (in_t1 (List.mem_of_getElem? (i := 64) rfl) rfl) (x_dk dl_14_0_ok 12 rfl))))
  (x_Lok (x_st (I := xI) (xr_putF (ci := 4) (k := 4) (ix := 18) (N := 20) (fk := 2) (C := RX4) (T := TX4) (ty0 := tyX4) (ty := .array .int) rfl in_X4 tyX4_ok nmX4 (by decide) (in_t1 (List.mem_of_getElem? (i := 183) rfl) rfl) rfl rfl rfl rfl x_fit_arr (x_dk dl_14_0_ok 13 rfl)))))))
  (x_Tok2
  (x_Tok2
  (x_Lok (x_st (I := xI) (xr_aload_n (i := 0) (x_dk dl_14_0_ok 14 rfl))))
  (x_Lok (x_st (I := xI) (xr_iconst (n := 4) (z := 4) (v := 4) (x_dk dl_14_0_ok 15 rfl) (by decide) (by decide)))))
  (x_Tok2
  (x_Lok (x_st (I := xI) (xr_newa (kd := 1) (b := false) (ty := .int) rfl rfl (in_t1 (List.mem_of_getElem? (i := 64) rfl) rfl) (x_dk dl_14_0_ok 16 rfl))))
  (x_Tok2
  (x_Lok (x_st (I := xI) (xr_putF (ci := 4) (k := 5) (ix := 21) (N := 20) (fk := 2) (C := RX4) (T := TX4) (ty0 := tyX4) (ty := .array .int) rfl in_X4 tyX4_ok nmX4 (by decide) (in_t1 (List.mem_of_getElem? (i := 185) rfl) rfl) rfl rfl rfl rfl x_fit_arr (x_dk dl_14_0_ok 17 rfl))))
  (x_Lok (x_st (I := xI) (xr_aload_n (i := 0) (x_dk dl_14_0_ok 18 rfl)))))))))
  (x_Tok2
  (x_Tok2
  (x_Tok2
  (x_Tok2
  (x_Lok (x_st (I := xI) (xr_iconst (n := 4) (z := 4) (v := 4) (x_dk dl_14_0_ok 19 rfl) (by decide) (by decide))))
  (x_Lok (x_st (I := xI) (xr_newa (kd := 1) (b := false) (ty := .int) rfl rfl (in_t1 (List.mem_of_getElem? (i := 64) rfl) rfl) (x_dk dl_14_0_ok 20 rfl)))))
  (x_Tok2
  (x_Lok (x_st (I := xI) (xr_putF (ci := 4) (k := 6) (ix := 24) (N := 20) (fk := 2) (C := RX4) (T := TX4) (ty0 := tyX4) (ty := .array .int) rfl in_X4 tyX4_ok nmX4 (by decide) (in_t1 (List.mem_of_getElem? (i := 187) rfl) rfl) rfl rfl rfl rfl x_fit_arr (x_dk dl_14_0_ok 21 rfl))))
  (x_Lok (x_st (I := xI) (xr_aload_n (i := 0) (x_dk dl_14_0_ok 22 rfl))))))
  (x_Tok2
  (x_Tok2
  (x_Lok (x_st (I := xI) (xr_iconst (n := 4) (z := 4) (v := 4) (x_dk dl_14_0_ok 23 rfl) (by decide) (by decide))))
  (x_Lok (x_st (I := xI) (xr_newa (kd := 1) (b := false) (ty := .int) rfl rfl (in_t1 (List.mem_of_getElem? (i := 64) rfl) rfl) (x_dk dl_14_0_ok 24 rfl)))))
  (x_Tok2
  (x_Lok (x_st (I := xI) (xr_putF (ci := 4) (k := 7) (ix := 27) (N := 20) (fk := 2) (C := RX4) (T := TX4) (ty0 := tyX4) (ty := .array .int) rfl in_X4 tyX4_ok nmX4 (by decide) (in_t1 (List.mem_of_getElem? (i := 189) rfl) rfl) rfl rfl rfl rfl x_fit_arr (x_dk dl_14_0_ok 25 rfl))))
  (x_Tok2
  (x_Lok (x_st (I := xI) (xr_aload_n (i := 0) (x_dk dl_14_0_ok 26 rfl))))
  (x_Lok (x_st (I := xI) (xr_iconst (n := 4) (z := 4) (v := 4) (x_dk dl_14_0_ok 27 rfl) (by decide) (by decide))))))))
  (x_Tok2
  (x_Tok2
  (x_Tok2
  (x_Lok (x_st (I := xI) (xr_newa (kd := 1) (b := false) (ty := .int) rfl rfl (in_t1 (List.mem_of_getElem? (i := 64) rfl) rfl) (x_dk dl_14_0_ok 28 rfl))))
  (x_Lok (x_st (I := xI) (xr_putF (ci := 4) (k := 8) (ix := 30) (N := 20) (fk := 2) (C := RX4) (T := TX4) (ty0 := tyX4) (ty := .array .int) rfl in_X4 tyX4_ok nmX4 (by decide) (in_t1 (List.mem_of_getElem? (i := 190) rfl) rfl) rfl rfl rfl rfl x_fit_arr (x_dk dl_14_0_ok 29 rfl)))))
  (x_Tok2
  (x_Lok (x_st (I := xI) (xr_aload_n (i := 0) (x_dk dl_14_0_ok 30 rfl))))
  (x_Tok2
  (x_Lok (x_st (I := xI) (xr_iconst (n := 4) (z := 4) (v := 4) (x_dk dl_14_0_ok 31 rfl) (by decide) (by decide))))
  (x_Lok (x_st (I := xI) (xr_newa (kd := 1) (b := false) (ty := .int) rfl rfl (in_t1 (List.mem_of_getElem? (i := 64) rfl) rfl) (x_dk dl_14_0_ok 32 rfl)))))))
  (x_Tok2
  (x_Tok2
  (x_Lok (x_st (I := xI) (xr_putF (ci := 4) (k := 9) (ix := 33) (N := 20) (fk := 2) (C := RX4) (T := TX4) (ty0 := tyX4) (ty := .array .int) rfl in_X4 tyX4_ok nmX4 (by decide) (in_t1 (List.mem_of_getElem? (i := 191) rfl) rfl) rfl rfl rfl rfl x_fit_arr (x_dk dl_14_0_ok 33 rfl))))
  (x_Lok (x_st (I := xI) (xr_aload_n (i := 0) (x_dk dl_14_0_ok 34 rfl)))))
  (x_Tok2
  (x_Lok (x_st (I := xI) (xr_iconst (n := 4) (z := 4) (v := 4) (x_dk dl_14_0_ok 35 rfl) (by decide) (by decide))))
  (x_Tok2
  (x_Lok (x_st (I := xI) (xr_newa (kd := 1) (b := false) (ty := .int) rfl rfl (in_t1 (List.mem_of_getElem? (i := 64) rfl) rfl) (x_dk dl_14_0_ok 36 rfl))))
  (x_Lok (x_st (I := xI) (xr_putF (ci := 4) (k := 10) (ix := 36) (N := 20) (fk := 2) (C := RX4) (T := TX4) (ty0 := tyX4) (ty := .array .int) rfl in_X4 tyX4_ok nmX4 (by decide) (in_t1 (List.mem_of_getElem? (i := 192) rfl) rfl) rfl rfl rfl rfl x_fit_arr (x_dk dl_14_0_ok 37 rfl))))))))))
def tb_14_38 : Nat → xE := (x_T 101 (x_T 82 (x_T 71 (x_T 68 (x_T 67 (x_L 67 (0, xi_load 0 2 68, 0, 0)) (x_L 68 (0, xi_push (0, 4, 4) 69, 0, 0))) (x_T 69 (x_L 69 (0, xi_newa 1 0 (0, 0, 0) (xm_c m_14) (xm_s m_14) 71, 0, 0)) (x_L 71 (0, xi_putf 4 11 2 74, 0, 0)))) (x_T 75 (x_T 74 (x_L 74 (0, xi_load 0 2 75, 0, 0)) (x_L 75 (0, xi_push (0, 4, 4) 76, 0, 0))) (x_T 76 (x_L 76 (0, xi_push (0, 32, 32) 78, 0, 0)) (x_T 78 (x_L 78 (0, xi_mna (xm_c m_14) (xm_s m_14) 82, 0, 0)) (x_L 82 (0, xi_putf 4 12 2 85, 0, 0)))))) (x_T 92 (x_T 86 (x_T 85 (x_L 85 (0, xi_load 0 2 86, 0, 0)) (x_L 86 (0, xi_push (0, 4, 4) 87, 0, 0))) (x_T 87 (x_L 87 (0, xi_newa 1 0 (0, 0, 0) (xm_c m_14) (xm_s m_14) 89, 0, 0)) (x_T 89 (x_L 89 (0, xi_putf 4 13 2 92, 0, 0)) (x_L 92 (0, xi_load 0 2 93, 0, 0))))) (x_T 95 (x_T 93 (x_L 93 (0, xi_push (0, 32, 32) 95, 0, 0)) (x_L 95 (0, xi_newa 1 0 (0, 0, 0) (xm_c m_14) (xm_s m_14) 97, 0, 0))) (x_T 97 (x_L 97 (0, xi_putf 4 14 2 100, 0, 0)) (x_T 100 (x_L 100 (0, xi_load 0 2 101, 0, 0)) (x_L 101 (0, xi_push (0, 32, 32) 103, 0, 0))))))) (x_T 121 (x_T 111 (x_T 105 (x_T 103 (x_L 103 (0, xi_newa 1 0 (0, 0, 0) (xm_c m_14) (xm_s m_14) 105, 0, 0)) (x_L 105 (0, xi_putf 4 15 2 108, 0, 0))) (x_T 108 (x_L 108 (0, xi_load 0 2 109, 0, 0)) (x_T 109 (x_L 109 (0, xi_push (0, 32, 32) 111, 0, 0)) (x_L 111 (0, xi_newa 1 0 (0, 0, 0) (xm_c m_14) (xm_s m_14) 113, 0, 0))))) (x_T 116 (x_T 113 (x_L 113 (0, xi_putf 4 16 2 116, 0, 0)) (x_L 116 (0, xi_load 0 2 117, 0, 0))) (x_T 117 (x_L 117 (0, xi_push (0, 32, 32) 119, 0, 0)) (x_T 119 (x_L 119 (0, xi_newa 1 0 (0, 0, 0) (xm_c m_14) (xm_s m_14) 121, 0, 0)) (x_L 121 (0, xi_putf 4 17 2 124, 0, 0)))))) (x_T 132 (x_T 125 (x_T 124 (x_L 124 (0, xi_load 0 2 125, 0, 0)) (x_L 125 (0, xi_push (0, 32, 32) 127, 0, 0))) (x_T 127 (x_L 127 (0, xi_newa 1 0 (0, 0, 0) (xm_c m_14) (xm_s m_14) 129, 0, 0)) (x_T 129 (x_L 129 (0, xi_putf 4 18 2 132, 0, 0)) (x_L 132 (0, xi_load 0 2 133, 0, 0))))) (x_T 135 (x_T 133 (x_L 133 (0, xi_push (0, 32, 32) 135, 0, 0)) (x_L 135 (0, xi_push (0, 4, 4) 136, 0, 0))) (x_T 136 (x_L 136 (0, xi_mna (xm_c m_14) (xm_s m_14) 140, 0, 0)) (x_T 140 (x_L 140 (0, xi_putf 4 19 2 143, 0, 0)) (x_L 143 (1, x_nof, 0, 0))))))))
set_option maxRecDepth 20000 in
set_option maxHeartbeats 4000000 in
theorem tb_14_38_ok (K : xKx) (hK : x_KP K) : ∀ pc, x_EOq cls K xI m_14 pc (tb_14_38 pc) :=
  (x_Tok2
  (x_Tok2
  (x_Tok2
  (x_Tok2
  (x_Tok2
  (x_Lok (x_st (I := xI) (xr_aload_n (i := 0) (x_dk dl_14_0_ok 38 rfl))))
  (x_Lok (x_st (I := xI) (xr_iconst (n := 4) (z := 4) (v := 4) (x_dk dl_14_0_ok 39 rfl) (by decide) (by decide)))))
  (x_Tok2
  (x_Lok (x_st (I := xI) (xr_newa (kd := 1) (b := false) (ty := .int) rfl rfl (in_t1 (List.mem_of_getElem? (i := 64) rfl) rfl) (x_dk dl_14_0_ok 40 rfl))))
  (x_Lok (x_st (I := xI) (xr_putF (ci := 4) (k := 11) (ix := 39) (N := 20) (fk := 2) (C := RX4) (T := TX4) (ty0 := tyX4) (ty := .array .int) rfl in_X4 tyX4_ok nmX4 (by decide) (in_t1 (List.mem_of_getElem? (i := 193) rfl) rfl) rfl rfl rfl rfl x_fit_arr (x_dk dl_14_0_ok 41 rfl))))))
  (x_Tok2
  (x_Tok2
  (x_Lok (x_st (I := xI) (xr_aload_n (i := 0) (x_dk dl_14_0_ok 42 rfl))))
  (x_Lok (x_st (I := xI) (xr_iconst (n := 4) (z := 4) (v := 4) (x_dk dl_14_0_ok 43 rfl) (by decide) (by decide)))))
  (x_Tok2
  (x_Lok (x_st (I := xI) (xr_bipush (n := 32) (z := 32) (v := 32) (x_dk dl_14_0_ok 44 rfl) (by decide) (by decide))))
  (x_Tok2
  (x_Lok (x_st (I := xI) (xr_mna (ix := 42) (C := "[[I") (by decide +kernel) (in_t1 (List.mem_of_getElem? (i := 173) rfl) rfl) (in_t1 (List.mem_of_getElem? (i := 64) rfl) rfl) (x_dk dl_14_0_ok 45 rfl))))
  (x_Lok (x_st (I := xI) (xr_putF (ci := 4) (k := 12) (ix := 44) (N := 20) (fk := 2) (C := RX4) (T := TX4) (ty0 := tyX4) (ty := .array (.array .int)) rfl in_X4 tyX4_ok nmX4 (by decide) (in_t1 (List.mem_of_getElem? (i := 194) rfl) rfl) rfl rfl rfl rfl x_fit_arr (x_dk dl_14_0_ok 46 rfl))))))))
  (x_Tok2
  (x_Tok2
  (x_Tok2
  (x_Lok (x_st (I := xI) (xr_aload_n (i := 0) (x_dk dl_14_0_ok 47 rfl))))
  (x_Lok (x_st (I := xI) (xr_iconst (n := 4) (z := 4) (v := 4) (x_dk dl_14_0_ok 48 rfl) (by decide) (by decide)))))
  (x_Tok2
  (x_Lok (x_st (I := xI) (xr_newa (kd := 1) (b := false) (ty := .int) rfl rfl (in_t1 (List.mem_of_getElem? (i := 64) rfl) rfl) (x_dk dl_14_0_ok 49 rfl))))
  (x_Tok2
  (x_Lok (x_st (I := xI) (xr_putF (ci := 4) (k := 13) (ix := 47) (N := 20) (fk := 2) (C := RX4) (T := TX4) (ty0 := tyX4) (ty := .array .int) rfl in_X4 tyX4_ok nmX4 (by decide) (in_t1 (List.mem_of_getElem? (i := 195) rfl) rfl) rfl rfl rfl rfl x_fit_arr (x_dk dl_14_0_ok 50 rfl))))
  (x_Lok (x_st (I := xI) (xr_aload_n (i := 0) (x_dk dl_14_0_ok 51 rfl)))))))
  (x_Tok2
  (x_Tok2
  (x_Lok (x_st (I := xI) (xr_bipush (n := 32) (z := 32) (v := 32) (x_dk dl_14_0_ok 52 rfl) (by decide) (by decide))))
  (x_Lok (x_st (I := xI) (xr_newa (kd := 1) (b := false) (ty := .int) rfl rfl (in_t1 (List.mem_of_getElem? (i := 64) rfl) rfl) (x_dk dl_14_0_ok 53 rfl)))))
  (x_Tok2
  (x_Lok (x_st (I := xI) (xr_putF (ci := 4) (k := 14) (ix := 50) (N := 20) (fk := 2) (C := RX4) (T := TX4) (ty0 := tyX4) (ty := .array .int) rfl in_X4 tyX4_ok nmX4 (by decide) (in_t1 (List.mem_of_getElem? (i := 196) rfl) rfl) rfl rfl rfl rfl x_fit_arr (x_dk dl_14_0_ok 54 rfl))))
  (x_Tok2
  (x_Lok (x_st (I := xI) (xr_aload_n (i := 0) (x_dk dl_14_0_ok 55 rfl))))
  (x_Lok (x_st (I := xI) (xr_bipush (n := 32) (z := 32) (v := 32) (x_dk dl_14_0_ok 56 rfl) (by decide) (by decide)))))))))
  (x_Tok2
  (x_Tok2
  (x_Tok2
  (x_Tok2
  (x_Lok (x_st (I := xI) (xr_newa (kd := 1) (b := false) (ty := .int) rfl rfl (in_t1 (List.mem_of_getElem? (i := 64) rfl) rfl) (x_dk dl_14_0_ok 57 rfl))))
  (x_Lok (x_st (I := xI) (xr_putF (ci := 4) (k := 15) (ix := 53) (N := 20) (fk := 2) (C := RX4) (T := TX4) (ty0 := tyX4) (ty := .array .int) rfl in_X4 tyX4_ok nmX4 (by decide) (in_t1 (List.mem_of_getElem? (i := 198) rfl) rfl) rfl rfl rfl rfl x_fit_arr (x_dk dl_14_0_ok 58 rfl)))))
  (x_Tok2
  (x_Lok (x_st (I := xI) (xr_aload_n (i := 0) (x_dk dl_14_0_ok 59 rfl))))
  (x_Tok2
  (x_Lok (x_st (I := xI) (xr_bipush (n := 32) (z := 32) (v := 32) (x_dk dl_14_0_ok 60 rfl) (by decide) (by decide))))
  (x_Lok (x_st (I := xI) (xr_newa (kd := 1) (b := false) (ty := .int) rfl rfl (in_t1 (List.mem_of_getElem? (i := 64) rfl) rfl) (x_dk dl_14_0_ok 61 rfl)))))))
  (x_Tok2
  (x_Tok2
  (x_Lok (x_st (I := xI) (xr_putF (ci := 4) (k := 16) (ix := 56) (N := 20) (fk := 2) (C := RX4) (T := TX4) (ty0 := tyX4) (ty := .array .int) rfl in_X4 tyX4_ok nmX4 (by decide) (in_t1 (List.mem_of_getElem? (i := 200) rfl) rfl) rfl rfl rfl rfl x_fit_arr (x_dk dl_14_0_ok 62 rfl))))
  (x_Lok (x_st (I := xI) (xr_aload_n (i := 0) (x_dk dl_14_0_ok 63 rfl)))))
  (x_Tok2
  (x_Lok (x_st (I := xI) (xr_bipush (n := 32) (z := 32) (v := 32) (x_dk dl_14_0_ok 64 rfl) (by decide) (by decide))))
  (x_Tok2
  (x_Lok (x_st (I := xI) (xr_newa (kd := 1) (b := false) (ty := .int) rfl rfl (in_t1 (List.mem_of_getElem? (i := 64) rfl) rfl) (x_dk dl_14_0_ok 65 rfl))))
  (x_Lok (x_st (I := xI) (xr_putF (ci := 4) (k := 17) (ix := 59) (N := 20) (fk := 2) (C := RX4) (T := TX4) (ty0 := tyX4) (ty := .array .int) rfl in_X4 tyX4_ok nmX4 (by decide) (in_t1 (List.mem_of_getElem? (i := 202) rfl) rfl) rfl rfl rfl rfl x_fit_arr (x_dk dl_14_0_ok 66 rfl))))))))
  (x_Tok2
  (x_Tok2
  (x_Tok2
  (x_Lok (x_st (I := xI) (xr_aload_n (i := 0) (x_dk dl_14_0_ok 67 rfl))))
  (x_Lok (x_st (I := xI) (xr_bipush (n := 32) (z := 32) (v := 32) (x_dk dl_14_0_ok 68 rfl) (by decide) (by decide)))))
  (x_Tok2
  (x_Lok (x_st (I := xI) (xr_newa (kd := 1) (b := false) (ty := .int) rfl rfl (in_t1 (List.mem_of_getElem? (i := 64) rfl) rfl) (x_dk dl_14_0_ok 69 rfl))))
  (x_Tok2
  (x_Lok (x_st (I := xI) (xr_putF (ci := 4) (k := 18) (ix := 62) (N := 20) (fk := 2) (C := RX4) (T := TX4) (ty0 := tyX4) (ty := .array .int) rfl in_X4 tyX4_ok nmX4 (by decide) (in_t1 (List.mem_of_getElem? (i := 203) rfl) rfl) rfl rfl rfl rfl x_fit_arr (x_dk dl_14_0_ok 70 rfl))))
  (x_Lok (x_st (I := xI) (xr_aload_n (i := 0) (x_dk dl_14_0_ok 71 rfl)))))))
  (x_Tok2
  (x_Tok2
  (x_Lok (x_st (I := xI) (xr_bipush (n := 32) (z := 32) (v := 32) (x_dk dl_14_0_ok 72 rfl) (by decide) (by decide))))
  (x_Lok (x_st (I := xI) (xr_iconst (n := 4) (z := 4) (v := 4) (x_dk dl_14_0_ok 73 rfl) (by decide) (by decide)))))
  (x_Tok2
  (x_Lok (x_st (I := xI) (xr_mna (ix := 42) (C := "[[I") (by decide +kernel) (in_t1 (List.mem_of_getElem? (i := 173) rfl) rfl) (in_t1 (List.mem_of_getElem? (i := 64) rfl) rfl) (x_dk dl_14_0_ok 74 rfl))))
  (x_Tok2
  (x_Lok (x_st (I := xI) (xr_putF (ci := 4) (k := 19) (ix := 65) (N := 20) (fk := 2) (C := RX4) (T := TX4) (ty0 := tyX4) (ty := .array (.array .int)) rfl in_X4 tyX4_ok nmX4 (by decide) (in_t1 (List.mem_of_getElem? (i := 204) rfl) rfl) rfl rfl rfl rfl x_fit_arr (x_dk dl_14_0_ok 75 rfl))))
  (x_Lok (x_rt (I := xI) (k := 0) ⟨(x_dk dl_14_0_ok 76 rfl), rfl⟩))))))))
def tb_14 : Nat → xE := (x_T 64 tb_14_0 tb_14_38)
theorem tb_14_ok (K : xKx) (hK : x_KP K) : ∀ pc, x_EOq cls K xI m_14 pc (tb_14 pc) := (x_Tok2 (tb_14_0_ok K hK) (tb_14_38_ok K hK))
def dl_15_0 : List (Nat × Instr × Nat) := [(0, .iload_n 0, 1), (1, .ifCond .ne 7, 3), (4, .iconst 1, 1), (5, .goto 13, 3), (8, .iload_n 0, 1), (9, .iconst 2, 1), (10, .if_icmp .ne 7, 3), (13, .iconst (-1), 1), (14, .goto 4, 3), (17, .iconst 0, 1), (18, .ireturn, 1)]
set_option maxRecDepth 20000 in
theorem dl_15_0_ok : dl_15_0.all (fun q => decide (decode prog_6_method_2_code q.1 = .ok (q.2.1, q.2.2))) = true := by decide +kernel
def tb_15_0 : Nat → xE := (x_T 8 (x_T 1 (x_T 0 (x_L 0 (0, xi_load 0 0 1, 0, 0)) (x_L 1 (0, xi_if1 1 8 4, 0, 0))) (x_T 4 (x_L 4 (0, xi_push (0, 1, 1) 5, 0, 0)) (x_T 5 (x_L 5 (0, xi_goto 18, 0, 0)) (x_L 8 (0, xi_load 0 0 9, 0, 0))))) (x_T 13 (x_T 9 (x_L 9 (0, xi_push (0, 2, 2) 10, 0, 0)) (x_T 10 (x_L 10 (0, xi_if2 1 17 13, 0, 0)) (x_L 13 (0, xi_push (0, (-1), (-1)) 14, 0, 0)))) (x_T 14 (x_L 14 (0, xi_goto 18, 0, 0)) (x_T 17 (x_L 17 (0, xi_push (0, 0, 0) 18, 0, 0)) (x_L 18 (1, x_nof, 1, 0))))))
set_option maxRecDepth 20000 in
set_option maxHeartbeats 4000000 in
theorem tb_15_0_ok (K : xKx) (hK : x_KP K) : ∀ pc, x_EOq cls K xI m_15 pc (tb_15_0 pc) :=
  (x_Tok2
  (x_Tok2
  (x_Tok2
  (x_Lok (x_st (I := xI) (xr_iload_n (i := 0) (x_dk dl_15_0_ok 0 rfl))))
  (x_Lok (x_st (I := xI) (xr_ifne (off := 7) (tg := 8) (x_dk dl_15_0_ok 1 rfl) (by decide)))))
  (x_Tok2
  (x_Lok (x_st (I := xI) (xr_iconst (n := 1) (z := 1) (v := 1) (x_dk dl_15_0_ok 2 rfl) (by decide) (by decide))))
  (x_Tok2
  (x_Lok (x_st (I := xI) (xr_goto (off := 13) (tg := 18) (x_dk dl_15_0_ok 3 rfl) (by decide))))
  (x_Lok (x_st (I := xI) (xr_iload_n (i := 0) (x_dk dl_15_0_ok 4 rfl)))))))
  (x_Tok2
  (x_Tok2
  (x_Lok (x_st (I := xI) (xr_iconst (n := 2) (z := 2) (v := 2) (x_dk dl_15_0_ok 5 rfl) (by decide) (by decide))))
  (x_Tok2
  (x_Lok (x_st (I := xI) (xr_icmpne (off := 7) (tg := 17) (x_dk dl_15_0_ok 6 rfl) (by decide))))
  (x_Lok (x_st (I := xI) (xr_iconst (n := (-1)) (z := (-1)) (v := (-1)) (x_dk dl_15_0_ok 7 rfl) (by decide) (by decide))))))
  (x_Tok2
  (x_Lok (x_st (I := xI) (xr_goto (off := 4) (tg := 18) (x_dk dl_15_0_ok 8 rfl) (by decide))))
  (x_Tok2
  (x_Lok (x_st (I := xI) (xr_iconst (n := 0) (z := 0) (v := 0) (x_dk dl_15_0_ok 9 rfl) (by decide) (by decide))))
  (x_Lok (x_rt (I := xI) (k := 1) ⟨(x_dk dl_15_0_ok 10 rfl), rfl⟩))))))
def tb_15 : Nat → xE := tb_15_0
theorem tb_15_ok (K : xKx) (hK : x_KP K) : ∀ pc, x_EOq cls K xI m_15 pc (tb_15 pc) := tb_15_0_ok K hK
def dl_16_0 : List (Nat × Instr × Nat) := [(0, .iload_n 0, 1), (1, .iconst 1, 1), (2, .if_icmp .ne 7, 3), (5, .iconst 1, 1), (6, .goto 13, 3), (9, .iload_n 0, 1), (10, .iconst 3, 1), (11, .if_icmp .ne 7, 3), (14, .iconst (-1), 1), (15, .goto 4, 3), (18, .iconst 0, 1), (19, .ireturn, 1)]
set_option maxRecDepth 20000 in
theorem dl_16_0_ok : dl_16_0.all (fun q => decide (decode prog_6_method_3_code q.1 = .ok (q.2.1, q.2.2))) = true := by decide +kernel
def tb_16_0 : Nat → xE := (x_T 9 (x_T 2 (x_T 0 (x_L 0 (0, xi_load 0 0 1, 0, 0)) (x_T 1 (x_L 1 (0, xi_push (0, 1, 1) 2, 0, 0)) (x_L 2 (0, xi_if2 1 9 5, 0, 0)))) (x_T 5 (x_L 5 (0, xi_push (0, 1, 1) 6, 0, 0)) (x_T 6 (x_L 6 (0, xi_goto 19, 0, 0)) (x_L 9 (0, xi_load 0 0 10, 0, 0))))) (x_T 14 (x_T 10 (x_L 10 (0, xi_push (0, 3, 3) 11, 0, 0)) (x_T 11 (x_L 11 (0, xi_if2 1 18 14, 0, 0)) (x_L 14 (0, xi_push (0, (-1), (-1)) 15, 0, 0)))) (x_T 15 (x_L 15 (0, xi_goto 19, 0, 0)) (x_T 18 (x_L 18 (0, xi_push (0, 0, 0) 19, 0, 0)) (x_L 19 (1, x_nof, 1, 0))))))
set_option maxRecDepth 20000 in
set_option maxHeartbeats 4000000 in
theorem tb_16_0_ok (K : xKx) (hK : x_KP K) : ∀ pc, x_EOq cls K xI m_16 pc (tb_16_0 pc) :=
  (x_Tok2
  (x_Tok2
  (x_Tok2
  (x_Lok (x_st (I := xI) (xr_iload_n (i := 0) (x_dk dl_16_0_ok 0 rfl))))
  (x_Tok2
  (x_Lok (x_st (I := xI) (xr_iconst (n := 1) (z := 1) (v := 1) (x_dk dl_16_0_ok 1 rfl) (by decide) (by decide))))
  (x_Lok (x_st (I := xI) (xr_icmpne (off := 7) (tg := 9) (x_dk dl_16_0_ok 2 rfl) (by decide))))))
  (x_Tok2
  (x_Lok (x_st (I := xI) (xr_iconst (n := 1) (z := 1) (v := 1) (x_dk dl_16_0_ok 3 rfl) (by decide) (by decide))))
  (x_Tok2
  (x_Lok (x_st (I := xI) (xr_goto (off := 13) (tg := 19) (x_dk dl_16_0_ok 4 rfl) (by decide))))
  (x_Lok (x_st (I := xI) (xr_iload_n (i := 0) (x_dk dl_16_0_ok 5 rfl)))))))
  (x_Tok2
  (x_Tok2
  (x_Lok (x_st (I := xI) (xr_iconst (n := 3) (z := 3) (v := 3) (x_dk dl_16_0_ok 6 rfl) (by decide) (by decide))))
  (x_Tok2
  (x_Lok (x_st (I := xI) (xr_icmpne (off := 7) (tg := 18) (x_dk dl_16_0_ok 7 rfl) (by decide))))
  (x_Lok (x_st (I := xI) (xr_iconst (n := (-1)) (z := (-1)) (v := (-1)) (x_dk dl_16_0_ok 8 rfl) (by decide) (by decide))))))
  (x_Tok2
  (x_Lok (x_st (I := xI) (xr_goto (off := 4) (tg := 19) (x_dk dl_16_0_ok 9 rfl) (by decide))))
  (x_Tok2
  (x_Lok (x_st (I := xI) (xr_iconst (n := 0) (z := 0) (v := 0) (x_dk dl_16_0_ok 10 rfl) (by decide) (by decide))))
  (x_Lok (x_rt (I := xI) (k := 1) ⟨(x_dk dl_16_0_ok 11 rfl), rfl⟩))))))
def tb_16 : Nat → xE := tb_16_0
theorem tb_16_ok (K : xKx) (hK : x_KP K) : ∀ pc, x_EOq cls K xI m_16 pc (tb_16 pc) := tb_16_0_ok K hK
def dl_17_0 : List (Nat × Instr × Nat) := [(0, .aload_n 0, 1), (1, .getfield 68, 3), (4, .istore 6, 2), (6, .aload_n 0, 1), (7, .getfield 27, 3), (10, .iload 6, 2), (12, .iload_n 1, 1), (13, .iastore, 1), (14, .aload_n 0, 1), (15, .getfield 30, 3), (18, .iload 6, 2), (20, .iload_n 2, 1), (21, .iastore, 1), (22, .aload_n 0, 1), (23, .getfield 33, 3), (26, .iload 6, 2), (28, .iload_n 3, 1), (29, .invokestatic 72, 3), (32, .iastore, 1), (33, .aload_n 0, 1), (34, .getfield 36, 3), (37, .iload 6, 2), (39, .iload_n 3, 1), (40, .invokestatic 76, 3), (43, .iastore, 1), (44, .aload_n 0, 1), (45, .getfield 9, 3), (48, .iload 6, 2), (50, .iload 4, 2), (52, .iastore, 1), (53, .aload_n 0, 1), (54, .getfield 39, 3), (57, .iload 6, 2), (59, .iload 5, 2), (61, .iastore, 1), (62, .aload_n 0, 1), (63, .getfield 15, 3), (66, .iload 6, 2), (68, .iconst 0, 1), (69, .iastore, 1), (70, .aload_n 0, 1), (71, .getfield 18, 3), (74, .iload 6, 2), (76, .iconst (-1), 1), (77, .iastore, 1), (78, .aload_n 0, 1), (79, .getfield 47, 3), (82, .iload 6, 2), (84, .iconst 0, 1), (85, .iastore, 1), (86, .aload_n 0, 1), (87, .dup, 1), (88, .getfield 68, 3), (91, .iconst 1, 1), (92, .iadd, 1), (93, .putfield 68, 3), (96, .iload 6, 2), (98, .ireturn, 1)]
set_option maxRecDepth 20000 in
theorem dl_17_0_ok : dl_17_0.all (fun q => decide (decode prog_6_method_4_code q.1 = .ok (q.2.1, q.2.2))) = true := by decide +kernel
def tb_17_0 : Nat → xE := (x_T 22 (x_T 12 (x_T 4 (x_T 0 (x_L 0 (0, xi_load 0 2 1, 0, 0)) (x_T 1 (x_L 1 (0, xi_getf 4 0 4, 0, 0)) (x_L 4 (0, xi_stor 6 0 6, 0, 0)))) (x_T 7 (x_T 6 (x_L 6 (0, xi_load 0 2 7, 0, 0)) (x_L 7 (0, xi_getf 4 7 10, 0, 0))) (x_T 10 (x_L 10 (0, xi_load 6 0 12, 0, 0)) (x_L 12 (0, xi_load 1 0 13, 0, 0))))) (x_T 15 (x_T 13 (x_L 13 (0, xi_ast false 14, 0, 0)) (x_T 14 (x_L 14 (0, xi_load 0 2 15, 0, 0)) (x_L 15 (0, xi_getf 4 8 18, 0, 0)))) (x_T 20 (x_T 18 (x_L 18 (0, xi_load 6 0 20, 0, 0)) (x_L 20 (0, xi_load 2 0 21, 0, 0))) (x_T 21 (x_L 21 (0, xi_ast false 22, 0, 0)) (x_L 22 (0, xi_load 0 2 23, 0, 0)))))) (x_T 34 (x_T 28 (x_T 23 (x_L 23 (0, xi_getf 4 9 26, 0, 0)) (x_T 26 (x_L 26 (0, xi_load 6 0 28, 0, 0)) (x_L 28 (0, xi_load 3 0 29, 0, 0)))) (x_T 32 (x_T 29 (x_L 29 (2, x_nof, 15, 1)) (x_L 32 (0, xi_ast false 33, 0, 0))) (x_T 33 (x_L 33 (0, xi_load 0 2 34, 0, 0)) (x_L 34 (0, xi_getf 4 10 37, 0, 0))))) (x_T 43 (x_T 39 (x_T 37 (x_L 37 (0, xi_load 6 0 39, 0, 0)) (x_L 39 (0, xi_load 3 0 40, 0, 0))) (x_T 40 (x_L 40 (2, x_nof, 16, 1)) (x_L 43 (0, xi_ast false 44, 0, 0)))) (x_T 45 (x_T 44 (x_L 44 (0, xi_load 0 2 45, 0, 0)) (x_L 45 (0, xi_getf 4 2 48, 0, 0))) (x_T 48 (x_L 48 (0, xi_load 6 0 50, 0, 0)) (x_L 50 (0, xi_load 4 0 52, 0, 0)))))))
set_option maxRecDepth 20000 in
set_option maxHeartbeats 4000000 in
theorem tb_17_0_ok (K : xKx) (hK : x_KP K) : ∀ pc, x_EOq cls K xI m_17 pc (tb_17_0 pc) :=
  (x_Tok2
  (x_Tok2
  (x_Tok2
  (x_Tok2
  (x_Lok (x_st (I := xI) (xr_aload_n (i := 0) (x_dk dl_17_0_ok 0 rfl))))
  (x_Tok2
  (x_Lok (x_st (I := xI) (xr_getf (ci := 4) (k := 0) (ix := 68) (N := 20) (C := RX4) (T := TX4) rfl in_X4 (by decide) (in_t1 (List.mem_of_getElem? (i := 175) rfl) rfl) (x_dk dl_17_0_ok 1 rfl))))
  (x_Lok (x_st (I := xI) (xr_istore (i := 6) (x_dk dl_17_0_ok 2 rfl) (by decide +kernel))))))
  (x_Tok2
  (x_Tok2
  (x_Lok (x_st (I := xI) (xr_aload_n (i := 0) (x_dk dl_17_0_ok 3 rfl))))
  (x_Lok (x_st (I := xI) (xr_getf (ci := 4) (k := 7) (ix := 27) (N := 20) (C := RX4) (T := TX4) rfl in_X4 (by decide) (in_t1 (List.mem_of_getElem? (i := 189) rfl) rfl) (x_dk dl_17_0_ok 4 rfl)))))
  (x_Tok2
  (x_Lok (x_st (I := xI) (xr_iload (i := 6) (x_dk dl_17_0_ok 5 rfl))))
  (x_Lok (x_st (I := xI) (xr_iload_n (i := 1) (x_dk dl_17_0_ok 6 rfl)))))))
  (x_Tok2
  (x_Tok2
  (x_Lok (x_st (I := xI) (xr_iastore (x_dk dl_17_0_ok 7 rfl))))
  (x_Tok2
  (x_Lok (x_st (I := xI) (xr_aload_n (i := 0) (x_dk dl_17_0_ok 8 rfl))))
  (x_Lok (x_st (I := xI) (xr_getf (ci := 4) (k := 8) (ix := 30) (N := 20) (C := RX4) (T := TX4) rfl in_X4 (by decide) (in_t1 (List.mem_of_getElem? (i := 190) rfl) rfl) (x_dk dl_17_0_ok 9 rfl))))))
  (x_Tok2
  (x_Tok2
  (x_Lok (x_st (I := xI) (xr_iload (i := 6) (x_dk dl_17_0_ok 10 rfl))))
  (x_Lok (x_st (I := xI) (xr_iload_n (i := 2) (x_dk dl_17_0_ok 11 rfl)))))
  (x_Tok2
  (x_Lok (x_st (I := xI) (xr_iastore (x_dk dl_17_0_ok 12 rfl))))
  (x_Lok (x_st (I := xI) (xr_aload_n (i := 0) (x_dk dl_17_0_ok 13 rfl))))))))
  (x_Tok2
  (x_Tok2
  (x_Tok2
  (x_Lok (x_st (I := xI) (xr_getf (ci := 4) (k := 9) (ix := 33) (N := 20) (C := RX4) (T := TX4) rfl in_X4 (by decide) (in_t1 (List.mem_of_getElem? (i := 191) rfl) rfl) (x_dk dl_17_0_ok 14 rfl))))
  (x_Tok2
  (x_Lok (x_st (I := xI) (xr_iload (i := 6) (x_dk dl_17_0_ok 15 rfl))))
  (x_Lok (x_st (I := xI) (xr_iload_n (i := 3) (x_dk dl_17_0_ok 16 rfl))))))
  (x_Tok2
  (x_Tok2
  (x_Lok (x_ca (I := xI) (q' := m_15) rfl (xr_callS (q' := m_15) (ix := 72) (n := 1) (in_t4 (List.mem_of_getElem? (i := 238) rfl) rfl) good_w (in_t1 (List.mem_of_getElem? (i := 6) rfl) rfl) (in_t5 (List.mem_of_getElem? (i := 6) rfl) rfl) (in_t4 (List.mem_of_getElem? (i := 237) rfl) rfl) (by decide +kernel) (by decide +kernel) (x_dk dl_17_0_ok 17 rfl))))
  (x_Lok (x_st (I := xI) (xr_iastore (x_dk dl_17_0_ok 18 rfl)))))
  (x_Tok2
  (x_Lok (x_st (I := xI) (xr_aload_n (i := 0) (x_dk dl_17_0_ok 19 rfl))))
  (x_Lok (x_st (I := xI) (xr_getf (ci := 4) (k := 10) (ix := 36) (N := 20) (C := RX4) (T := TX4) rfl in_X4 (by decide) (in_t1 (List.mem_of_getElem? (i := 192) rfl) rfl) (x_dk dl_17_0_ok 20 rfl)))))))
  (x_Tok2
  (x_Tok2
  (x_Tok2
  (x_Lok (x_st (I := xI) (xr_iload (i := 6) (x_dk dl_17_0_ok 21 rfl))))
  (x_Lok (x_st (I := xI) (xr_iload_n (i := 3) (x_dk dl_17_0_ok 22 rfl)))))
  (x_Tok2
  (x_Lok (x_ca (I := xI) (q' := m_16) rfl (xr_callS (q' := m_16) (ix := 76) (n := 1) (in_t5 (List.mem_of_getElem? (i := 1) rfl) rfl) good_w (in_t1 (List.mem_of_getElem? (i := 6) rfl) rfl) (in_t5 (List.mem_of_getElem? (i := 7) rfl) rfl) (in_t5 (List.mem_of_getElem? (i := 0) rfl) rfl) (by decide +kernel) (by decide +kernel) (x_dk dl_17_0_ok 23 rfl))))
  (x_Lok (x_st (I := xI) (xr_iastore (x_dk dl_17_0_ok 24 rfl))))))
  (x_Tok2
  (x_Tok2
  (x_Lok (x_st (I := xI) (xr_aload_n (i := 0) (x_dk dl_17_0_ok 25 rfl))))
  (x_Lok (x_st (I := xI) (xr_getf (ci := 4) (k := 2) (ix := 9) (N := 20) (C := RX4) (T := TX4) rfl in_X4 (by decide) (in_t1 (List.mem_of_getElem? (i := 179) rfl) rfl) (x_dk dl_17_0_ok 26 rfl)))))
  (x_Tok2
  (x_Lok (x_st (I := xI) (xr_iload (i := 6) (x_dk dl_17_0_ok 27 rfl))))
  (x_Lok (x_st (I := xI) (xr_iload (i := 4) (x_dk dl_17_0_ok 28 rfl)))))))))
def tb_17_29 : Nat → xE := (x_T 74 (x_T 62 (x_T 54 (x_T 52 (x_L 52 (0, xi_ast false 53, 0, 0)) (x_T 53 (x_L 53 (0, xi_load 0 2 54, 0, 0)) (x_L 54 (0, xi_getf 4 11 57, 0, 0)))) (x_T 59 (x_T 57 (x_L 57 (0, xi_load 6 0 59, 0, 0)) (x_L 59 (0, xi_load 5 0 61, 0, 0))) (x_T 61 (x_L 61 (0, xi_ast false 62, 0, 0)) (x_L 62 (0, xi_load 0 2 63, 0, 0))))) (x_T 68 (x_T 63 (x_L 63 (0, xi_getf 4 3 66, 0, 0)) (x_T 66 (x_L 66 (0, xi_load 6 0 68, 0, 0)) (x_L 68 (0, xi_push (0, 0, 0) 69, 0, 0)))) (x_T 70 (x_T 69 (x_L 69 (0, xi_ast false 70, 0, 0)) (x_L 70 (0, xi_load 0 2 71, 0, 0))) (x_T 71 (x_L 71 (0, xi_getf 4 4 74, 0, 0)) (x_L 74 (0, xi_load 6 0 76, 0, 0)))))) (x_T 85 (x_T 78 (x_T 76 (x_L 76 (0, xi_push (0, (-1), (-1)) 77, 0, 0)) (x_T 77 (x_L 77 (0, xi_ast false 78, 0, 0)) (x_L 78 (0, xi_load 0 2 79, 0, 0)))) (x_T 82 (x_T 79 (x_L 79 (0, xi_getf 4 13 82, 0, 0)) (x_L 82 (0, xi_load 6 0 84, 0, 0))) (x_T 84 (x_L 84 (0, xi_push (0, 0, 0) 85, 0, 0)) (x_L 85 (0, xi_ast false 86, 0, 0))))) (x_T 91 (x_T 87 (x_T 86 (x_L 86 (0, xi_load 0 2 87, 0, 0)) (x_L 87 (0, xi_stk xf_dup 88, 0, 0))) (x_T 88 (x_L 88 (0, xi_getf 4 0 91, 0, 0)) (x_L 91 (0, xi_push (0, 1, 1) 92, 0, 0)))) (x_T 93 (x_T 92 (x_L 92 (0, xi_bin xF_add 93, 0, 0)) (x_L 93 (0, xi_putf 4 0 0 96, 0, 0))) (x_T 96 (x_L 96 (0, xi_load 6 0 98, 0, 0)) (x_L 98 (1, x_nof, 1, 0)))))))
set_option maxRecDepth 20000 in
set_option maxHeartbeats 4000000 in
theorem tb_17_29_ok (K : xKx) (hK : x_KP K) : ∀ pc, x_EOq cls K xI m_17 pc (tb_17_29 pc) :=
  (x_Tok2
  (x_Tok2
  (x_Tok2
  (x_Tok2
  (x_Lok (x_st (I := xI) (xr_iastore (x_dk dl_17_0_ok 29 rfl))))
  (x_Tok2
  (x_Lok (x_st (I := xI) (xr_aload_n (i := 0) (x_dk dl_17_0_ok 30 rfl))))
  (x_Lok (x_st (I := xI) (xr_getf (ci := 4) (k := 11) (ix := 39) (N := 20) (C := RX4) (T := TX4) rfl in_X4 (by decide) (in_t1 (List.mem_of_getElem? (i := 193) rfl) rfl) (x_dk dl_17_0_ok 31 rfl))))))
  (x_Tok2
  (x_Tok2
  (x_Lok (x_st (I := xI) (xr_iload (i := 6) (x_dk dl_17_0_ok 32 rfl))))
  (x_Lok (x_st (I := xI) (xr_iload (i := 5) (x_dk dl_17_0_ok 33 rfl)))))
  (x_Tok2
  (x_Lok (x_st (I := xI) (xr_iastore (x_dk dl_17_0_ok 34 rfl))))
  (x_Lok (x_st (I := xI) (xr_aload_n (i := 0) (x_dk dl_17_0_ok 35 rfl)))))))
  (x_Tok2
  (x_Tok2
  (x_Lok (x_st (I := xI) (xr_getf (ci := 4) (k := 3) (ix := 15) (N := 20) (C := RX4) (T := TX4) rfl in_X4 (by decide) (in_t1 (List.mem_of_getElem? (i := 181) rfl) rfl) (x_dk dl_17_0_ok 36 rfl))))
  (x_Tok2
  (x_Lok (x_st (I := xI) (xr_iload (i := 6) (x_dk dl_17_0_ok 37 rfl))))
  (x_Lok (x_st (I := xI) (xr_iconst (n := 0) (z := 0) (v := 0) (x_dk dl_17_0_ok 38 rfl) (by decide) (by decide))))))
  (x_Tok2
  (x_Tok2
  (x_Lok (x_st (I := xI) (xr_iastore (x_dk dl_17_0_ok 39 rfl))))
  (x_Lok (x_st (I := xI) (xr_aload_n (i := 0) (x_dk dl_17_0_ok 40 rfl)))))
  (x_Tok2
  (x_Lok (x_st (I := xI) (xr_getf (ci := 4) (k := 4) (ix := 18) (N := 20) (C := RX4) (T := TX4) rfl in_X4 (by decide) (in_t1 (List.mem_of_getElem? (i := 183) rfl) rfl) (x_dk dl_17_0_ok 41 rfl))))
  (x_Lok (x_st (I := xI) (xr_iload (i := 6) (x_dk dl_17_0_ok 42 rfl))))))))
  (x_Tok2
  (x_Tok2
  (x_Tok2
  (x_Lok (x_st (I := xI) (xr_iconst (n := (-1)) (z := (-1)) (v := (-1)) (x_dk dl_17_0_ok 43 rfl) (by decide) (by decide))))
  (x_Tok2
  (x_Lok (x_st (I := xI) (xr_iastore (x_dk dl_17_0_ok 44 rfl))))
  (x_Lok (x_st (I := xI) (xr_aload_n (i := 0) (x_dk dl_17_0_ok 45 rfl))))))
  (x_Tok2
  (x_Tok2
  (x_Lok (x_st (I := xI) (xr_getf (ci := 4) (k := 13) (ix := 47) (N := 20) (C := RX4) (T := TX4) rfl in_X4 (by decide) (in_t1 (List.mem_of_getElem? (i := 195) rfl) rfl) (x_dk dl_17_0_ok 46 rfl))))
  (x_Lok (x_st (I := xI) (xr_iload (i := 6) (x_dk dl_17_0_ok 47 rfl)))))
  (x_Tok2
  (x_Lok (x_st (I := xI) (xr_iconst (n := 0) (z := 0) (v := 0) (x_dk dl_17_0_ok 48 rfl) (by decide) (by decide))))
  (x_Lok (x_st (I := xI) (xr_iastore (x_dk dl_17_0_ok 49 rfl)))))))
  (x_Tok2
  (x_Tok2
  (x_Tok2
  (x_Lok (x_st (I := xI) (xr_aload_n (i := 0) (x_dk dl_17_0_ok 50 rfl))))
  (x_Lok (x_st (I := xI) (xr_dup (x_dk dl_17_0_ok 51 rfl)))))
  (x_Tok2
  (x_Lok (x_st (I := xI) (xr_getf (ci := 4) (k := 0) (ix := 68) (N := 20) (C := RX4) (T := TX4) rfl in_X4 (by decide) (in_t1 (List.mem_of_getElem? (i := 175) rfl) rfl) (x_dk dl_17_0_ok 52 rfl))))
  (x_Lok (x_st (I := xI) (xr_iconst (n := 1) (z := 1) (v := 1) (x_dk dl_17_0_ok 53 rfl) (by decide) (by decide))))))
  (x_Tok2
  (x_Tok2
  (x_Lok (x_st (I := xI) (xr_iadd (x_dk dl_17_0_ok 54 rfl))))
  (x_Lok (x_st (I := xI) (xr_putf (ci := 4) (k := 0) (ix := 68) (N := 20) (fk := 0) (C := RX4) (T := TX4) (ty0 := tyX4) (ty := .int) rfl in_X4 tyX4_ok nmX4 (by decide) (in_t1 (List.mem_of_getElem? (i := 175) rfl) rfl) rfl rfl x_fit_int (x_dk dl_17_0_ok 55 rfl)))))
  (x_Tok2
  (x_Lok (x_st (I := xI) (xr_iload (i := 6) (x_dk dl_17_0_ok 56 rfl))))
  (x_Lok (x_rt (I := xI) (k := 1) ⟨(x_dk dl_17_0_ok 57 rfl), rfl⟩)))))))
def tb_17 : Nat → xE := (x_T 50 tb_17_0 tb_17_29)
theorem tb_17_ok (K : xKx) (hK : x_KP K) : ∀ pc, x_EOq cls K xI m_17 pc (tb_17 pc) := (x_Tok2 (tb_17_0_ok K hK) (tb_17_29_ok K hK))
def dl_18_0 : List (Nat × Instr × Nat) := [(0, .aload_n 0, 1), (1, .getfield 79, 3), (4, .bipush 32, 2), (6, .if_icmp .lt 6, 3), (12, .aload_n 0, 1), (13, .getfield 79, 3), (16, .istore 6, 2), (18, .aload_n 0, 1), (19, .getfield 65, 3), (22, .iload 6, 2), (24, .aaload, 1), (25, .iconst 0, 1), (26, .iload_n 1, 1), (27, .iastore, 1), (28, .aload_n 0, 1), (29, .getfield 65, 3), (32, .iload 6, 2), (34, .aaload, 1), (35, .iconst 1, 1), (36, .iload_n 2, 1), (37, .iastore, 1), (38, .aload_n 0, 1), (39, .getfield 65, 3), (42, .iload 6, 2), (44, .aaload, 1), (45, .iconst 2, 1), (46, .iload_n 3, 1), (47, .iastore, 1), (48, .aload_n 0, 1), (49, .getfield 65, 3), (52, .iload 6, 2), (54, .aaload, 1), (55, .iconst 3, 1), (56, .iload 4, 2), (58, .iastore, 1), (59, .aload_n 0, 1), (60, .getfield 56, 3), (63, .iload 6, 2), (65, .iload 5, 2), (67, .iastore, 1), (68, .aload_n 0, 1), (69, .dup, 1), (70, .getfield 79, 3), (73, .iconst 1, 1), (74, .iadd, 1), (75, .putfield 79, 3), (78, .aload_n 0, 1), (79, .iload 6, 2), (81, .invokevirtual 82, 3), (84, .iload 6, 2), (86, .ireturn, 1)]
set_option maxRecDepth 20000 in
theorem dl_18_0_ok : dl_18_0.all (fun q => decide (decode prog_6_method_5_code q.1 = .ok (q.2.1, q.2.2))) = true := by decide +kernel
def tb_18_0 : Nat → xE := (x_T 25 (x_T 13 (x_T 4 (x_T 0 (x_L 0 (0, xi_load 0 2 1, 0, 0)) (x_T 1 (x_L 1 (0, xi_getf 4 1 4, 0, 0)) (x_L 4 (0, xi_push (0, 32, 32) 6, 0, 0)))) (x_T 6 (x_L 6 (0, xi_if2 2 12 9, 0, 0)) (x_T 12 (x_L 12 (0, xi_load 0 2 13, 0, 0)) (x_L 13 (0, xi_getf 4 1 16, 0, 0))))) (x_T 19 (x_T 16 (x_L 16 (0, xi_stor 6 0 18, 0, 0)) (x_T 18 (x_L 18 (0, xi_load 0 2 19, 0, 0)) (x_L 19 (0, xi_getf 4 19 22, 0, 0)))) (x_T 22 (x_L 22 (0, xi_load 6 0 24, 0, 0)) (x_T 24 (x_L 24 (0, xi_aald 25, 0, 0)) (x_L 25 (0, xi_push (0, 0, 0) 26, 0, 0)))))) (x_T 34 (x_T 28 (x_T 26 (x_L 26 (0, xi_load 1 0 27, 0, 0)) (x_T 27 (x_L 27 (0, xi_ast false 28, 0, 0)) (x_L 28 (0, xi_load 0 2 29, 0, 0)))) (x_T 29 (x_L 29 (0, xi_getf 4 19 32, 0, 0)) (x_T 32 (x_L 32 (0, xi_load 6 0 34, 0, 0)) (x_L 34 (0, xi_aald 35, 0, 0))))) (x_T 37 (x_T 35 (x_L 35 (0, xi_push (0, 1, 1) 36, 0, 0)) (x_T 36 (x_L 36 (0, xi_load 2 0 37, 0, 0)) (x_L 37 (0, xi_ast false 38, 0, 0)))) (x_T 39 (x_T 38 (x_L 38 (0, xi_load 0 2 39, 0, 0)) (x_L 39 (0, xi_getf 4 19 42, 0, 0))) (x_T 42 (x_L 42 (0, xi_load 6 0 44, 0, 0)) (x_L 44 (0, xi_aald 45, 0, 0)))))))
set_option maxRecDepth 20000 in
set_option maxHeartbeats 4000000 in
theorem tb_18_0_ok (K : xKx) (hK : x_KP K) : ∀ pc, x_EOq cls K xI m_18 pc (tb_18_0 pc) :=
  (x_Tok2
  (x_Tok2
  (x_Tok2
  (x_Tok2
  (x_Lok (x_st (I := xI) (xr_aload_n (i := 0) (x_dk dl_18_0_ok 0 rfl))))
  (x_Tok2
  (x_Lok (x_st (I := xI) (xr_getf (ci := 4) (k := 1) (ix := 79) (N := 20) (C := RX4) (T := TX4) rfl in_X4 (by decide) (in_t1 (List.mem_of_getElem? (i := 177) rfl) rfl) (x_dk dl_18_0_ok 1 rfl))))
  (x_Lok (x_st (I := xI) (xr_bipush (n := 32) (z := 32) (v := 32) (x_dk dl_18_0_ok 2 rfl) (by decide) (by decide))))))
  (x_Tok2
  (x_Lok (x_st (I := xI) (xr_icmplt (off := 6) (tg := 12) (x_dk dl_18_0_ok 3 rfl) (by decide))))
  (x_Tok2
  (x_Lok (x_st (I := xI) (xr_aload_n (i := 0) (x_dk dl_18_0_ok 4 rfl))))
  (x_Lok (x_st (I := xI) (xr_getf (ci := 4) (k := 1) (ix := 79) (N := 20) (C := RX4) (T := TX4) rfl in_X4 (by decide) (in_t1 (List.mem_of_getElem? (i := 177) rfl) rfl) (x_dk dl_18_0_ok 5 rfl)))))))
  (x_Tok2
  (x_Tok2
  (x_Lok (x_st (I := xI) (xr_istore (i := 6) (x_dk dl_18_0_ok 6 rfl) (by decide +kernel))))
  (x_Tok2
  (x_Lok (x_st (I := xI) (xr_aload_n (i := 0) (x_dk dl_18_0_ok 7 rfl))))
  (x_Lok (x_st (I := xI) (xr_getf (ci := 4) (k := 19) (ix := 65) (N := 20) (C := RX4) (T := TX4) rfl in_X4 (by decide) (in_t1 (List.mem_of_getElem? (i := 204) rfl) rfl) (x_dk dl_18_0_ok 8 rfl))))))
  (x_Tok2
  (x_Lok (x_st (I := xI) (xr_iload (i := 6) (x_dk dl_18_0_ok 9 rfl))))
  (x_Tok2
  (x_Lok (x_st (I := xI) (xr_aaload (x_dk dl_18_0_ok 10 rfl))))
  (x_Lok (x_st (I := xI) (xr_iconst (n := 0) (z := 0) (v := 0) (x_dk dl_18_0_ok 11 rfl) (by decide) (by decide))))))))
  (x_Tok2
  (x_Tok2
  (x_Tok2
  (x_Lok (x_st (I := xI) (xr_iload_n (i := 1) (x_dk dl_18_0_ok 12 rfl))))
  (x_Tok2
  (x_Lok (x_st (I := xI) (xr_iastore (x_dk dl_18_0_ok 13 rfl))))
  (x_Lok (x_st (I := xI) (xr_aload_n (i := 0) (x_dk dl_18_0_ok 14 rfl))))))
  (x_Tok2
  (x_Lok (x_st (I := xI) (xr_getf (ci := 4) (k := 19) (ix := 65) (N := 20) (C := RX4) (T := TX4) rfl in_X4 (by decide) (in_t1 (List.mem_of_getElem? (i := 204) rfl) rfl) (x_dk dl_18_0_ok 15 rfl))))
  (x_Tok2
  (x_Lok (x_st (I := xI) (xr_iload (i := 6) (x_dk dl_18_0_ok 16 rfl))))
  (x_Lok (x_st (I := xI) (xr_aaload (x_dk dl_18_0_ok 17 rfl)))))))
  (x_Tok2
  (x_Tok2
  (x_Lok (x_st (I := xI) (xr_iconst (n := 1) (z := 1) (v := 1) (x_dk dl_18_0_ok 18 rfl) (by decide) (by decide))))
  (x_Tok2
  (x_Lok (x_st (I := xI) (xr_iload_n (i := 2) (x_dk dl_18_0_ok 19 rfl))))
  (x_Lok (x_st (I := xI) (xr_iastore (x_dk dl_18_0_ok 20 rfl))))))
  (x_Tok2
  (x_Tok2
  (x_Lok (x_st (I := xI) (xr_aload_n (i := 0) (x_dk dl_18_0_ok 21 rfl))))
  (x_Lok (x_st (I := xI) (xr_getf (ci := 4) (k := 19) (ix := 65) (N := 20) (C := RX4) (T := TX4) rfl in_X4 (by decide) (in_t1 (List.mem_of_getElem? (i := 204) rfl) rfl) (x_dk dl_18_0_ok 22 rfl)))))
  (x_Tok2
  (x_Lok (x_st (I := xI) (xr_iload (i := 6) (x_dk dl_18_0_ok 23 rfl))))
  (x_Lok (x_st (I := xI) (xr_aaload (x_dk dl_18_0_ok 24 rfl)))))))))
def tb_18_25 : Nat → xE := (x_T 63 (x_T 52 (x_T 47 (x_T 45 (x_L 45 (0, xi_push (0, 2, 2) 46, 0, 0)) (x_T 46 (x_L 46 (0, xi_load 3 0 47, 0, 0)) (x_L 47 (0, xi_ast false 48, 0, 0)))) (x_T 48 (x_L 48 (0, xi_load 0 2 49, 0, 0)) (x_T 49 (x_L 49 (0, xi_getf 4 19 52, 0, 0)) (x_L 52 (0, xi_load 6 0 54, 0, 0))))) (x_T 56 (x_T 54 (x_L 54 (0, xi_aald 55, 0, 0)) (x_T 55 (x_L 55 (0, xi_push (0, 3, 3) 56, 0, 0)) (x_L 56 (0, xi_load 4 0 58, 0, 0)))) (x_T 59 (x_T 58 (x_L 58 (0, xi_ast false 59, 0, 0)) (x_L 59 (0, xi_load 0 2 60, 0, 0))) (x_T 60 (x_L 60 (0, xi_getf 4 16 63, 0, 0)) (x_L 63 (0, xi_load 6 0 65, 0, 0)))))) (x_T 73 (x_T 68 (x_T 65 (x_L 65 (0, xi_load 5 0 67, 0, 0)) (x_T 67 (x_L 67 (0, xi_ast false 68, 0, 0)) (x_L 68 (0, xi_load 0 2 69, 0, 0)))) (x_T 69 (x_L 69 (0, xi_stk xf_dup 70, 0, 0)) (x_T 70 (x_L 70 (0, xi_getf 4 1 73, 0, 0)) (x_L 73 (0, xi_push (0, 1, 1) 74, 0, 0))))) (x_T 78 (x_T 74 (x_L 74 (0, xi_bin xF_add 75, 0, 0)) (x_T 75 (x_L 75 (0, xi_putf 4 1 0 78, 0, 0)) (x_L 78 (0, xi_load 0 2 79, 0, 0)))) (x_T 81 (x_T 79 (x_L 79 (0, xi_load 6 0 81, 0, 0)) (x_L 81 (2, x_nof, 20, 2))) (x_T 84 (x_L 84 (0, xi_load 6 0 86, 0, 0)) (x_L 86 (1, x_nof, 1, 0)))))))
set_option maxRecDepth 20000 in
set_option maxHeartbeats 4000000 in
theorem tb_18_25_ok (K : xKx) (hK : x_KP K) : ∀ pc, x_EOq cls K xI m_18 pc (tb_18_25 pc) :=
  (x_Tok2
  (x_Tok2
  (x_Tok2
  (x_Tok2
  (x_Lok (x_st (I := xI) (xr_iconst (n := 2) (z := 2) (v := 2) (x_dk dl_18_0_ok 25 rfl) (by decide) (by decide))))
  (x_Tok2
  (x_Lok (x_st (I := xI) (xr_iload_n (i := 3) (x_dk dl_18_0_ok 26 rfl))))
  (x_Lok (x_st (I := xI) (xr_iastore (x_dk dl_18_0_ok 27 rfl))))))
  (x_Tok2
  (x_Lok (x_st (I := xI) (xr_aload_n (i := 0) (x_dk dl_18_0_ok 28 rfl))))
  (x_Tok2
  (x_Lok (x_st (I := xI) (xr_getf (ci := 4) (k := 19) (ix := 65) (N := 20) (C := RX4) (T := TX4) rfl in_X4 (by decide) (in_t1 (List.mem_of_getElem? (i := 204) rfl) rfl) (x_dk dl_18_0_ok 29 rfl))))
  (x_Lok (x_st (I := xI) (xr_iload (i := 6) (x_dk dl_18_0_ok 30 rfl)))))))
  (x_Tok2
  (x_Tok2
  (x_Lok (x_st (I := xI) (xr_aaload (x_dk dl_18_0_ok 31 rfl))))
  (x_Tok2
  (x_Lok (x_st (I := xI) (xr_iconst (n := 3) (z := 3) (v := 3) (x_dk dl_18_0_ok 32 rfl) (by decide) (by decide))))
  (x_Lok (x_st (I := xI) (xr_iload (i := 4) (x_dk dl_18_0_ok 33 rfl))))))
  (x_Tok2
  (x_Tok2
  (x_Lok (x_st (I := xI) (xr_iastore (x_dk dl_18_0_ok 34 rfl))))
  (x_Lok (x_st (I := xI) (xr_aload_n (i := 0) (x_dk dl_18_0_ok 35 rfl)))))
  (x_Tok2
  (x_Lok (x_st (I := xI) (xr_getf (ci := 4) (k := 16) (ix := 56) (N := 20) (C := RX4) (T := TX4) rfl in_X4 (by decide) (in_t1 (List.mem_of_getElem? (i := 200) rfl) rfl) (x_dk dl_18_0_ok 36 rfl))))
  (x_Lok (x_st (I := xI) (xr_iload (i := 6) (x_dk dl_18_0_ok 37 rfl))))))))
  (x_Tok2
  (x_Tok2
  (x_Tok2
  (x_Lok (x_st (I := xI) (xr_iload (i := 5) (x_dk dl_18_0_ok 38 rfl))))
  (x_Tok2
  (x_Lok (x_st (I := xI) (xr_iastore (x_dk dl_18_0_ok 39 rfl))))
  (x_Lok (x_st (I := xI) (xr_aload_n (i := 0) (x_dk dl_18_0_ok 40 rfl))))))
  (x_Tok2
  (x_Lok (x_st (I := xI) (xr_dup (x_dk dl_18_0_ok 41 rfl))))
  (x_Tok2
  (x_Lok (x_st (I := xI) (xr_getf (ci := 4) (k := 1) (ix := 79) (N := 20) (C := RX4) (T := TX4) rfl in_X4 (by decide) (in_t1 (List.mem_of_getElem? (i := 177) rfl) rfl) (x_dk dl_18_0_ok 42 rfl))))
  (x_Lok (x_st (I := xI) (xr_iconst (n := 1) (z := 1) (v := 1) (x_dk dl_18_0_ok 43 rfl) (by decide) (by decide)))))))
  (x_Tok2
  (x_Tok2
  (x_Lok (x_st (I := xI) (xr_iadd (x_dk dl_18_0_ok 44 rfl))))
  (x_Tok2
  (x_Lok (x_st (I := xI) (xr_putf (ci := 4) (k := 1) (ix := 79) (N := 20) (fk := 0) (C := RX4) (T := TX4) (ty0 := tyX4) (ty := .int) rfl in_X4 tyX4_ok nmX4 (by decide) (in_t1 (List.mem_of_getElem? (i := 177) rfl) rfl) rfl rfl x_fit_int (x_dk dl_18_0_ok 45 rfl))))
  (x_Lok (x_st (I := xI) (xr_aload_n (i := 0) (x_dk dl_18_0_ok 46 rfl))))))
  (x_Tok2
  (x_Tok2
  (x_Lok (x_st (I := xI) (xr_iload (i := 6) (x_dk dl_18_0_ok 47 rfl))))
  (x_Lok (x_ca (I := xI) (q' := m_20) rfl (xr_callV (q' := m_20) (ix := 82) (n := 1) (in_t4 (List.mem_of_getElem? (i := 78) rfl) rfl) good_w (in_t1 (List.mem_of_getElem? (i := 6) rfl) rfl) (in_t4 (List.mem_of_getElem? (i := 75) rfl) rfl) (in_t4 (List.mem_of_getElem? (i := 77) rfl) rfl) (in_s1 (List.mem_of_getElem? (i := 5) rfl)) (by decide +kernel) (by decide +kernel) (by decide +kernel) (x_dk dl_18_0_ok 48 rfl)))))
  (x_Tok2
  (x_Lok (x_st (I := xI) (xr_iload (i := 6) (x_dk dl_18_0_ok 49 rfl))))
  (x_Lok (x_rt (I := xI) (k := 1) ⟨(x_dk dl_18_0_ok 50 rfl), rfl⟩)))))))
def tb_18 : Nat → xE := (x_T 44 tb_18_0 tb_18_25)
theorem tb_18_ok (K : xKx) (hK : x_KP K) : ∀ pc, x_EOq cls K xI m_18 pc (tb_18 pc) := (x_Tok2 (tb_18_0_ok K hK) (tb_18_25_ok K hK))
def dl_19_0 : List (Nat × Instr × Nat) := [(0, .iconst 0, 1), (1, .istore_n 1, 1), (2, .iload_n 1, 1), (3, .aload_n 0, 1), (4, .getfield 68, 3), (7, .if_icmp .ge 16, 3), (23, .iconst 0, 1), (24, .istore_n 1, 1), (25, .iload_n 1, 1), (26, .aload_n 0, 1), (27, .getfield 79, 3), (30, .if_icmp .ge 14, 3), (44, .return_, 1)]
set_option maxRecDepth 20000 in
theorem dl_19_0_ok : dl_19_0.all (fun q => decide (decode prog_6_method_6_code q.1 = .ok (q.2.1, q.2.2))) = true := by decide +kernel
def tb_19_0 : Nat → xE := (x_T 7 (x_T 2 (x_T 0 (x_L 0 (0, xi_push (0, 0, 0) 1, 0, 0)) (x_T 1 (x_L 1 (0, xi_stor 1 0 2, 0, 0)) (x_L 2 (0, xi_load 1 0 3, 0, 0)))) (x_T 3 (x_L 3 (0, xi_load 0 2 4, 0, 0)) (x_T 4 (x_L 4 (0, xi_getf 4 0 7, 0, 0)) (x_L 7 (0, xi_if2 3 23 10, 0, 0))))) (x_T 25 (x_T 23 (x_L 23 (0, xi_push (0, 0, 0) 24, 0, 0)) (x_T 24 (x_L 24 (0, xi_stor 1 0 25, 0, 0)) (x_L 25 (0, xi_load 1 0 26, 0, 0)))) (x_T 27 (x_T 26 (x_L 26 (0, xi_load 0 2 27, 0, 0)) (x_L 27 (0, xi_getf 4 1 30, 0, 0))) (x_T 30 (x_L 30 (0, xi_if2 3 44 33, 0, 0)) (x_L 44 (1, x_nof, 0, 0))))))
set_option maxRecDepth 20000 in
set_option maxHeartbeats 4000000 in
theorem tb_19_0_ok (K : xKx) (hK : x_KP K) : ∀ pc, x_EOq cls K xI m_19 pc (tb_19_0 pc) :=
  (x_Tok2
  (x_Tok2
  (x_Tok2
  (x_Lok (x_st (I := xI) (xr_iconst (n := 0) (z := 0) (v := 0) (x_dk dl_19_0_ok 0 rfl) (by decide) (by decide))))
  (x_Tok2
  (x_Lok (x_st (I := xI) (xr_istore_n (i := 1) (x_dk dl_19_0_ok 1 rfl) (by decide +kernel))))
  (x_Lok (x_st (I := xI) (xr_iload_n (i := 1) (x_dk dl_19_0_ok 2 rfl))))))
  (x_Tok2
  (x_Lok (x_st (I := xI) (xr_aload_n (i := 0) (x_dk dl_19_0_ok 3 rfl))))
  (x_Tok2
  (x_Lok (x_st (I := xI) (xr_getf (ci := 4) (k := 0) (ix := 68) (N := 20) (C := RX4) (T := TX4) rfl in_X4 (by decide) (in_t1 (List.mem_of_getElem? (i := 175) rfl) rfl) (x_dk dl_19_0_ok 4 rfl))))
  (x_Lok (x_st (I := xI) (xr_icmpge (off := 16) (tg := 23) (x_dk dl_19_0_ok 5 rfl) (by decide)))))))
  (x_Tok2
  (x_Tok2
  (x_Lok (x_st (I := xI) (xr_iconst (n := 0) (z := 0) (v := 0) (x_dk dl_19_0_ok 6 rfl) (by decide) (by decide))))
  (x_Tok2
  (x_Lok (x_st (I := xI) (xr_istore_n (i := 1) (x_dk dl_19_0_ok 7 rfl) (by decide +kernel))))
  (x_Lok (x_st (I := xI) (xr_iload_n (i := 1) (x_dk dl_19_0_ok 8 rfl))))))
  (x_Tok2
  (x_Tok2
  (x_Lok (x_st (I := xI) (xr_aload_n (i := 0) (x_dk dl_19_0_ok 9 rfl))))
  (x_Lok (x_st (I := xI) (xr_getf (ci := 4) (k := 1) (ix := 79) (N := 20) (C := RX4) (T := TX4) rfl in_X4 (by decide) (in_t1 (List.mem_of_getElem? (i := 177) rfl) rfl) (x_dk dl_19_0_ok 10 rfl)))))
  (x_Tok2
  (x_Lok (x_st (I := xI) (xr_icmpge (off := 14) (tg := 44) (x_dk dl_19_0_ok 11 rfl) (by decide))))
  (x_Lok (x_rt (I := xI) (k := 0) ⟨(x_dk dl_19_0_ok 12 rfl), rfl⟩))))))
def tb_19 : Nat → xE := tb_19_0
theorem tb_19_ok (K : xKx) (hK : x_KP K) : ∀ pc, x_EOq cls K xI m_19 pc (tb_19 pc) := tb_19_0_ok K hK
def dl_20_0 : List (Nat × Instr × Nat) := [(0, .aload_n 0, 1), (1, .getfield 65, 3), (4, .iload_n 1, 1), (5, .aaload, 1), (6, .iconst 0, 1), (7, .iaload, 1), (8, .iconst 4, 1), (9, .if_icmp .ge 27, 3), (36, .aload_n 0, 1), (37, .iload_n 1, 1), (38, .aload_n 0, 1), (39, .getfield 65, 3), (42, .iload_n 1, 1), (43, .aaload, 1), (44, .iconst 2, 1), (45, .iaload, 1), (46, .aload_n 0, 1), (47, .getfield 65, 3), (50, .iload_n 1, 1), (51, .aaload, 1), (52, .iconst 3, 1), (53, .iaload, 1), (54, .invokevirtual 90, 3), (57, .return_, 1)]
set_option maxRecDepth 20000 in
theorem dl_20_0_ok : dl_20_0.all (fun q => decide (decode prog_6_method_7_code q.1 = .ok (q.2.1, q.2.2))) = true := by decide +kernel
def tb_20_0 : Nat → xE := (x_T 39 (x_T 7 (x_T 4 (x_T 0 (x_L 0 (0, xi_load 0 2 1, 0, 0)) (x_T 1 (x_L 1 (0, xi_getf 4 19 4, 0, 0)) (x_L 4 (0, xi_load 1 0 5, 0, 0)))) (x_T 5 (x_L 5 (0, xi_aald 6, 0, 0)) (x_T 6 (x_L 6 (0, xi_push (0, 0, 0) 7, 0, 0)) (x_L 7 (0, xi_ald false 8, 0, 0))))) (x_T 36 (x_T 8 (x_L 8 (0, xi_push (0, 4, 4) 9, 0, 0)) (x_T 9 (x_L 9 (0, xi_if2 3 36 12, 0, 0)) (x_L 36 (0, xi_load 0 2 37, 0, 0)))) (x_T 37 (x_L 37 (0, xi_load 1 0 38, 0, 0)) (x_T 38 (x_L 38 (0, xi_load 0 2 39, 0, 0)) (x_L 39 (0, xi_getf 4 19 42, 0, 0)))))) (x_T 47 (x_T 44 (x_T 42 (x_L 42 (0, xi_load 1 0 43, 0, 0)) (x_T 43 (x_L 43 (0, xi_aald 44, 0, 0)) (x_L 44 (0, xi_push (0, 2, 2) 45, 0, 0)))) (x_T 45 (x_L 45 (0, xi_ald false 46, 0, 0)) (x_T 46 (x_L 46 (0, xi_load 0 2 47, 0, 0)) (x_L 47 (0, xi_getf 4 19 50, 0, 0))))) (x_T 52 (x_T 50 (x_L 50 (0, xi_load 1 0 51, 0, 0)) (x_T 51 (x_L 51 (0, xi_aald 52, 0, 0)) (x_L 52 (0, xi_push (0, 3, 3) 53, 0, 0)))) (x_T 53 (x_L 53 (0, xi_ald false 54, 0, 0)) (x_T 54 (x_L 54 (2, x_nof, 21, 4)) (x_L 57 (1, x_nof, 0, 0)))))))
set_option maxRecDepth 20000 in
set_option maxHeartbeats 4000000 in
theorem tb_20_0_ok (K : xKx) (hK : x_KP K) : ∀ pc, x_EOq cls K xI m_20 pc (tb_20_0 pc) :=
  (x_Tok2
  (x_Tok2
  (x_Tok2
  (x_Tok2
  (x_Lok (x_st (I := xI) (xr_aload_n (i := 0) (x_dk dl_20_0_ok 0 rfl))))
  (x_Tok2
  (x_Lok (x_st (I := xI) (xr_getf (ci := 4) (k := 19) (ix := 65) (N := 20) (C := RX4) (T := TX4) rfl in_X4 (by decide) (in_t1 (List.mem_of_getElem? (i := 204) rfl) rfl) (x_dk dl_20_0_ok 1 rfl))))
  (x_Lok (x_st (I := xI) (xr_iload_n (i := 1) (x_dk dl_20_0_ok 2 rfl))))))
  (x_Tok2
  (x_Lok (x_st (I := xI) (xr_aaload (x_dk dl_20_0_ok 3 rfl))))
  (x_Tok2
  (x_Lok (x_st (I := xI) (xr_iconst (n := 0) (z := 0) (v := 0) (x_dk dl_20_0_ok 4 rfl) (by decide) (by decide))))
  (x_Lok (x_st (I := xI) (xr_iaload (x_dk dl_20_0_ok 5 rfl)))))))
  (x_Tok2
  (x_Tok2
  (x_Lok (x_st (I := xI) (xr_iconst (n := 4) (z := 4) (v := 4) (x_dk dl_20_0_ok 6 rfl) (by decide) (by decide))))
  (x_Tok2
  (x_Lok (x_st (I := xI) (xr_icmpge (off := 27) (tg := 36) (x_dk dl_20_0_ok 7 rfl) (by decide))))
  (x_Lok (x_st (I := xI) (xr_aload_n (i := 0) (x_dk dl_20_0_ok 8 rfl))))))
  (x_Tok2
  (x_Lok (x_st (I := xI) (xr_iload_n (i := 1) (x_dk dl_20_0_ok 9 rfl))))
  (x_Tok2
  (x_Lok (x_st (I := xI) (xr_aload_n (i := 0) (x_dk dl_20_0_ok 10 rfl))))
  (x_Lok (x_st (I := xI) (xr_getf (ci := 4) (k := 19) (ix := 65) (N := 20) (C := RX4) (T := TX4) rfl in_X4 (by decide) (in_t1 (List.mem_of_getElem? (i := 204) rfl) rfl) (x_dk dl_20_0_ok 11 rfl))))))))
  (x_Tok2
  (x_Tok2
  (x_Tok2
  (x_Lok (x_st (I := xI) (xr_iload_n (i := 1) (x_dk dl_20_0_ok 12 rfl))))
  (x_Tok2
  (x_Lok (x_st (I := xI) (xr_aaload (x_dk dl_20_0_ok 13 rfl))))
  (x_Lok (x_st (I := xI) (xr_iconst (n := 2) (z := 2) (v := 2) (x_dk dl_20_0_ok 14 rfl) (by decide) (by decide))))))
  (x_Tok2
  (x_Lok (x_st (I := xI) (xr_iaload (x_dk dl_20_0_ok 15 rfl))))
  (x_Tok2
  (x_Lok (x_st (I := xI) (xr_aload_n (i := 0) (x_dk dl_20_0_ok 16 rfl))))
  (x_Lok (x_st (I := xI) (xr_getf (ci := 4) (k := 19) (ix := 65) (N := 20) (C := RX4) (T := TX4) rfl in_X4 (by decide) (in_t1 (List.mem_of_getElem? (i := 204) rfl) rfl) (x_dk dl_20_0_ok 17 rfl)))))))
  (x_Tok2
  (x_Tok2
  (x_Lok (x_st (I := xI) (xr_iload_n (i := 1) (x_dk dl_20_0_ok 18 rfl))))
  (x_Tok2
  (x_Lok (x_st (I := xI) (xr_aaload (x_dk dl_20_0_ok 19 rfl))))
  (x_Lok (x_st (I := xI) (xr_iconst (n := 3) (z := 3) (v := 3) (x_dk dl_20_0_ok 20 rfl) (by decide) (by decide))))))
  (x_Tok2
  (x_Lok (x_st (I := xI) (xr_iaload (x_dk dl_20_0_ok 21 rfl))))
  (x_Tok2
  (x_Lok (x_ca (I := xI) (q' := m_21) rfl (xr_callV (q' := m_21) (ix := 90) (n := 3) (in_t4 (List.mem_of_getElem? (i := 86) rfl) rfl) good_w (in_t1 (List.mem_of_getElem? (i := 6) rfl) rfl) (in_t4 (List.mem_of_getElem? (i := 83) rfl) rfl) (in_t4 (List.mem_of_getElem? (i := 85) rfl) rfl) (in_s1 (List.mem_of_getElem? (i := 7) rfl)) (by decide +kernel) (by decide +kernel) (by decide +kernel) (x_dk dl_20_0_ok 22 rfl))))
  (x_Lok (x_rt (I := xI) (k := 0) ⟨(x_dk dl_20_0_ok 23 rfl), rfl⟩)))))))
def tb_20 : Nat → xE := tb_20_0
theorem tb_20_ok (K : xKx) (hK : x_KP K) : ∀ pc, x_EOq cls K xI m_20 pc (tb_20 pc) := tb_20_0_ok K hK
def dl_21_0 : List (Nat × Instr × Nat) := [(0, .aload_n 0, 1), (1, .getfield 50, 3), (4, .iload_n 1, 1), (5, .bipush 8, 2), (7, .iastore, 1), (8, .aload_n 0, 1), (9, .getfield 59, 3), (12, .iload_n 1, 1), (13, .iload_n 2, 1), (14, .iastore, 1), (15, .aload_n 0, 1), (16, .getfield 62, 3), (19, .iload_n 1, 1), (20, .iload_n 3, 1), (21, .iastore, 1), (22, .return_, 1)]
set_option maxRecDepth 20000 in
theorem dl_21_0_ok : dl_21_0.all (fun q => decide (decode prog_6_method_8_code q.1 = .ok (q.2.1, q.2.2))) = true := by decide +kernel
def tb_21_0 : Nat → xE := (x_T 12 (x_T 5 (x_T 1 (x_T 0 (x_L 0 (0, xi_load 0 2 1, 0, 0)) (x_L 1 (0, xi_getf 4 14 4, 0, 0))) (x_T 4 (x_L 4 (0, xi_load 1 0 5, 0, 0)) (x_L 5 (0, xi_push (0, 8, 8) 7, 0, 0)))) (x_T 8 (x_T 7 (x_L 7 (0, xi_ast false 8, 0, 0)) (x_L 8 (0, xi_load 0 2 9, 0, 0))) (x_T 9 (x_L 9 (0, xi_getf 4 17 12, 0, 0)) (x_L 12 (0, xi_load 1 0 13, 0, 0))))) (x_T 16 (x_T 14 (x_T 13 (x_L 13 (0, xi_load 2 0 14, 0, 0)) (x_L 14 (0, xi_ast false 15, 0, 0))) (x_T 15 (x_L 15 (0, xi_load 0 2 16, 0, 0)) (x_L 16 (0, xi_getf 4 18 19, 0, 0)))) (x_T 20 (x_T 19 (x_L 19 (0, xi_load 1 0 20, 0, 0)) (x_L 20 (0, xi_load 3 0 21, 0, 0))) (x_T 21 (x_L 21 (0, xi_ast false 22, 0, 0)) (x_L 22 (1, x_nof, 0, 0))))))
set_option maxRecDepth 20000 in
set_option maxHeartbeats 4000000 in
theorem tb_21_0_ok (K : xKx) (hK : x_KP K) : ∀ pc, x_EOq cls K xI m_21 pc (tb_21_0 pc) :=
  (x_Tok2
  (x_Tok2
  (x_Tok2
  (x_Tok2
  (x_Lok (x_st (I := xI) (xr_aload_n (i := 0) (x_dk dl_21_0_ok 0 rfl))))
  (x_Lok (x_st (I := xI) (xr_getf (ci := 4) (k := 14) (ix := 50) (N := 20) (C := RX4) (T := TX4) rfl in_X4 (by decide) (in_t1 (List.mem_of_getElem? (i := 196) rfl) rfl) (x_dk dl_21_0_ok 1 rfl)))))
  (x_Tok2
  (x_Lok (x_st (I := xI) (xr_iload_n (i := 1) (x_dk dl_21_0_ok 2 rfl))))
  (x_Lok (x_st (I := xI) (xr_bipush (n := 8) (z := 8) (v := 8) (x_dk dl_21_0_ok 3 rfl) (by decide) (by decide))))))
  (x_Tok2
  (x_Tok2
  (x_Lok (x_st (I := xI) (xr_iastore (x_dk dl_21_0_ok 4 rfl))))
  (x_Lok (x_st (I := xI) (xr_aload_n (i := 0) (x_dk dl_21_0_ok 5 rfl)))))
  (x_Tok2
  (x_Lok (x_st (I := xI) (xr_getf (ci := 4) (k := 17) (ix := 59) (N := 20) (C := RX4) (T := TX4) rfl in_X4 (by decide) (in_t1 (List.mem_of_getElem? (i := 202) rfl) rfl) (x_dk dl_21_0_ok 6 rfl))))
  (x_Lok (x_st (I := xI) (xr_iload_n (i := 1) (x_dk dl_21_0_ok 7 rfl)))))))
  (x_Tok2
  (x_Tok2
  (x_Tok2
  (x_Lok (x_st (I := xI) (xr_iload_n (i := 2) (x_dk dl_21_0_ok 8 rfl))))
  (x_Lok (x_st (I := xI) (xr_iastore (x_dk dl_21_0_ok 9 rfl)))))
  (x_Tok2
  (x_Lok (x_st (I := xI) (xr_aload_n (i := 0) (x_dk dl_21_0_ok 10 rfl))))
  (x_Lok (x_st (I := xI) (xr_getf (ci := 4) (k := 18) (ix := 62) (N := 20) (C := RX4) (T := TX4) rfl in_X4 (by decide) (in_t1 (List.mem_of_getElem? (i := 203) rfl) rfl) (x_dk dl_21_0_ok 11 rfl))))))
  (x_Tok2
  (x_Tok2
  (x_Lok (x_st (I := xI) (xr_iload_n (i := 1) (x_dk dl_21_0_ok 12 rfl))))
  (x_Lok (x_st (I := xI) (xr_iload_n (i := 3) (x_dk dl_21_0_ok 13 rfl)))))
  (x_Tok2
  (x_Lok (x_st (I := xI) (xr_iastore (x_dk dl_21_0_ok 14 rfl))))
  (x_Lok (x_rt (I := xI) (k := 0) ⟨(x_dk dl_21_0_ok 15 rfl), rfl⟩))))))
def tb_21 : Nat → xE := tb_21_0
theorem tb_21_ok (K : xKx) (hK : x_KP K) : ∀ pc, x_EOq cls K xI m_21 pc (tb_21 pc) := tb_21_0_ok K hK
def dl_22_0 : List (Nat × Instr × Nat) := [(0, .aload_n 0, 1), (1, .invokespecial 3, 3), (4, .return_, 1)]
set_option maxRecDepth 20000 in
theorem dl_22_0_ok : dl_22_0.all (fun q => decide (decode prog_7_method_1_code q.1 = .ok (q.2.1, q.2.2))) = true := by decide +kernel
def tb_22_0 : Nat → xE := (x_T 0 (x_L 0 (0, xi_load 0 2 1, 0, 0)) (x_T 1 (x_L 1 (0, xi_oi 4, 0, 0)) (x_L 4 (1, x_nof, 0, 0))))
set_option maxRecDepth 20000 in
set_option maxHeartbeats 4000000 in
theorem tb_22_0_ok (K : xKx) (hK : x_KP K) : ∀ pc, x_EOq cls K xI m_22 pc (tb_22_0 pc) :=
  (x_Tok2
  (x_Lok (x_st (I := xI) (xr_aload_n (i := 0) (x_dk dl_22_0_ok 0 rfl))))
  (x_Tok2
  (x_Lok (x_st (I := xI) (xr_oi (ix := 3) (in_t2 (List.mem_of_getElem? (i := 87) rfl) rfl) (in_t1 (List.mem_of_getElem? (i := 27) rfl) rfl) (in_t1 (List.mem_of_getElem? (i := 28) rfl) rfl) (x_dk dl_22_0_ok 1 rfl))))
  (x_Lok (x_rt (I := xI) (k := 0) ⟨(x_dk dl_22_0_ok 2 rfl), rfl⟩))))
def tb_22 : Nat → xE := tb_22_0
theorem tb_22_ok (K : xKx) (hK : x_KP K) : ∀ pc, x_EOq cls K xI m_22 pc (tb_22 pc) := tb_22_0_ok K hK
def dl_23_0 : List (Nat × Instr × Nat) := [(0, .aload_n 0, 1), (1, .invokespecial 3, 3), (4, .aload_n 0, 1), (5, .bipush 6, 2), (7, .newarray .int, 2), (9, .putfield 9, 3), (12, .aload_n 0, 1), (13, .bipush 6, 2), (15, .newarray .int, 2), (17, .putfield 15, 3), (20, .aload_n 0, 1), (21, .bipush 6, 2), (23, .newarray .int, 2), (25, .putfield 18, 3), (28, .aload_n 0, 1), (29, .bipush 6, 2), (31, .newarray .int, 2), (33, .putfield 21, 3), (36, .aload_n 0, 1), (37, .sipush 1000, 3), (40, .newarray .int, 2), (42, .putfield 24, 3), (45, .aload_n 0, 1), (46, .sipush 1000, 3), (49, .newarray .int, 2), (51, .putfield 27, 3), (54, .aload_n 0, 1), (55, .ldc 30, 2), (57, .newarray .byte, 2), (59, .putfield 31, 3), (62, .aload_n 0, 1), (63, .bipush 60, 2), (65, .newarray .int, 2), (67, .putfield 35, 3), (70, .aload_n 0, 1), (71, .bipush 60, 2), (73, .newarray .int, 2), (75, .putfield 38, 3), (78, .return_, 1)]
set_option maxRecDepth 20000 in
theorem dl_23_0_ok : dl_23_0.all (fun q => decide (decode prog_8_method_1_code q.1 = .ok (q.2.1, q.2.2))) = true := by decide +kernel
def tb_23_0 : Nat → xE := (x_T 36 (x_T 15 (x_T 5 (x_T 1 (x_T 0 (x_L 0 (0, xi_load 0 2 1, 0, 0)) (x_L 1 (0, xi_oi 4, 0, 0))) (x_T 4 (x_L 4 (0, xi_load 0 2 5, 0, 0)) (x_L 5 (0, xi_push (0, 6, 6) 7, 0, 0)))) (x_T 9 (x_T 7 (x_L 7 (0, xi_newa 1 0 (0, 0, 0) (xm_c m_23) (xm_s m_23) 9, 0, 0)) (x_L 9 (0, xi_putf 6 4 2 12, 0, 0))) (x_T 12 (x_L 12 (0, xi_load 0 2 13, 0, 0)) (x_T 13 (x_L 13 (0, xi_push (0, 6, 6) 15, 0, 0)) (x_L 15 (0, xi_newa 1 0 (0, 0, 0) (xm_c m_23) (xm_s m_23) 17, 0, 0)))))) (x_T 25 (x_T 20 (x_T 17 (x_L 17 (0, xi_putf 6 5 2 20, 0, 0)) (x_L 20 (0, xi_load 0 2 21, 0, 0))) (x_T 21 (x_L 21 (0, xi_push (0, 6, 6) 23, 0, 0)) (x_T 23 (x_L 23 (0, xi_newa 1 0 (0, 0, 0) (xm_c m_23) (xm_s m_23) 25, 0, 0)) (x_L 25 (0, xi_putf 6 6 2 28, 0, 0))))) (x_T 29 (x_T 28 (x_L 28 (0, xi_load 0 2 29, 0, 0)) (x_L 29 (0, xi_push (0, 6, 6) 31, 0, 0))) (x_T 31 (x_L 31 (0, xi_newa 1 0 (0, 0, 0) (xm_c m_23) (xm_s m_23) 33, 0, 0)) (x_T 33 (x_L 33 (0, xi_putf 6 7 2 36, 0, 0)) (x_L 36 (0, xi_load 0 2 37, 0, 0))))))) (x_T 57 (x_T 46 (x_T 40 (x_T 37 (x_L 37 (0, xi_push (0, 1000, 1000) 40, 0, 0)) (x_L 40 (0, xi_newa 1 0 (0, 0, 0) (xm_c m_23) (xm_s m_23) 42, 0, 0))) (x_T 42 (x_L 42 (0, xi_putf 6 8 2 45, 0, 0)) (x_T 45 (x_L 45 (0, xi_load 0 2 46, 0, 0)) (x_L 46 (0, xi_push (0, 1000, 1000) 49, 0, 0))))) (x_T 51 (x_T 49 (x_L 49 (0, xi_newa 1 0 (0, 0, 0) (xm_c m_23) (xm_s m_23) 51, 0, 0)) (x_L 51 (0, xi_putf 6 9 2 54, 0, 0))) (x_T 54 (x_L 54 (0, xi_load 0 2 55, 0, 0)) (x_T 55 (x_L 55 (0, xi_push (0, 60000, 60000) 57, 0, 0)) (x_L 57 (0, xi_newa 2 0 (0, 0, 0) (xm_c m_23) (xm_s m_23) 59, 0, 0)))))) (x_T 67 (x_T 62 (x_T 59 (x_L 59 (0, xi_putf 6 10 2 62, 0, 0)) (x_L 62 (0, xi_load 0 2 63, 0, 0))) (x_T 63 (x_L 63 (0, xi_push (0, 60, 60) 65, 0, 0)) (x_T 65 (x_L 65 (0, xi_newa 1 0 (0, 0, 0) (xm_c m_23) (xm_s m_23) 67, 0, 0)) (x_L 67 (0, xi_putf 6 11 2 70, 0, 0))))) (x_T 71 (x_T 70 (x_L 70 (0, xi_load 0 2 71, 0, 0)) (x_L 71 (0, xi_push (0, 60, 60) 73, 0, 0))) (x_T 73 (x_L 73 (0, xi_newa 1 0 (0, 0, 0) (xm_c m_23) (xm_s m_23) 75, 0, 0)) (x_T 75 (x_L 75 (0, xi_putf 6 12 2 78, 0, 0)) (x_L 78 (1, x_nof, 0, 0))))))))
set_option maxRecDepth 20000 in
set_option maxHeartbeats 4000000 in
theorem tb_23_0_ok (K : xKx) (hK : x_KP K) : ∀ pc, x_EOq cls K xI m_23 pc (tb_23_0 pc) :=
  (x_Tok2
  (x_Tok2
  (x_Tok2
  (x_Tok2
  (x_Tok2
  (x_Lok (x_st (I := xI) (xr_aload_n (i := 0) (x_dk dl_23_0_ok 0 rfl))))
  (x_Lok (x_st (I := xI) (xr_oi (ix := 3) (in_t3 (List.mem_of_getElem? (i := 197) rfl) rfl) (in_t1 (List.mem_of_getElem? (i := 27) rfl) rfl) (in_t1 (List.mem_of_getElem? (i := 28) rfl) rfl) (x_dk dl_23_0_ok 1 rfl)))))
  (x_Tok2
  (x_Lok (x_st (I := xI) (xr_aload_n (i := 0) (x_dk dl_23_0_ok 2 rfl))))
  (x_Lok (x_st (I := xI) (xr_bipush (n := 6) (z := 6) (v := 6) (x_dk dl_23_0_ok 3 rfl) (by decide) (by decide))))))
  (x_Tok2
  (x_Tok2
  (x_Lok (x_st (I := xI) (xr_newa (kd := 1) (b := false) (ty := .int) rfl rfl (in_t1 (List.mem_of_getElem? (i := 64) rfl) rfl) (x_dk dl_23_0_ok 4 rfl))))
  (x_Lok (x_st (I := xI) (xr_putF (ci := 6) (k := 4) (ix := 9) (N := 13) (fk := 2) (C := RX6) (T := TX6) (ty0 := tyX6) (ty := .array .int) rfl in_X6 tyX6_ok nmX6 (by decide) (in_t3 (List.mem_of_getElem? (i := 203) rfl) rfl) rfl rfl rfl rfl x_fit_arr (x_dk dl_23_0_ok 5 rfl)))))
  (x_Tok2
  (x_Lok (x_st (I := xI) (xr_aload_n (i := 0) (x_dk dl_23_0_ok 6 rfl))))
  (x_Tok2
  (x_Lok (x_st (I := xI) (xr_bipush (n := 6) (z := 6) (v := 6) (x_dk dl_23_0_ok 7 rfl) (by decide) (by decide))))
  (x_Lok (x_st (I := xI) (xr_newa (kd := 1) (b := false) (ty := .int) rfl rfl (in_t1 (List.mem_of_getElem? (i := 64) rfl) rfl) (x_dk dl_23_0_ok 8 rfl))))))))
  (x_Tok2
  (x_Tok2
  (x_Tok2
  (x_Lok (x_st (I := xI) (xr_putF (ci := 6) (k := 5) (ix := 15) (N := 13) (fk := 2) (C := RX6) (T := TX6) (ty0 := tyX6) (ty := .array .int) rfl in_X6 tyX6_ok nmX6 (by decide) (in_t3 (List.mem_of_getElem? (i := 204) rfl) rfl) rfl rfl rfl rfl x_fit_arr (x_dk dl_23_0_ok 9 rfl))))
  (x_Lok (x_st (I := xI) (xr_aload_n (i := 0) (x_dk dl_23_0_ok 10 rfl)))))
  (x_Tok2
  (x_Lok (x_st (I := xI) (xr_bipush (n := 6) (z := 6) (v := 6) (x_dk dl_23_0_ok 11 rfl) (by decide) (by decide))))
  (x_Tok2
  (x_Lok (x_st (I := xI) (xr_newa (kd := 1) (b := false) (ty := .int) rfl rfl (in_t1 (List.mem_of_getElem? (i := 64) rfl) rfl) (x_dk dl_23_0_ok 12 rfl))))
  (x_Lok (x_st (I := xI) (xr_putF (ci := 6) (k := 6) (ix := 18) (N := 13) (fk := 2) (C := RX6) (T := TX6) (ty0 := tyX6) (ty := .array .int) rfl in_X6 tyX6_ok nmX6 (by decide) (in_t3 (List.mem_of_getElem? (i := 205) rfl) rfl) rfl rfl rfl rfl x_fit_arr (x_dk dl_23_0_ok 13 rfl)))))))
  (x_Tok2
  (x_Tok2
  (x_Lok (x_st (I := xI) (xr_aload_n (i := 0) (x_dk dl_23_0_ok 14 rfl))))
  (x_Lok (x_st (I := xI) (xr_bipush (n := 6) (z := 6) (v := 6) (x_dk dl_23_0_ok 15 rfl) (by decide) (by decide)))))
  (x_Tok2
  (x_Lok (x_st (I := xI) (xr_newa (kd := 1) (b := false) (ty := .int) rfl rfl (in_t1 (List.mem_of_getElem? (i := 64) rfl) rfl) (x_dk dl_23_0_ok 16 rfl))))
  (x_Tok2
  (x_Lok (x_st (I := xI) (xr_putF (ci := 6) (k := 7) (ix := 21) (N := 13) (fk := 2) (C := RX6) (T := TX6) (ty0 := tyX6) (ty := .array .int) rfl in_X6 tyX6_ok nmX6 (by decide) (in_t3 (List.mem_of_getElem? (i := 206) rfl) rfl) rfl rfl rfl rfl x_fit_arr (x_dk dl_23_0_ok 17 rfl))))
  (x_Lok (x_st (I := xI) (xr_aload_n (i := 0) (x_dk dl_23_0_ok 18 rfl)))))))))
  (x_Tok2
  (x_Tok2
  (x_Tok2
  (x_Tok2
  (x_Lok (x_st (I := xI) (xr_sipush (n := 1000) (z := 1000) (v := 1000) (x_dk dl_23_0_ok 19 rfl) (by decide) (by decide))))
  (x_Lok (x_st (I := xI) (xr_newa (kd := 1) (b := false) (ty := .int) rfl rfl (in_t1 (List.mem_of_getElem? (i := 64) rfl) rfl) (x_dk dl_23_0_ok 20 rfl)))))
  (x_Tok2
  (x_Lok (x_st (I := xI) (xr_putF (ci := 6) (k := 8) (ix := 24) (N := 13) (fk := 2) (C := RX6) (T := TX6) (ty0 := tyX6) (ty := .array .int) rfl in_X6 tyX6_ok nmX6 (by decide) (in_t3 (List.mem_of_getElem? (i := 207) rfl) rfl) rfl rfl rfl rfl x_fit_arr (x_dk dl_23_0_ok 21 rfl))))
  (x_Tok2
  (x_Lok (x_st (I := xI) (xr_aload_n (i := 0) (x_dk dl_23_0_ok 22 rfl))))
  (x_Lok (x_st (I := xI) (xr_sipush (n := 1000) (z := 1000) (v := 1000) (x_dk dl_23_0_ok 23 rfl) (by decide) (by decide)))))))
  (x_Tok2
  (x_Tok2
  (x_Lok (x_st (I := xI) (xr_newa (kd := 1) (b := false) (ty := .int) rfl rfl (in_t1 (List.mem_of_getElem? (i := 64) rfl) rfl) (x_dk dl_23_0_ok 24 rfl))))
  (x_Lok (x_st (I := xI) (xr_putF (ci := 6) (k := 9) (ix := 27) (N := 13) (fk := 2) (C := RX6) (T := TX6) (ty0 := tyX6) (ty := .array .int) rfl in_X6 tyX6_ok nmX6 (by decide) (in_t3 (List.mem_of_getElem? (i := 208) rfl) rfl) rfl rfl rfl rfl x_fit_arr (x_dk dl_23_0_ok 25 rfl)))))
  (x_Tok2
  (x_Lok (x_st (I := xI) (xr_aload_n (i := 0) (x_dk dl_23_0_ok 26 rfl))))
  (x_Tok2
  (x_Lok (x_st (I := xI) (xr_ldc (ix := 30) (z := 60000) (v := 60000) (x_dk dl_23_0_ok 27 rfl) (in_t3 (List.mem_of_getElem? (i := 198) rfl) rfl) (by decide))))
  (x_Lok (x_st (I := xI) (xr_newa (kd := 2) (b := true) (ty := .byte) rfl rfl (in_t1 (List.mem_of_getElem? (i := 121) rfl) rfl) (x_dk dl_23_0_ok 28 rfl))))))))
  (x_Tok2
  (x_Tok2
  (x_Tok2
  (x_Lok (x_st (I := xI) (xr_putF (ci := 6) (k := 10) (ix := 31) (N := 13) (fk := 2) (C := RX6) (T := TX6) (ty0 := tyX6) (ty := .array .byte) rfl in_X6 tyX6_ok nmX6 (by decide) (in_t3 (List.mem_of_getElem? (i := 209) rfl) rfl) rfl rfl rfl rfl x_fit_arr (x_dk dl_23_0_ok 29 rfl))))
  (x_Lok (x_st (I := xI) (xr_aload_n (i := 0) (x_dk dl_23_0_ok 30 rfl)))))
  (x_Tok2
  (x_Lok (x_st (I := xI) (xr_bipush (n := 60) (z := 60) (v := 60) (x_dk dl_23_0_ok 31 rfl) (by decide) (by decide))))
  (x_Tok2
  (x_Lok (x_st (I := xI) (xr_newa (kd := 1) (b := false) (ty := .int) rfl rfl (in_t1 (List.mem_of_getElem? (i := 64) rfl) rfl) (x_dk dl_23_0_ok 32 rfl))))
  (x_Lok (x_st (I := xI) (xr_putF (ci := 6) (k := 11) (ix := 35) (N := 13) (fk := 2) (C := RX6) (T := TX6) (ty0 := tyX6) (ty := .array .int) rfl in_X6 tyX6_ok nmX6 (by decide) (in_t3 (List.mem_of_getElem? (i := 210) rfl) rfl) rfl rfl rfl rfl x_fit_arr (x_dk dl_23_0_ok 33 rfl)))))))
  (x_Tok2
  (x_Tok2
  (x_Lok (x_st (I := xI) (xr_aload_n (i := 0) (x_dk dl_23_0_ok 34 rfl))))
  (x_Lok (x_st (I := xI) (xr_bipush (n := 60) (z := 60) (v := 60) (x_dk dl_23_0_ok 35 rfl) (by decide) (by decide)))))
  (x_Tok2
  (x_Lok (x_st (I := xI) (xr_newa (kd := 1) (b := false) (ty := .int) rfl rfl (in_t1 (List.mem_of_getElem? (i := 64) rfl) rfl) (x_dk dl_23_0_ok 36 rfl))))
  (x_Tok2
  (x_Lok (x_st (I := xI) (xr_putF (ci := 6) (k := 12) (ix := 38) (N := 13) (fk := 2) (C := RX6) (T := TX6) (ty0 := tyX6) (ty := .array .int) rfl in_X6 tyX6_ok nmX6 (by decide) (in_t3 (List.mem_of_getElem? (i := 211) rfl) rfl) rfl rfl rfl rfl x_fit_arr (x_dk dl_23_0_ok 37 rfl))))
  (x_Lok (x_rt (I := xI) (k := 0) ⟨(x_dk dl_23_0_ok 38 rfl), rfl⟩))))))))
def tb_23 : Nat → xE := tb_23_0
theorem tb_23_ok (K : xKx) (hK : x_KP K) : ∀ pc, x_EOq cls K xI m_23 pc (tb_23 pc) := tb_23_0_ok K hK
def dl_24_0 : List (Nat × Instr × Nat) := [(0, .aload_n 0, 1), (1, .invokespecial 3, 3), (4, .aload_n 0, 1), (5, .bipush 64, 2), (7, .newarray .int, 2), (9, .putfield 9, 3), (12, .aload_n 0, 1), (13, .bipush 64, 2), (15, .newarray .int, 2), (17, .putfield 15, 3), (20, .aload_n 0, 1), (21, .bipush 64, 2), (23, .newarray .int, 2), (25, .putfield 18, 3), (28, .aload_n 0, 1), (29, .bipush 64, 2), (31, .newarray .int, 2), (33, .putfield 21, 3), (36, .aload_n 0, 1), (37, .bipush 64, 2), (39, .newarray .int, 2), (41, .putfield 24, 3), (44, .aload_n 0, 1), (45, .bipush 64, 2), (47, .newarray .boolean, 2), (49, .putfield 27, 3), (52, .aload_n 0, 1), (53, .bipush 64, 2), (55, .newarray .boolean, 2), (57, .putfield 31, 3), (60, .aload_n 0, 1), (61, .bipush 64, 2), (63, .newarray .int, 2), (65, .putfield 34, 3), (68, .return_, 1)]
set_option maxRecDepth 20000 in
theorem dl_24_0_ok : dl_24_0.all (fun q => decide (decode prog_9_method_1_code q.1 = .ok (q.2.1, q.2.2))) = true := by decide +kernel
def tb_24_0 : Nat → xE := (x_T 31 (x_T 13 (x_T 5 (x_T 1 (x_T 0 (x_L 0 (0, xi_load 0 2 1, 0, 0)) (x_L 1 (0, xi_oi 4, 0, 0))) (x_T 4 (x_L 4 (0, xi_load 0 2 5, 0, 0)) (x_L 5 (0, xi_push (0, 64, 64) 7, 0, 0)))) (x_T 9 (x_T 7 (x_L 7 (0, xi_newa 1 0 (0, 0, 0) (xm_c m_24) (xm_s m_24) 9, 0, 0)) (x_L 9 (0, xi_putf 7 0 2 12, 0, 0))) (x_T 12 (x_L 12 (0, xi_load 0 2 13, 0, 0)) (x_L 13 (0, xi_push (0, 64, 64) 15, 0, 0))))) (x_T 21 (x_T 17 (x_T 15 (x_L 15 (0, xi_newa 1 0 (0, 0, 0) (xm_c m_24) (xm_s m_24) 17, 0, 0)) (x_L 17 (0, xi_putf 7 1 2 20, 0, 0))) (x_T 20 (x_L 20 (0, xi_load 0 2 21, 0, 0)) (x_L 21 (0, xi_push (0, 64, 64) 23, 0, 0)))) (x_T 25 (x_T 23 (x_L 23 (0, xi_newa 1 0 (0, 0, 0) (xm_c m_24) (xm_s m_24) 25, 0, 0)) (x_L 25 (0, xi_putf 7 2 2 28, 0, 0))) (x_T 28 (x_L 28 (0, xi_load 0 2 29, 0, 0)) (x_T 29 (x_L 29 (0, xi_push (0, 64, 64) 31, 0, 0)) (x_L 31 (0, xi_newa 1 0 (0, 0, 0) (xm_c m_24) (xm_s m_24) 33, 0, 0))))))) (x_T 49 (x_T 39 (x_T 36 (x_T 33 (x_L 33 (0, xi_putf 7 3 2 36, 0, 0)) (x_L 36 (0, xi_load 0 2 37, 0, 0))) (x_T 37 (x_L 37 (0, xi_push (0, 64, 64) 39, 0, 0)) (x_L 39 (0, xi_newa 1 0 (0, 0, 0) (xm_c m_24) (xm_s m_24) 41, 0, 0)))) (x_T 44 (x_T 41 (x_L 41 (0, xi_putf 7 4 2 44, 0, 0)) (x_L 44 (0, xi_load 0 2 45, 0, 0))) (x_T 45 (x_L 45 (0, xi_push (0, 64, 64) 47, 0, 0)) (x_T 47 (x_L 47 (0, xi_newa 3 0 (0, 0, 0) (xm_c m_24) (xm_s m_24) 49, 0, 0)) (x_L 49 (0, xi_putf 7 5 2 52, 0, 0)))))) (x_T 57 (x_T 53 (x_T 52 (x_L 52 (0, xi_load 0 2 53, 0, 0)) (x_L 53 (0, xi_push (0, 64, 64) 55, 0, 0))) (x_T 55 (x_L 55 (0, xi_newa 3 0 (0, 0, 0) (xm_c m_24) (xm_s m_24) 57, 0, 0)) (x_L 57 (0, xi_putf 7 6 2 60, 0, 0)))) (x_T 61 (x_T 60 (x_L 60 (0, xi_load 0 2 61, 0, 0)) (x_L 61 (0, xi_push (0, 64, 64) 63, 0, 0))) (x_T 63 (x_L 63 (0, xi_newa 1 0 (0, 0, 0) (xm_c m_24) (xm_s m_24) 65, 0, 0)) (x_T 65 (x_L 65 (0, xi_putf 7 7 2 68, 0, 0)) (x_L 68 (1, x_nof, 0, 0))))))))
set_option maxRecDepth 20000 in
set_option maxHeartbeats 4000000 in
theorem tb_24_0_ok (K : xKx) (hK : x_KP K) : ∀ pc, x_EOq cls K xI m_24 pc (tb_24_0 pc) :=
  (x_Tok2
  (x_Tok2
  (x_Tok2
  (x_Tok2
  (x_Tok2
  (x_Lok (x_st (I := xI) (xr_aload_n (i := 0) (x_dk dl_24_0_ok 0 rfl))))
  (x_Lok (x_st (I := xI) (xr_oi (ix := 3) (in_t1 (List.mem_of_getElem? (i := 135) rfl) rfl) (in_t1 (List.mem_of_getElem? (i := 27) rfl) rfl) (in_t1 (List.mem_of_getElem? (i := 28) rfl) rfl) (x_dk dl_24_0_ok 1 rfl)))))
  (x_Tok2
  (x_Lok (x_st (I := xI) (xr_aload_n (i := 0) (x_dk dl_24_0_ok 2 rfl))))
  (x_Lok (x_st (I := xI) (xr_bipush (n := 64) (z := 64) (v := 64) (x_dk dl_24_0_ok 3 rfl) (by decide) (by decide))))))
  (x_Tok2
  (x_Tok2
  (x_Lok (x_st (I := xI) (xr_newa (kd := 1) (b := false) (ty := .int) rfl rfl (in_t1 (List.mem_of_getElem? (i := 64) rfl) rfl) (x_dk dl_24_0_ok 4 rfl))))
  (x_Lok (x_st (I := xI) (xr_putF (ci := 7) (k := 0) (ix := 9) (N := 8) (fk := 2) (C := RX7) (T := TX7) (ty0 := tyX7) (ty := .array .int) rfl in_X7 tyX7_ok nmX7 (by decide) (in_t1 (List.mem_of_getElem? (i := 136) rfl) rfl) rfl rfl rfl rfl x_fit_arr (x_dk dl_24_0_ok 5 rfl)))))
  (x_Tok2
  (x_Lok (x_st (I := xI) (xr_aload_n (i := 0) (x_dk dl_24_0_ok 6 rfl))))
  (x_Lok (x_st (I := xI) (xr_bipush (n := 64) (z := 64) (v := 64) (x_dk dl_24_0_ok 7 rfl) (by decide) (by decide)))))))
  (x_Tok2
  (x_Tok2
  (x_Tok2
  (x_Lok (x_st (I := xI) (xr_newa (kd := 1) (b := false) (ty := .int) rfl rfl (in_t1 (List.mem_of_getElem? (i := 64) rfl) rfl) (x_dk dl_24_0_ok 8 rfl))))
  (x_Lok (x_st (I := xI) (xr_putF (ci := 7) (k := 1) (ix := 15) (N := 8) (fk := 2) (C := RX7) (T := TX7) (ty0 := tyX7) (ty := .array .int) rfl in_X7 tyX7_ok nmX7 (by decide) (in_t1 (List.mem_of_getElem? (i := 138) rfl) rfl) rfl rfl rfl rfl x_fit_arr (x_dk dl_24_0_ok 9 rfl)))))
  (x_Tok2
  (x_Lok (x_st (I := xI) (xr_aload_n (i := 0) (x_dk dl_24_0_ok 10 rfl))))
  (x_Lok (x_st (I := xI) (xr_bipush (n := 64) (z := 64) (v := 64) (x_dk dl_24_0_ok 11 rfl) (by decide) (by decide))))))
  (x_Tok2
  (x_Tok2
  (x_Lok (x_st (I := xI) (xr_newa (kd := 1) (b := false) (ty := .int) rfl rfl (in_t1 (List.mem_of_getElem? (i := 64) rfl) rfl) (x_dk dl_24_0_ok 12 rfl))))
  (x_Lok (x_st (I := xI) (xr_putF (ci := 7) (k := 2) (ix := 18) (N := 8) (fk := 2) (C := RX7) (T := TX7) (ty0 := tyX7) (ty := .array .int) rfl in_X7 tyX7_ok nmX7 (by decide) (in_t1 (List.mem_of_getElem? (i := 141) rfl) rfl) rfl rfl rfl rfl x_fit_arr (x_dk dl_24_0_ok 13 rfl)))))
  (x_Tok2
  (x_Lok (x_st (I := xI) (xr_aload_n (i := 0) (x_dk dl_24_0_ok 14 rfl))))
  (x_Tok2
  (x_Lok (x_st (I := xI) (xr_bipush (n := 64) (z := 64) (v := 64) (x_dk dl_24_0_ok 15 rfl) (by decide) (by decide))))
  (x_Lok (x_st (I := xI) (xr_newa (kd := 1) (b := false) (ty := .int) rfl rfl (in_t1 (List.mem_of_getElem? (i := 64) rfl) rfl) (x_dk dl_24_0_ok 16 rfl)))))))))
  (x_Tok2
  (x_Tok2
  (x_Tok2
  (x_Tok2
  (x_Lok (x_st (I := xI) (xr_putF (ci := 7) (k := 3) (ix := 21) (N := 8) (fk := 2) (C := RX7) (T := TX7) (ty0 := tyX7) (ty := .array .int) rfl in_X7 tyX7_ok nmX7 (by decide) (in_t1 (List.mem_of_getElem? (i := 144) rfl) rfl) rfl rfl rfl rfl x_fit_arr (x_dk dl_24_0_ok 17 rfl))))
  (x_Lok (x_st (I := xI) (xr_aload_n (i := 0) (x_dk dl_24_0_ok 18 rfl)))))
  (x_Tok2
  (x_Lok (x_st (I := xI) (xr_bipush (n := 64) (z := 64) (v := 64) (x_dk dl_24_0_ok 19 rfl) (by decide) (by decide))))
  (x_Lok (x_st (I := xI) (xr_newa (kd := 1) (b := false) (ty := .int) rfl rfl (in_t1 (List.mem_of_getElem? (i := 64) rfl) rfl) (x_dk dl_24_0_ok 20 rfl))))))
  (x_Tok2
  (x_Tok2
  (x_Lok (x_st (I := xI) (xr_putF (ci := 7) (k := 4) (ix := 24) (N := 8) (fk := 2) (C := RX7) (T := TX7) (ty0 := tyX7) (ty := .array .int) rfl in_X7 tyX7_ok nmX7 (by decide) (in_t1 (List.mem_of_getElem? (i := 145) rfl) rfl) rfl rfl rfl rfl x_fit_arr (x_dk dl_24_0_ok 21 rfl))))
  (x_Lok (x_st (I := xI) (xr_aload_n (i := 0) (x_dk dl_24_0_ok 22 rfl)))))
  (x_Tok2
  (x_Lok (x_st (I := xI) (xr_bipush (n := 64) (z := 64) (v := 64) (x_dk dl_24_0_ok 23 rfl) (by decide) (by decide))))
  (x_Tok2
  (x_Lok (x_st (I := xI) (xr_newa (kd := 3) (b := true) (ty := .boolean) rfl rfl (in_t1 (List.mem_of_getElem? (i := 166) rfl) rfl) (x_dk dl_24_0_ok 24 rfl))))
  (x_Lok (x_st (I := xI) (xr_putF (ci := 7) (k := 5) (ix := 27) (N := 8) (fk := 2) (C := RX7) (T := TX7) (ty0 := tyX7) (ty := .array .boolean) rfl in_X7 tyX7_ok nmX7 (by decide) (in_t1 (List.mem_of_getElem? (i := 146) rfl) rfl) rfl rfl rfl rfl x_fit_arr (x_dk dl_24_0_ok 25 rfl))))))))
  (x_Tok2
  (x_Tok2
  (x_Tok2
  (x_Lok (x_st (I := xI) (xr_aload_n (i := 0) (x_dk dl_24_0_ok 26 rfl))))
  (x_Lok (x_st (I := xI) (xr_bipush (n := 64) (z := 64) (v := 64) (x_dk dl_24_0_ok 27 rfl) (by decide) (by decide)))))
  (x_Tok2
  (x_Lok (x_st (I := xI) (xr_newa (kd := 3) (b := true) (ty := .boolean) rfl rfl (in_t1 (List.mem_of_getElem? (i := 166) rfl) rfl) (x_dk dl_24_0_ok 28 rfl))))
  (x_Lok (x_st (I := xI) (xr_putF (ci := 7) (k := 6) (ix := 31) (N := 8) (fk := 2) (C := RX7) (T := TX7) (ty0 := tyX7) (ty := .array .boolean) rfl in_X7 tyX7_ok nmX7 (by decide) (in_t1 (List.mem_of_getElem? (i := 147) rfl) rfl) rfl rfl rfl rfl x_fit_arr (x_dk dl_24_0_ok 29 rfl))))))
  (x_Tok2
  (x_Tok2
  (x_Lok (x_st (I := xI) (xr_aload_n (i := 0) (x_dk dl_24_0_ok 30 rfl))))
  (x_Lok (x_st (I := xI) (xr_bipush (n := 64) (z := 64) (v := 64) (x_dk dl_24_0_ok 31 rfl) (by decide) (by decide)))))
  (x_Tok2
  (x_Lok (x_st (I := xI) (xr_newa (kd := 1) (b := false) (ty := .int) rfl rfl (in_t1 (List.mem_of_getElem? (i := 64) rfl) rfl) (x_dk dl_24_0_ok 32 rfl))))
  (x_Tok2
  (x_Lok (x_st (I := xI) (xr_putF (ci := 7) (k := 7) (ix := 34) (N := 8) (fk := 2) (C := RX7) (T := TX7) (ty0 := tyX7) (ty := .array .int) rfl in_X7 tyX7_ok nmX7 (by decide) (in_t1 (List.mem_of_getElem? (i := 148) rfl) rfl) rfl rfl rfl rfl x_fit_arr (x_dk dl_24_0_ok 33 rfl))))
  (x_Lok (x_rt (I := xI) (k := 0) ⟨(x_dk dl_24_0_ok 34 rfl), rfl⟩))))))))
def tb_24 : Nat → xE := tb_24_0
theorem tb_24_ok (K : xKx) (hK : x_KP K) : ∀ pc, x_EOq cls K xI m_24 pc (tb_24 pc) := tb_24_0_ok K hK
end
