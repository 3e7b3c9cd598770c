noncomputable section
def dl_41_0 : List (Nat × Instr × Nat) := [(0, .aload_n 0, 1), (1, .getfield 10, 3), (4, .getfield 74, 3), (7, .sipush 3980, 3), (10, .if_icmp .le 6, 3), (16, .aload_n 0, 1), (17, .getfield 10, 3), (20, .iload_n 1, 1), (21, .invokevirtual 78, 3), (24, .aload_n 0, 1), (25, .getfield 10, 3), (28, .iload_n 2, 1), (29, .invokevirtual 78, 3), (32, .aload_n 0, 1), (33, .getfield 10, 3), (36, .iload_n 3, 1), (37, .invokevirtual 78, 3), (40, .aload_n 0, 1), (41, .getfield 10, 3), (44, .iload 4, 2), (46, .invokevirtual 78, 3), (49, .aload_n 0, 1), (50, .getfield 10, 3), (53, .iload 5, 2), (55, .invokevirtual 78, 3), (58, .aload_n 0, 1), (59, .getfield 10, 3), (62, .getfield 74, 3), (65, .ireturn, 1)]
set_option maxRecDepth 20000 in
theorem dl_41_0_ok : dl_41_0.all (fun q => decide (decode prog_1_method_2_code q.1 = .ok (q.2.1, q.2.2))) = true := by decide +kernel
def tb_41_0 : Nat → xE := (x_T 32 (x_T 17 (x_T 4 (x_T 0 (x_L 0 (0, xi_load 0 2 1, 0, 0)) (x_T 1 (x_L 1 (0, xi_getf 11 0 4, 0, 0)) (x_L 4 (0, xi_getf 8 0 7, 0, 0)))) (x_T 10 (x_T 7 (x_L 7 (0, xi_push (0, 3980, 3980) 10, 0, 0)) (x_L 10 (0, xi_if2 5 16 13, 0, 0))) (x_T 16 (x_L 16 (0, xi_load 0 2 17, 0, 0)) (x_L 17 (0, xi_getf 11 0 20, 0, 0))))) (x_T 24 (x_T 20 (x_L 20 (0, xi_load 1 0 21, 0, 0)) (x_T 21 (x_L 21 (2, x_nof, 33, 2)) (x_L 24 (0, xi_load 0 2 25, 0, 0)))) (x_T 28 (x_T 25 (x_L 25 (0, xi_getf 11 0 28, 0, 0)) (x_L 28 (0, xi_load 2 0 29, 0, 0))) (x_T 29 (x_L 29 (2, x_nof, 33, 2)) (x_L 32 (0, xi_load 0 2 33, 0, 0)))))) (x_T 46 (x_T 37 (x_T 33 (x_L 33 (0, xi_getf 11 0 36, 0, 0)) (x_T 36 (x_L 36 (0, xi_load 3 0 37, 0, 0)) (x_L 37 (2, x_nof, 33, 2)))) (x_T 41 (x_T 40 (x_L 40 (0, xi_load 0 2 41, 0, 0)) (x_L 41 (0, xi_getf 11 0 44, 0, 0))) (x_T 44 (x_L 44 (0, xi_load 4 0 46, 0, 0)) (x_L 46 (2, x_nof, 33, 2))))) (x_T 55 (x_T 50 (x_T 49 (x_L 49 (0, xi_load 0 2 50, 0, 0)) (x_L 50 (0, xi_getf 11 0 53, 0, 0))) (x_T 53 (x_L 53 (0, xi_load 5 0 55, 0, 0)) (x_L 55 (2, x_nof, 33, 2)))) (x_T 59 (x_T 58 (x_L 58 (0, xi_load 0 2 59, 0, 0)) (x_L 59 (0, xi_getf 11 0 62, 0, 0))) (x_T 62 (x_L 62 (0, xi_getf 8 0 65, 0, 0)) (x_L 65 (1, x_nof, 1, 0)))))))
set_option maxRecDepth 20000 in
set_option maxHeartbeats 4000000 in
theorem tb_41_0_ok (K : xKx) (hK : x_KP K) : ∀ pc, x_EOq cls K xI m_41 pc (tb_41_0 pc) :=
  (x_Tok2
  (x_Tok2
  (x_Tok2
  (x_Tok2
  (x_Lok (x_st (I := xI) (xr_aload_n (i := 0) (x_dk dl_41_0_ok 0 rfl))))
  (x_Tok2
  (x_Lok (x_st (I := xI) (xr_getf (ci := 11) (k := 0) (ix := 10) (N := 15) (C := RX11) (T := TX11) rfl in_X11 (by decide) (in_t4 (List.mem_of_getElem? (i := 108) rfl) rfl) (x_dk dl_41_0_ok 1 rfl))))
  (x_Lok (x_st (I := xI) (xr_getf (ci := 8) (k := 0) (ix := 74) (N := 17) (C := RX8) (T := TX8) rfl in_X8 (by decide) (in_t1 (List.mem_of_getElem? (i := 65) rfl) rfl) (x_dk dl_41_0_ok 2 rfl))))))
  (x_Tok2
  (x_Tok2
  (x_Lok (x_st (I := xI) (xr_sipush (n := 3980) (z := 3980) (v := 3980) (x_dk dl_41_0_ok 3 rfl) (by decide) (by decide))))
  (x_Lok (x_st (I := xI) (xr_icmple (off := 6) (tg := 16) (x_dk dl_41_0_ok 4 rfl) (by decide)))))
  (x_Tok2
  (x_Lok (x_st (I := xI) (xr_aload_n (i := 0) (x_dk dl_41_0_ok 5 rfl))))
  (x_Lok (x_st (I := xI) (xr_getf (ci := 11) (k := 0) (ix := 10) (N := 15) (C := RX11) (T := TX11) rfl in_X11 (by decide) (in_t4 (List.mem_of_getElem? (i := 108) rfl) rfl) (x_dk dl_41_0_ok 6 rfl)))))))
  (x_Tok2
  (x_Tok2
  (x_Lok (x_st (I := xI) (xr_iload_n (i := 1) (x_dk dl_41_0_ok 7 rfl))))
  (x_Tok2
  (x_Lok (x_ca (I := xI) (q' := m_33) rfl (xr_callV (q' := m_33) (ix := 78) (n := 1) (in_t4 (List.mem_of_getElem? (i := 161) rfl) rfl) good_w (in_t1 (List.mem_of_getElem? (i := 2) rfl) rfl) (in_t4 (List.mem_of_getElem? (i := 158) rfl) rfl) (in_t4 (List.mem_of_getElem? (i := 159) rfl) rfl) (in_t4 (List.mem_of_getElem? (i := 160) rfl) rfl) (by decide +kernel) (by decide +kernel) (by decide +kernel) (x_dk dl_41_0_ok 8 rfl))))
  (x_Lok (x_st (I := xI) (xr_aload_n (i := 0) (x_dk dl_41_0_ok 9 rfl))))))
  (x_Tok2
  (x_Tok2
  (x_Lok (x_st (I := xI) (xr_getf (ci := 11) (k := 0) (ix := 10) (N := 15) (C := RX11) (T := TX11) rfl in_X11 (by decide) (in_t4 (List.mem_of_getElem? (i := 108) rfl) rfl) (x_dk dl_41_0_ok 10 rfl))))
  (x_Lok (x_st (I := xI) (xr_iload_n (i := 2) (x_dk dl_41_0_ok 11 rfl)))))
  (x_Tok2
  (x_Lok (x_ca (I := xI) (q' := m_33) rfl (xr_callV (q' := m_33) (ix := 78) (n := 1) (in_t4 (List.mem_of_getElem? (i := 161) rfl) rfl) good_w (in_t1 (List.mem_of_getElem? (i := 2) rfl) rfl) (in_t4 (List.mem_of_getElem? (i := 158) rfl) rfl) (in_t4 (List.mem_of_getElem? (i := 159) rfl) rfl) (in_t4 (List.mem_of_getElem? (i := 160) rfl) rfl) (by decide +kernel) (by decide +kernel) (by decide +kernel) (x_dk dl_41_0_ok 12 rfl))))
  (x_Lok (x_st (I := xI) (xr_aload_n (i := 0) (x_dk dl_41_0_ok 13 rfl))))))))
  (x_Tok2
  (x_Tok2
  (x_Tok2
  (x_Lok (x_st (I := xI) (xr_getf (ci := 11) (k := 0) (ix := 10) (N := 15) (C := RX11) (T := TX11) rfl in_X11 (by decide) (in_t4 (List.mem_of_getElem? (i := 108) rfl) rfl) (x_dk dl_41_0_ok 14 rfl))))
  (x_Tok2
  (x_Lok (x_st (I := xI) (xr_iload_n (i := 3) (x_dk dl_41_0_ok 15 rfl))))
  (x_Lok (x_ca (I := xI) (q' := m_33) rfl (xr_callV (q' := m_33) (ix := 78) (n := 1) (in_t4 (List.mem_of_getElem? (i := 161) rfl) rfl) good_w (in_t1 (List.mem_of_getElem? (i := 2) rfl) rfl) (in_t4 (List.mem_of_getElem? (i := 158) rfl) rfl) (in_t4 (List.mem_of_getElem? (i := 159) rfl) rfl) (in_t4 (List.mem_of_getElem? (i := 160) rfl) rfl) (by decide +kernel) (by decide +kernel) (by decide +kernel) (x_dk dl_41_0_ok 16 rfl))))))
  (x_Tok2
  (x_Tok2
  (x_Lok (x_st (I := xI) (xr_aload_n (i := 0) (x_dk dl_41_0_ok 17 rfl))))
  (x_Lok (x_st (I := xI) (xr_getf (ci := 11) (k := 0) (ix := 10) (N := 15) (C := RX11) (T := TX11) rfl in_X11 (by decide) (in_t4 (List.mem_of_getElem? (i := 108) rfl) rfl) (x_dk dl_41_0_ok 18 rfl)))))
  (x_Tok2
  (x_Lok (x_st (I := xI) (xr_iload (i := 4) (x_dk dl_41_0_ok 19 rfl))))
  (x_Lok (x_ca (I := xI) (q' := m_33) rfl (xr_callV (q' := m_33) (ix := 78) (n := 1) (in_t4 (List.mem_of_getElem? (i := 161) rfl) rfl) good_w (in_t1 (List.mem_of_getElem? (i := 2) rfl) rfl) (in_t4 (List.mem_of_getElem? (i := 158) rfl) rfl) (in_t4 (List.mem_of_getElem? (i := 159) rfl) rfl) (in_t4 (List.mem_of_getElem? (i := 160) rfl) rfl) (by decide +kernel) (by decide +kernel) (by decide +kernel) (x_dk dl_41_0_ok 20 rfl)))))))
  (x_Tok2
  (x_Tok2
  (x_Tok2
  (x_Lok (x_st (I := xI) (xr_aload_n (i := 0) (x_dk dl_41_0_ok 21 rfl))))
  (x_Lok (x_st (I := xI) (xr_getf (ci := 11) (k := 0) (ix := 10) (N := 15) (C := RX11) (T := TX11) rfl in_X11 (by decide) (in_t4 (List.mem_of_getElem? (i := 108) rfl) rfl) (x_dk dl_41_0_ok 22 rfl)))))
  (x_Tok2
  (x_Lok (x_st (I := xI) (xr_iload (i := 5) (x_dk dl_41_0_ok 23 rfl))))
  (x_Lok (x_ca (I := xI) (q' := m_33) rfl (xr_callV (q' := m_33) (ix := 78) (n := 1) (in_t4 (List.mem_of_getElem? (i := 161) rfl) rfl) good_w (in_t1 (List.mem_of_getElem? (i := 2) rfl) rfl) (in_t4 (List.mem_of_getElem? (i := 158) rfl) rfl) (in_t4 (List.mem_of_getElem? (i := 159) rfl) rfl) (in_t4 (List.mem_of_getElem? (i := 160) rfl) rfl) (by decide +kernel) (by decide +kernel) (by decide +kernel) (x_dk dl_41_0_ok 24 rfl))))))
  (x_Tok2
  (x_Tok2
  (x_Lok (x_st (I := xI) (xr_aload_n (i := 0) (x_dk dl_41_0_ok 25 rfl))))
  (x_Lok (x_st (I := xI) (xr_getf (ci := 11) (k := 0) (ix := 10) (N := 15) (C := RX11) (T := TX11) rfl in_X11 (by decide) (in_t4 (List.mem_of_getElem? (i := 108) rfl) rfl) (x_dk dl_41_0_ok 26 rfl)))))
  (x_Tok2
  (x_Lok (x_st (I := xI) (xr_getf (ci := 8) (k := 0) (ix := 74) (N := 17) (C := RX8) (T := TX8) rfl in_X8 (by decide) (in_t1 (List.mem_of_getElem? (i := 65) rfl) rfl) (x_dk dl_41_0_ok 27 rfl))))
  (x_Lok (x_rt (I := xI) (k := 1) ⟨(x_dk dl_41_0_ok 28 rfl), rfl⟩)))))))
def tb_41 : Nat → xE := tb_41_0
theorem tb_41_ok (K : xKx) (hK : x_KP K) : ∀ pc, x_EOq cls K xI m_41 pc (tb_41 pc) := tb_41_0_ok K hK
def dl_42_0 : List (Nat × Instr × Nat) := [(0, .iload_n 1, 1), (1, .iconst 0, 1), (2, .aload_n 0, 1), (3, .getfield 10, 3), (6, .getfield 74, 3), (9, .invokestatic 82, 3), (12, .ifCond .ne 5, 3), (15, .iconst (-1), 1), (16, .ireturn, 1), (17, .aload_n 0, 1), (18, .getfield 10, 3), (21, .dup, 1), (22, .getfield 74, 3), (25, .iload_n 1, 1), (26, .isub, 1), (27, .putfield 74, 3), (30, .aload_n 0, 1), (31, .getfield 10, 3), (34, .getfield 74, 3), (37, .ireturn, 1)]
set_option maxRecDepth 20000 in
theorem dl_42_0_ok : dl_42_0.all (fun q => decide (decode prog_1_method_3_code q.1 = .ok (q.2.1, q.2.2))) = true := by decide +kernel
def tb_42_0 : Nat → xE := (x_T 17 (x_T 6 (x_T 1 (x_T 0 (x_L 0 (0, xi_load 1 0 1, 0, 0)) (x_L 1 (0, xi_push (0, 0, 0) 2, 0, 0))) (x_T 2 (x_L 2 (0, xi_load 0 2 3, 0, 0)) (x_T 3 (x_L 3 (0, xi_getf 11 0 6, 0, 0)) (x_L 6 (0, xi_getf 8 0 9, 0, 0))))) (x_T 12 (x_T 9 (x_L 9 (2, x_nof, 93, 3)) (x_L 12 (0, xi_if1 1 17 15, 0, 0))) (x_T 15 (x_L 15 (0, xi_push (0, (-1), (-1)) 16, 0, 0)) (x_T 16 (x_L 16 (1, x_nof, 1, 0)) (x_L 17 (0, xi_load 0 2 18, 0, 0)))))) (x_T 26 (x_T 21 (x_T 18 (x_L 18 (0, xi_getf 11 0 21, 0, 0)) (x_L 21 (0, xi_stk xf_dup 22, 0, 0))) (x_T 22 (x_L 22 (0, xi_getf 8 0 25, 0, 0)) (x_T 25 (x_L 25 (0, xi_load 1 0 26, 0, 0)) (x_L 26 (0, xi_bin xF_sub 27, 0, 0))))) (x_T 30 (x_T 27 (x_L 27 (0, xi_putf 8 0 0 30, 0, 0)) (x_L 30 (0, xi_load 0 2 31, 0, 0))) (x_T 31 (x_L 31 (0, xi_getf 11 0 34, 0, 0)) (x_T 34 (x_L 34 (0, xi_getf 8 0 37, 0, 0)) (x_L 37 (1, x_nof, 1, 0)))))))
set_option maxRecDepth 20000 in
set_option maxHeartbeats 4000000 in
theorem tb_42_0_ok (K : xKx) (hK : x_KP K) : ∀ pc, x_EOq cls K xI m_42 pc (tb_42_0 pc) :=
  (x_Tok2
  (x_Tok2
  (x_Tok2
  (x_Tok2
  (x_Lok (x_st (I := xI) (xr_iload_n (i := 1) (x_dk dl_42_0_ok 0 rfl))))
  (x_Lok (x_st (I := xI) (xr_iconst (n := 0) (z := 0) (v := 0) (x_dk dl_42_0_ok 1 rfl) (by decide) (by decide)))))
  (x_Tok2
  (x_Lok (x_st (I := xI) (xr_aload_n (i := 0) (x_dk dl_42_0_ok 2 rfl))))
  (x_Tok2
  (x_Lok (x_st (I := xI) (xr_getf (ci := 11) (k := 0) (ix := 10) (N := 15) (C := RX11) (T := TX11) rfl in_X11 (by decide) (in_t4 (List.mem_of_getElem? (i := 108) rfl) rfl) (x_dk dl_42_0_ok 3 rfl))))
  (x_Lok (x_st (I := xI) (xr_getf (ci := 8) (k := 0) (ix := 74) (N := 17) (C := RX8) (T := TX8) rfl in_X8 (by decide) (in_t1 (List.mem_of_getElem? (i := 65) rfl) rfl) (x_dk dl_42_0_ok 4 rfl)))))))
  (x_Tok2
  (x_Tok2
  (x_Lok (x_ca (I := xI) (q' := m_93) rfl (xr_callS (q' := m_93) (ix := 82) (n := 3) (in_t4 (List.mem_of_getElem? (i := 168) rfl) rfl) good_w (in_t1 (List.mem_of_getElem? (i := 1) rfl) rfl) (in_t4 (List.mem_of_getElem? (i := 166) rfl) rfl) (in_t4 (List.mem_of_getElem? (i := 167) rfl) rfl) (by decide +kernel) (by decide +kernel) (x_dk dl_42_0_ok 5 rfl))))
  (x_Lok (x_st (I := xI) (xr_ifne (off := 5) (tg := 17) (x_dk dl_42_0_ok 6 rfl) (by decide)))))
  (x_Tok2
  (x_Lok (x_st (I := xI) (xr_iconst (n := (-1)) (z := (-1)) (v := (-1)) (x_dk dl_42_0_ok 7 rfl) (by decide) (by decide))))
  (x_Tok2
  (x_Lok (x_rt (I := xI) (k := 1) ⟨(x_dk dl_42_0_ok 8 rfl), rfl⟩))
  (x_Lok (x_st (I := xI) (xr_aload_n (i := 0) (x_dk dl_42_0_ok 9 rfl))))))))
  (x_Tok2
  (x_Tok2
  (x_Tok2
  (x_Lok (x_st (I := xI) (xr_getf (ci := 11) (k := 0) (ix := 10) (N := 15) (C := RX11) (T := TX11) rfl in_X11 (by decide) (in_t4 (List.mem_of_getElem? (i := 108) rfl) rfl) (x_dk dl_42_0_ok 10 rfl))))
  (x_Lok (x_st (I := xI) (xr_dup (x_dk dl_42_0_ok 11 rfl)))))
  (x_Tok2
  (x_Lok (x_st (I := xI) (xr_getf (ci := 8) (k := 0) (ix := 74) (N := 17) (C := RX8) (T := TX8) rfl in_X8 (by decide) (in_t1 (List.mem_of_getElem? (i := 65) rfl) rfl) (x_dk dl_42_0_ok 12 rfl))))
  (x_Tok2
  (x_Lok (x_st (I := xI) (xr_iload_n (i := 1) (x_dk dl_42_0_ok 13 rfl))))
  (x_Lok (x_st (I := xI) (xr_isub (x_dk dl_42_0_ok 14 rfl)))))))
  (x_Tok2
  (x_Tok2
  (x_Lok (x_st (I := xI) (xr_putf (ci := 8) (k := 0) (ix := 74) (N := 17) (fk := 0) (C := RX8) (T := TX8) (ty0 := tyX8) (ty := .int) rfl in_X8 tyX8_ok nmX8 (by decide) (in_t1 (List.mem_of_getElem? (i := 65) rfl) rfl) rfl rfl x_fit_int (x_dk dl_42_0_ok 15 rfl))))
  (x_Lok (x_st (I := xI) (xr_aload_n (i := 0) (x_dk dl_42_0_ok 16 rfl)))))
  (x_Tok2
  (x_Lok (x_st (I := xI) (xr_getf (ci := 11) (k := 0) (ix := 10) (N := 15) (C := RX11) (T := TX11) rfl in_X11 (by decide) (in_t4 (List.mem_of_getElem? (i := 108) rfl) rfl) (x_dk dl_42_0_ok 17 rfl))))
  (x_Tok2
  (x_Lok (x_st (I := xI) (xr_getf (ci := 8) (k := 0) (ix := 74) (N := 17) (C := RX8) (T := TX8) rfl in_X8 (by decide) (in_t1 (List.mem_of_getElem? (i := 65) rfl) rfl) (x_dk dl_42_0_ok 18 rfl))))
  (x_Lok (x_rt (I := xI) (k := 1) ⟨(x_dk dl_42_0_ok 19 rfl), rfl⟩)))))))
def tb_42 : Nat → xE := tb_42_0
theorem tb_42_ok (K : xKx) (hK : x_KP K) : ∀ pc, x_EOq cls K xI m_42 pc (tb_42 pc) := tb_42_0_ok K hK
def dl_43_0 : List (Nat × Instr × Nat) := [(0, .aload_n 0, 1), (1, .getfield 42, 3), (4, .getfield 86, 3), (7, .istore_n 1, 1), (8, .aload_n 0, 1), (9, .invokevirtual 71, 3), (12, .iload_n 1, 1), (13, .ireturn, 1)]
set_option maxRecDepth 20000 in
theorem dl_43_0_ok : dl_43_0.all (fun q => decide (decode prog_1_method_4_code q.1 = .ok (q.2.1, q.2.2))) = true := by decide +kernel
def tb_43_0 : Nat → xE := (x_T 7 (x_T 1 (x_T 0 (x_L 0 (0, xi_load 0 2 1, 0, 0)) (x_L 1 (0, xi_getf 11 5 4, 0, 0))) (x_T 4 (x_L 4 (0, xi_getf 2 0 7, 0, 0)) (x_L 7 (0, xi_stor 1 0 8, 0, 0)))) (x_T 9 (x_T 8 (x_L 8 (0, xi_load 0 2 9, 0, 0)) (x_L 9 (2, x_nof, 100, 1))) (x_T 12 (x_L 12 (0, xi_load 1 0 13, 0, 0)) (x_L 13 (1, x_nof, 1, 0)))))
set_option maxRecDepth 20000 in
set_option maxHeartbeats 4000000 in
theorem tb_43_0_ok (K : xKx) (hK : x_KP K) : ∀ pc, x_EOq cls K xI m_43 pc (tb_43_0 pc) :=
  (x_Tok2
  (x_Tok2
  (x_Tok2
  (x_Lok (x_st (I := xI) (xr_aload_n (i := 0) (x_dk dl_43_0_ok 0 rfl))))
  (x_Lok (x_st (I := xI) (xr_getf (ci := 11) (k := 5) (ix := 42) (N := 15) (C := RX11) (T := TX11) rfl in_X11 (by decide) (in_t4 (List.mem_of_getElem? (i := 113) rfl) rfl) (x_dk dl_43_0_ok 1 rfl)))))
  (x_Tok2
  (x_Lok (x_st (I := xI) (xr_getf (ci := 2) (k := 0) (ix := 86) (N := 15) (C := RX2) (T := TX2) rfl in_X2 (by decide) (in_t2 (List.mem_of_getElem? (i := 13) rfl) rfl) (x_dk dl_43_0_ok 2 rfl))))
  (x_Lok (x_st (I := xI) (xr_istore_n (i := 1) (x_dk dl_43_0_ok 3 rfl) (by decide +kernel))))))
  (x_Tok2
  (x_Tok2
  (x_Lok (x_st (I := xI) (xr_aload_n (i := 0) (x_dk dl_43_0_ok 4 rfl))))
  (x_Lok (x_ca (I := xI) (q' := m_100) rfl (xr_callV (q' := m_100) (ix := 71) (n := 0) (in_t4 (List.mem_of_getElem? (i := 2) rfl) rfl) good_w (in_t1 (List.mem_of_getElem? (i := 1) rfl) rfl) (in_t3 (List.mem_of_getElem? (i := 239) rfl) rfl) (in_t4 (List.mem_of_getElem? (i := 1) rfl) rfl) (in_s1 (List.mem_of_getElem? (i := 0) rfl)) (by decide +kernel) (by decide +kernel) (by decide +kernel) (x_dk dl_43_0_ok 5 rfl)))))
  (x_Tok2
  (x_Lok (x_st (I := xI) (xr_iload_n (i := 1) (x_dk dl_43_0_ok 6 rfl))))
  (x_Lok (x_rt (I := xI) (k := 1) ⟨(x_dk dl_43_0_ok 7 rfl), rfl⟩)))))
def tb_43 : Nat → xE := tb_43_0
theorem tb_43_ok (K : xKx) (hK : x_KP K) : ∀ pc, x_EOq cls K xI m_43 pc (tb_43 pc) := tb_43_0_ok K hK
def dl_44_0 : List (Nat × Instr × Nat) := [(0, .iload_n 1, 1), (1, .sipush (-8000), 3), (4, .sipush 8000, 3), (7, .invokestatic 82, 3), (10, .ifCond .eq 16, 3), (13, .iload_n 2, 1), (14, .sipush (-8000), 3), (17, .sipush 8000, 3), (20, .invokestatic 82, 3), (23, .ifCond .ne 5, 3), (26, .iconst (-1), 1), (27, .ireturn, 1), (28, .iload_n 3, 1), (29, .iconst 0, 1), (30, .sipush 4095, 3), (33, .invokestatic 82, 3), (36, .ifCond .eq 15, 3), (39, .iload 4, 2), (41, .iconst 0, 1), (42, .sipush 800, 3), (45, .invokestatic 82, 3), (48, .ifCond .ne 5, 3), (51, .iconst (-1), 1), (52, .ireturn, 1), (53, .aload_n 0, 1), (54, .getfield 91, 3), (57, .ifCond .eq 6, 3), (63, .aload_n 0, 1), (64, .getfield 94, 3), (67, .iconst 4, 1), (68, .if_icmp .lt 6, 3), (74, .aload_n 0, 1), (75, .getfield 27, 3), (78, .aload_n 0, 1), (79, .getfield 94, 3), (82, .aaload, 1), (83, .iload_n 1, 1), (84, .iload_n 2, 1), (85, .iload_n 3, 1), (86, .iload 4, 2), (88, .invokevirtual 97, 3), (91, .aload_n 0, 1), (92, .dup, 1), (93, .getfield 94, 3), (96, .iconst 1, 1), (97, .iadd, 1), (98, .putfield 94, 3), (101, .aload_n 0, 1), (102, .getfield 94, 3), (105, .iconst 1, 1), (106, .isub, 1), (107, .ireturn, 1)]
set_option maxRecDepth 20000 in
theorem dl_44_0_ok : dl_44_0.all (fun q => decide (decode prog_1_method_5_code q.1 = .ok (q.2.1, q.2.2))) = true := by decide +kernel
def tb_44_0 : Nat → xE := (x_T 28 (x_T 13 (x_T 4 (x_T 0 (x_L 0 (0, xi_load 1 0 1, 0, 0)) (x_T 1 (x_L 1 (0, xi_push (0, (-8000), (-8000)) 4, 0, 0)) (x_L 4 (0, xi_push (0, 8000, 8000) 7, 0, 0)))) (x_T 7 (x_L 7 (2, x_nof, 93, 3)) (x_T 10 (x_L 10 (0, xi_if1 0 26 13, 0, 0)) (x_L 13 (0, xi_load 2 0 14, 0, 0))))) (x_T 20 (x_T 14 (x_L 14 (0, xi_push (0, (-8000), (-8000)) 17, 0, 0)) (x_T 17 (x_L 17 (0, xi_push (0, 8000, 8000) 20, 0, 0)) (x_L 20 (2, x_nof, 93, 3)))) (x_T 26 (x_T 23 (x_L 23 (0, xi_if1 1 28 26, 0, 0)) (x_L 26 (0, xi_push (0, (-1), (-1)) 27, 0, 0))) (x_T 27 (x_L 27 (1, x_nof, 1, 0)) (x_L 28 (0, xi_load 3 0 29, 0, 0)))))) (x_T 41 (x_T 33 (x_T 29 (x_L 29 (0, xi_push (0, 0, 0) 30, 0, 0)) (x_T 30 (x_L 30 (0, xi_push (0, 4095, 4095) 33, 0, 0)) (x_L 33 (2, x_nof, 93, 3)))) (x_T 36 (x_L 36 (0, xi_if1 0 51 39, 0, 0)) (x_T 39 (x_L 39 (0, xi_load 4 0 41, 0, 0)) (x_L 41 (0, xi_push (0, 0, 0) 42, 0, 0))))) (x_T 48 (x_T 42 (x_L 42 (0, xi_push (0, 800, 800) 45, 0, 0)) (x_T 45 (x_L 45 (2, x_nof, 93, 3)) (x_L 48 (0, xi_if1 1 53 51, 0, 0)))) (x_T 52 (x_T 51 (x_L 51 (0, xi_push (0, (-1), (-1)) 52, 0, 0)) (x_L 52 (1, x_nof, 1, 0))) (x_T 53 (x_L 53 (0, xi_load 0 2 54, 0, 0)) (x_L 54 (0, xi_getf 11 13 57, 0, 0)))))))
set_option maxRecDepth 20000 in
set_option maxHeartbeats 4000000 in
theorem tb_44_0_ok (K : xKx) (hK : x_KP K) : ∀ pc, x_EOq cls K xI m_44 pc (tb_44_0 pc) :=
  (x_Tok2
  (x_Tok2
  (x_Tok2
  (x_Tok2
  (x_Lok (x_st (I := xI) (xr_iload_n (i := 1) (x_dk dl_44_0_ok 0 rfl))))
  (x_Tok2
  (x_Lok (x_st (I := xI) (xr_sipush (n := (-8000)) (z := (-8000)) (v := (-8000)) (x_dk dl_44_0_ok 1 rfl) (by decide) (by decide))))
  (x_Lok (x_st (I := xI) (xr_sipush (n := 8000) (z := 8000) (v := 8000) (x_dk dl_44_0_ok 2 rfl) (by decide) (by decide))))))
  (x_Tok2
  (x_Lok (x_ca (I := xI) (q' := m_93) rfl (xr_callS (q' := m_93) (ix := 82) (n := 3) (in_t4 (List.mem_of_getElem? (i := 168) rfl) rfl) good_w (in_t1 (List.mem_of_getElem? (i := 1) rfl) rfl) (in_t4 (List.mem_of_getElem? (i := 166) rfl) rfl) (in_t4 (List.mem_of_getElem? (i := 167) rfl) rfl) (by decide +kernel) (by decide +kernel) (x_dk dl_44_0_ok 3 rfl))))
  (x_Tok2
  (x_Lok (x_st (I := xI) (xr_ifeq (off := 16) (tg := 26) (x_dk dl_44_0_ok 4 rfl) (by decide))))
  (x_Lok (x_st (I := xI) (xr_iload_n (i := 2) (x_dk dl_44_0_ok 5 rfl)))))))
  (x_Tok2
  (x_Tok2
  (x_Lok (x_st (I := xI) (xr_sipush (n := (-8000)) (z := (-8000)) (v := (-8000)) (x_dk dl_44_0_ok 6 rfl) (by decide) (by decide))))
  (x_Tok2
  (x_Lok (x_st (I := xI) (xr_sipush (n := 8000) (z := 8000) (v := 8000) (x_dk dl_44_0_ok 7 rfl) (by decide) (by decide))))
  (x_Lok (x_ca (I := xI) (q' := m_93) rfl (xr_callS (q' := m_93) (ix := 82) (n := 3) (in_t4 (List.mem_of_getElem? (i := 168) rfl) rfl) good_w (in_t1 (List.mem_of_getElem? (i := 1) rfl) rfl) (in_t4 (List.mem_of_getElem? (i := 166) rfl) rfl) (in_t4 (List.mem_of_getElem? (i := 167) rfl) rfl) (by decide +kernel) (by decide +kernel) (x_dk dl_44_0_ok 8 rfl))))))
  (x_Tok2
  (x_Tok2
  (x_Lok (x_st (I := xI) (xr_ifne (off := 5) (tg := 28) (x_dk dl_44_0_ok 9 rfl) (by decide))))
  (x_Lok (x_st (I := xI) (xr_iconst (n := (-1)) (z := (-1)) (v := (-1)) (x_dk dl_44_0_ok 10 rfl) (by decide) (by decide)))))
  (x_Tok2
  (x_Lok (x_rt (I := xI) (k := 1) ⟨(x_dk dl_44_0_ok 11 rfl), rfl⟩))
  (x_Lok (x_st (I := xI) (xr_iload_n (i := 3) (x_dk dl_44_0_ok 12 rfl))))))))
  (x_Tok2
  (x_Tok2
  (x_Tok2
  (x_Lok (x_st (I := xI) (xr_iconst (n := 0) (z := 0) (v := 0) (x_dk dl_44_0_ok 13 rfl) (by decide) (by decide))))
  (x_Tok2
  (x_Lok (x_st (I := xI) (xr_sipush (n := 4095) (z := 4095) (v := 4095) (x_dk dl_44_0_ok 14 rfl) (by decide) (by decide))))
  (x_Lok (x_ca (I := xI) (q' := m_93) rfl (xr_callS (q' := m_93) (ix := 82) (n := 3) (in_t4 (List.mem_of_getElem? (i := 168) rfl) rfl) good_w (in_t1 (List.mem_of_getElem? (i := 1) rfl) rfl) (in_t4 (List.mem_of_getElem? (i := 166) rfl) rfl) (in_t4 (List.mem_of_getElem? (i := 167) rfl) rfl) (by decide +kernel) (by decide +kernel) (x_dk dl_44_0_ok 15 rfl))))))
  (x_Tok2
  (x_Lok (x_st (I := xI) (xr_ifeq (off := 15) (tg := 51) (x_dk dl_44_0_ok 16 rfl) (by decide))))
  (x_Tok2
  (x_Lok (x_st (I := xI) (xr_iload (i := 4) (x_dk dl_44_0_ok 17 rfl))))
  (x_Lok (x_st (I := xI) (xr_iconst (n := 0) (z := 0) (v := 0) (x_dk dl_44_0_ok 18 rfl) (by decide) (by decide)))))))
  (x_Tok2
  (x_Tok2
  (x_Lok (x_st (I := xI) (xr_sipush (n := 800) (z := 800) (v := 800) (x_dk dl_44_0_ok 19 rfl) (by decide) (by decide))))
  (x_Tok2
  (x_Lok (x_ca (I := xI) (q' := m_93) rfl (xr_callS (q' := m_93) (ix := 82) (n := 3) (in_t4 (List.mem_of_getElem? (i := 168) rfl) rfl) good_w (in_t1 (List.mem_of_getElem? (i := 1) rfl) rfl) (in_t4 (List.mem_of_getElem? (i := 166) rfl) rfl) (in_t4 (List.mem_of_getElem? (i := 167) rfl) rfl) (by decide +kernel) (by decide +kernel) (x_dk dl_44_0_ok 20 rfl))))
  (x_Lok (x_st (I := xI) (xr_ifne (off := 5) (tg := 53) (x_dk dl_44_0_ok 21 rfl) (by decide))))))
  (x_Tok2
  (x_Tok2
  (x_Lok (x_st (I := xI) (xr_iconst (n := (-1)) (z := (-1)) (v := (-1)) (x_dk dl_44_0_ok 22 rfl) (by decide) (by decide))))
  (x_Lok (x_rt (I := xI) (k := 1) ⟨(x_dk dl_44_0_ok 23 rfl), rfl⟩)))
  (x_Tok2
  (x_Lok (x_st (I := xI) (xr_aload_n (i := 0) (x_dk dl_44_0_ok 24 rfl))))
  (x_Lok (x_st (I := xI) (xr_getf (ci := 11) (k := 13) (ix := 91) (N := 15) (C := RX11) (T := TX11) rfl in_X11 (by decide) (in_t4 (List.mem_of_getElem? (i := 121) rfl) rfl) (x_dk dl_44_0_ok 25 rfl)))))))))
def tb_44_26 : Nat → xE := (x_T 85 (x_T 74 (x_T 64 (x_T 57 (x_L 57 (0, xi_if1 0 63 60, 0, 0)) (x_T 63 (x_L 63 (0, xi_load 0 2 64, 0, 0)) (x_L 64 (0, xi_getf 11 11 67, 0, 0)))) (x_T 67 (x_L 67 (0, xi_push (0, 4, 4) 68, 0, 0)) (x_T 68 (x_L 68 (0, xi_if2 2 74 71, 0, 0)) (x_L 74 (0, xi_load 0 2 75, 0, 0))))) (x_T 79 (x_T 75 (x_L 75 (0, xi_getf 11 2 78, 0, 0)) (x_T 78 (x_L 78 (0, xi_load 0 2 79, 0, 0)) (x_L 79 (0, xi_getf 11 11 82, 0, 0)))) (x_T 83 (x_T 82 (x_L 82 (0, xi_aald 83, 0, 0)) (x_L 83 (0, xi_load 1 0 84, 0, 0))) (x_T 84 (x_L 84 (0, xi_load 2 0 85, 0, 0)) (x_L 85 (0, xi_load 3 0 86, 0, 0)))))) (x_T 96 (x_T 91 (x_T 86 (x_L 86 (0, xi_load 4 0 88, 0, 0)) (x_T 88 (x_L 88 (2, x_nof, 2, 5)) (x_L 91 (0, xi_load 0 2 92, 0, 0)))) (x_T 92 (x_L 92 (0, xi_stk xf_dup 93, 0, 0)) (x_T 93 (x_L 93 (0, xi_getf 11 11 96, 0, 0)) (x_L 96 (0, xi_push (0, 1, 1) 97, 0, 0))))) (x_T 101 (x_T 97 (x_L 97 (0, xi_bin xF_add 98, 0, 0)) (x_T 98 (x_L 98 (0, xi_putf 11 11 0 101, 0, 0)) (x_L 101 (0, xi_load 0 2 102, 0, 0)))) (x_T 105 (x_T 102 (x_L 102 (0, xi_getf 11 11 105, 0, 0)) (x_L 105 (0, xi_push (0, 1, 1) 106, 0, 0))) (x_T 106 (x_L 106 (0, xi_bin xF_sub 107, 0, 0)) (x_L 107 (1, x_nof, 1, 0)))))))
set_option maxRecDepth 20000 in
set_option maxHeartbeats 4000000 in
theorem tb_44_26_ok (K : xKx) (hK : x_KP K) : ∀ pc, x_EOq cls K xI m_44 pc (tb_44_26 pc) :=
  (x_Tok2
  (x_Tok2
  (x_Tok2
  (x_Tok2
  (x_Lok (x_st (I := xI) (xr_ifeq (off := 6) (tg := 63) (x_dk dl_44_0_ok 26 rfl) (by decide))))
  (x_Tok2
  (x_Lok (x_st (I := xI) (xr_aload_n (i := 0) (x_dk dl_44_0_ok 27 rfl))))
  (x_Lok (x_st (I := xI) (xr_getf (ci := 11) (k := 11) (ix := 94) (N := 15) (C := RX11) (T := TX11) rfl in_X11 (by decide) (in_t4 (List.mem_of_getElem? (i := 119) rfl) rfl) (x_dk dl_44_0_ok 28 rfl))))))
  (x_Tok2
  (x_Lok (x_st (I := xI) (xr_iconst (n := 4) (z := 4) (v := 4) (x_dk dl_44_0_ok 29 rfl) (by decide) (by decide))))
  (x_Tok2
  (x_Lok (x_st (I := xI) (xr_icmplt (off := 6) (tg := 74) (x_dk dl_44_0_ok 30 rfl) (by decide))))
  (x_Lok (x_st (I := xI) (xr_aload_n (i := 0) (x_dk dl_44_0_ok 31 rfl)))))))
  (x_Tok2
  (x_Tok2
  (x_Lok (x_st (I := xI) (xr_getf (ci := 11) (k := 2) (ix := 27) (N := 15) (C := RX11) (T := TX11) rfl in_X11 (by decide) (in_t4 (List.mem_of_getElem? (i := 110) rfl) rfl) (x_dk dl_44_0_ok 32 rfl))))
  (x_Tok2
  (x_Lok (x_st (I := xI) (xr_aload_n (i := 0) (x_dk dl_44_0_ok 33 rfl))))
  (x_Lok (x_st (I := xI) (xr_getf (ci := 11) (k := 11) (ix := 94) (N := 15) (C := RX11) (T := TX11) rfl in_X11 (by decide) (in_t4 (List.mem_of_getElem? (i := 119) rfl) rfl) (x_dk dl_44_0_ok 34 rfl))))))
  (x_Tok2
  (x_Tok2
  (x_Lok (x_st (I := xI) (xr_aaload (x_dk dl_44_0_ok 35 rfl))))
  (x_Lok (x_st (I := xI) (xr_iload_n (i := 1) (x_dk dl_44_0_ok 36 rfl)))))
  (x_Tok2
  (x_Lok (x_st (I := xI) (xr_iload_n (i := 2) (x_dk dl_44_0_ok 37 rfl))))
  (x_Lok (x_st (I := xI) (xr_iload_n (i := 3) (x_dk dl_44_0_ok 38 rfl))))))))
  (x_Tok2
  (x_Tok2
  (x_Tok2
  (x_Lok (x_st (I := xI) (xr_iload (i := 4) (x_dk dl_44_0_ok 39 rfl))))
  (x_Tok2
  (x_Lok (x_ca (I := xI) (q' := m_2) rfl (xr_callV (q' := m_2) (ix := 97) (n := 4) (in_t4 (List.mem_of_getElem? (i := 6) rfl) rfl) good_w (in_t1 (List.mem_of_getElem? (i := 8) rfl) rfl) (in_t4 (List.mem_of_getElem? (i := 3) rfl) rfl) (in_t4 (List.mem_of_getElem? (i := 4) rfl) rfl) (in_t4 (List.mem_of_getElem? (i := 5) rfl) rfl) (by decide +kernel) (by decide +kernel) (by decide +kernel) (x_dk dl_44_0_ok 40 rfl))))
  (x_Lok (x_st (I := xI) (xr_aload_n (i := 0) (x_dk dl_44_0_ok 41 rfl))))))
  (x_Tok2
  (x_Lok (x_st (I := xI) (xr_dup (x_dk dl_44_0_ok 42 rfl))))
  (x_Tok2
  (x_Lok (x_st (I := xI) (xr_getf (ci := 11) (k := 11) (ix := 94) (N := 15) (C := RX11) (T := TX11) rfl in_X11 (by decide) (in_t4 (List.mem_of_getElem? (i := 119) rfl) rfl) (x_dk dl_44_0_ok 43 rfl))))
  (x_Lok (x_st (I := xI) (xr_iconst (n := 1) (z := 1) (v := 1) (x_dk dl_44_0_ok 44 rfl) (by decide) (by decide)))))))
  (x_Tok2
  (x_Tok2
  (x_Lok (x_st (I := xI) (xr_iadd (x_dk dl_44_0_ok 45 rfl))))
  (x_Tok2
  (x_Lok (x_st (I := xI) (xr_putf (ci := 11) (k := 11) (ix := 94) (N := 15) (fk := 0) (C := RX11) (T := TX11) (ty0 := tyX11) (ty := .int) rfl in_X11 tyX11_ok nmX11 (by decide) (in_t4 (List.mem_of_getElem? (i := 119) rfl) rfl) rfl rfl x_fit_int (x_dk dl_44_0_ok 46 rfl))))
  (x_Lok (x_st (I := xI) (xr_aload_n (i := 0) (x_dk dl_44_0_ok 47 rfl))))))
  (x_Tok2
  (x_Tok2
  (x_Lok (x_st (I := xI) (xr_getf (ci := 11) (k := 11) (ix := 94) (N := 15) (C := RX11) (T := TX11) rfl in_X11 (by decide) (in_t4 (List.mem_of_getElem? (i := 119) rfl) rfl) (x_dk dl_44_0_ok 48 rfl))))
  (x_Lok (x_st (I := xI) (xr_iconst (n := 1) (z := 1) (v := 1) (x_dk dl_44_0_ok 49 rfl) (by decide) (by decide)))))
  (x_Tok2
  (x_Lok (x_st (I := xI) (xr_isub (x_dk dl_44_0_ok 50 rfl))))
  (x_Lok (x_rt (I := xI) (k := 1) ⟨(x_dk dl_44_0_ok 51 rfl), rfl⟩)))))))
def tb_44 : Nat → xE := (x_T 54 tb_44_0 tb_44_26)
theorem tb_44_ok (K : xKx) (hK : x_KP K) : ∀ pc, x_EOq cls K xI m_44 pc (tb_44 pc) := (x_Tok2 (tb_44_0_ok K hK) (tb_44_26_ok K hK))
def dl_45_0 : List (Nat × Instr × Nat) := [(0, .aload_n 0, 1), (1, .iload_n 1, 1), (2, .invokevirtual 103, 3), (5, .ifCond .eq 12, 3), (17, .iconst (-1), 1), (18, .ireturn, 1)]
set_option maxRecDepth 20000 in
theorem dl_45_0_ok : dl_45_0.all (fun q => decide (decode prog_1_method_6_code q.1 = .ok (q.2.1, q.2.2))) = true := by decide +kernel
def tb_45_0 : Nat → xE := (x_T 2 (x_T 0 (x_L 0 (0, xi_load 0 2 1, 0, 0)) (x_T 1 (x_L 1 (0, xi_load 1 0 2, 0, 0)) (x_L 2 (2, x_nof, 97, 2)))) (x_T 5 (x_L 5 (0, xi_if1 0 17 8, 0, 0)) (x_T 17 (x_L 17 (0, xi_push (0, (-1), (-1)) 18, 0, 0)) (x_L 18 (1, x_nof, 1, 0)))))
set_option maxRecDepth 20000 in
set_option maxHeartbeats 4000000 in
theorem tb_45_0_ok (K : xKx) (hK : x_KP K) : ∀ pc, x_EOq cls K xI m_45 pc (tb_45_0 pc) :=
  (x_Tok2
  (x_Tok2
  (x_Lok (x_st (I := xI) (xr_aload_n (i := 0) (x_dk dl_45_0_ok 0 rfl))))
  (x_Tok2
  (x_Lok (x_st (I := xI) (xr_iload_n (i := 1) (x_dk dl_45_0_ok 1 rfl))))
  (x_Lok (x_ca (I := xI) (q' := m_97) rfl (xr_callV (q' := m_97) (ix := 103) (n := 1) (in_t4 (List.mem_of_getElem? (i := 184) rfl) rfl) good_w (in_t1 (List.mem_of_getElem? (i := 1) rfl) rfl) (in_t4 (List.mem_of_getElem? (i := 181) rfl) rfl) (in_t4 (List.mem_of_getElem? (i := 183) rfl) rfl) (in_s1 (List.mem_of_getElem? (i := 8) rfl)) (by decide +kernel) (by decide +kernel) (by decide +kernel) (x_dk dl_45_0_ok 2 rfl))))))
  (x_Tok2
  (x_Lok (x_st (I := xI) (xr_ifeq (off := 12) (tg := 17) (x_dk dl_45_0_ok 3 rfl) (by decide))))
  (x_Tok2
  (x_Lok (x_st (I := xI) (xr_iconst (n := (-1)) (z := (-1)) (v := (-1)) (x_dk dl_45_0_ok 4 rfl) (by decide) (by decide))))
  (x_Lok (x_rt (I := xI) (k := 1) ⟨(x_dk dl_45_0_ok 5 rfl), rfl⟩)))))
def tb_45 : Nat → xE := tb_45_0
theorem tb_45_ok (K : xKx) (hK : x_KP K) : ∀ pc, x_EOq cls K xI m_45 pc (tb_45 pc) := tb_45_0_ok K hK
def dl_46_0 : List (Nat × Instr × Nat) := [(0, .aload_n 0, 1), (1, .iload_n 1, 1), (2, .iload_n 2, 1), (3, .invokevirtual 119, 3), (6, .ifCond .ne 5, 3), (9, .iconst (-1), 1), (10, .ireturn, 1)]
set_option maxRecDepth 20000 in
theorem dl_46_0_ok : dl_46_0.all (fun q => decide (decode prog_1_method_7_code q.1 = .ok (q.2.1, q.2.2))) = true := by decide +kernel
def tb_46_0 : Nat → xE := (x_T 2 (x_T 0 (x_L 0 (0, xi_load 0 2 1, 0, 0)) (x_T 1 (x_L 1 (0, xi_load 1 0 2, 0, 0)) (x_L 2 (0, xi_load 2 0 3, 0, 0)))) (x_T 6 (x_T 3 (x_L 3 (2, x_nof, 98, 3)) (x_L 6 (0, xi_if1 1 11 9, 0, 0))) (x_T 9 (x_L 9 (0, xi_push (0, (-1), (-1)) 10, 0, 0)) (x_L 10 (1, x_nof, 1, 0)))))
set_option maxRecDepth 20000 in
set_option maxHeartbeats 4000000 in
theorem tb_46_0_ok (K : xKx) (hK : x_KP K) : ∀ pc, x_EOq cls K xI m_46 pc (tb_46_0 pc) :=
  (x_Tok2
  (x_Tok2
  (x_Lok (x_st (I := xI) (xr_aload_n (i := 0) (x_dk dl_46_0_ok 0 rfl))))
  (x_Tok2
  (x_Lok (x_st (I := xI) (xr_iload_n (i := 1) (x_dk dl_46_0_ok 1 rfl))))
  (x_Lok (x_st (I := xI) (xr_iload_n (i := 2) (x_dk dl_46_0_ok 2 rfl))))))
  (x_Tok2
  (x_Tok2
  (x_Lok (x_ca (I := xI) (q' := m_98) rfl (xr_callV (q' := m_98) (ix := 119) (n := 2) (in_t4 (List.mem_of_getElem? (i := 201) rfl) rfl) good_w (in_t1 (List.mem_of_getElem? (i := 1) rfl) rfl) (in_t4 (List.mem_of_getElem? (i := 198) rfl) rfl) (in_t4 (List.mem_of_getElem? (i := 200) rfl) rfl) (in_s1 (List.mem_of_getElem? (i := 9) rfl)) (by decide +kernel) (by decide +kernel) (by decide +kernel) (x_dk dl_46_0_ok 3 rfl))))
  (x_Lok (x_st (I := xI) (xr_ifne (off := 5) (tg := 11) (x_dk dl_46_0_ok 4 rfl) (by decide)))))
  (x_Tok2
  (x_Lok (x_st (I := xI) (xr_iconst (n := (-1)) (z := (-1)) (v := (-1)) (x_dk dl_46_0_ok 5 rfl) (by decide) (by decide))))
  (x_Lok (x_rt (I := xI) (k := 1) ⟨(x_dk dl_46_0_ok 6 rfl), rfl⟩)))))
def tb_46 : Nat → xE := tb_46_0
theorem tb_46_ok (K : xKx) (hK : x_KP K) : ∀ pc, x_EOq cls K xI m_46 pc (tb_46 pc) := tb_46_0_ok K hK
def dl_47_0 : List (Nat × Instr × Nat) := [(0, .aload_n 0, 1), (1, .iload_n 1, 1), (2, .iload_n 2, 1), (3, .invokevirtual 119, 3), (6, .ifCond .eq 14, 3), (20, .iconst (-1), 1), (21, .ireturn, 1)]
set_option maxRecDepth 20000 in
theorem dl_47_0_ok : dl_47_0.all (fun q => decide (decode prog_1_method_8_code q.1 = .ok (q.2.1, q.2.2))) = true := by decide +kernel
def tb_47_0 : Nat → xE := (x_T 2 (x_T 0 (x_L 0 (0, xi_load 0 2 1, 0, 0)) (x_T 1 (x_L 1 (0, xi_load 1 0 2, 0, 0)) (x_L 2 (0, xi_load 2 0 3, 0, 0)))) (x_T 6 (x_T 3 (x_L 3 (2, x_nof, 98, 3)) (x_L 6 (0, xi_if1 0 20 9, 0, 0))) (x_T 20 (x_L 20 (0, xi_push (0, (-1), (-1)) 21, 0, 0)) (x_L 21 (1, x_nof, 1, 0)))))
set_option maxRecDepth 20000 in
set_option maxHeartbeats 4000000 in
theorem tb_47_0_ok (K : xKx) (hK : x_KP K) : ∀ pc, x_EOq cls K xI m_47 pc (tb_47_0 pc) :=
  (x_Tok2
  (x_Tok2
  (x_Lok (x_st (I := xI) (xr_aload_n (i := 0) (x_dk dl_47_0_ok 0 rfl))))
  (x_Tok2
  (x_Lok (x_st (I := xI) (xr_iload_n (i := 1) (x_dk dl_47_0_ok 1 rfl))))
  (x_Lok (x_st (I := xI) (xr_iload_n (i := 2) (x_dk dl_47_0_ok 2 rfl))))))
  (x_Tok2
  (x_Tok2
  (x_Lok (x_ca (I := xI) (q' := m_98) rfl (xr_callV (q' := m_98) (ix := 119) (n := 2) (in_t4 (List.mem_of_getElem? (i := 201) rfl) rfl) good_w (in_t1 (List.mem_of_getElem? (i := 1) rfl) rfl) (in_t4 (List.mem_of_getElem? (i := 198) rfl) rfl) (in_t4 (List.mem_of_getElem? (i := 200) rfl) rfl) (in_s1 (List.mem_of_getElem? (i := 9) rfl)) (by decide +kernel) (by decide +kernel) (by decide +kernel) (x_dk dl_47_0_ok 3 rfl))))
  (x_Lok (x_st (I := xI) (xr_ifeq (off := 14) (tg := 20) (x_dk dl_47_0_ok 4 rfl) (by decide)))))
  (x_Tok2
  (x_Lok (x_st (I := xI) (xr_iconst (n := (-1)) (z := (-1)) (v := (-1)) (x_dk dl_47_0_ok 5 rfl) (by decide) (by decide))))
  (x_Lok (x_rt (I := xI) (k := 1) ⟨(x_dk dl_47_0_ok 6 rfl), rfl⟩)))))
def tb_47 : Nat → xE := tb_47_0
theorem tb_47_ok (K : xKx) (hK : x_KP K) : ∀ pc, x_EOq cls K xI m_47 pc (tb_47 pc) := tb_47_0_ok K hK
def dl_48_0 : List (Nat × Instr × Nat) := [(0, .iload_n 1, 1), (1, .iload_n 2, 1), (2, .invokestatic 138, 3), (5, .ifCond .eq 14, 3), (8, .iload_n 3, 1), (9, .iconst 0, 1), (10, .sipush 8000, 3), (13, .invokestatic 82, 3), (16, .ifCond .ne 5, 3), (19, .iconst (-1), 1), (20, .ireturn, 1), (21, .aload_n 0, 1), (22, .getfield 91, 3), (25, .ifCond .eq 6, 3), (31, .aload_n 0, 1), (32, .getfield 46, 3), (35, .iload_n 1, 1), (36, .iload_n 2, 1), (37, .iconst 0, 1), (38, .iconst 0, 1), (39, .iload_n 3, 1), (40, .invokevirtual 141, 3), (43, .ireturn, 1)]
set_option maxRecDepth 20000 in
theorem dl_48_0_ok : dl_48_0.all (fun q => decide (decode prog_1_method_9_code q.1 = .ok (q.2.1, q.2.2))) = true := by decide +kernel
def tb_48_0 : Nat → xE := (x_T 20 (x_T 8 (x_T 1 (x_T 0 (x_L 0 (0, xi_load 1 0 1, 0, 0)) (x_L 1 (0, xi_load 2 0 2, 0, 0))) (x_T 2 (x_L 2 (2, x_nof, 94, 2)) (x_T 5 (x_L 5 (0, xi_if1 0 19 8, 0, 0)) (x_L 8 (0, xi_load 3 0 9, 0, 0))))) (x_T 13 (x_T 9 (x_L 9 (0, xi_push (0, 0, 0) 10, 0, 0)) (x_T 10 (x_L 10 (0, xi_push (0, 8000, 8000) 13, 0, 0)) (x_L 13 (2, x_nof, 93, 3)))) (x_T 16 (x_L 16 (0, xi_if1 1 21 19, 0, 0)) (x_T 19 (x_L 19 (0, xi_push (0, (-1), (-1)) 20, 0, 0)) (x_L 20 (1, x_nof, 1, 0)))))) (x_T 35 (x_T 25 (x_T 21 (x_L 21 (0, xi_load 0 2 22, 0, 0)) (x_T 22 (x_L 22 (0, xi_getf 11 13 25, 0, 0)) (x_L 25 (0, xi_if1 0 31 28, 0, 0)))) (x_T 31 (x_L 31 (0, xi_load 0 2 32, 0, 0)) (x_T 32 (x_L 32 (0, xi_getf 11 6 35, 0, 0)) (x_L 35 (0, xi_load 1 0 36, 0, 0))))) (x_T 38 (x_T 36 (x_L 36 (0, xi_load 2 0 37, 0, 0)) (x_T 37 (x_L 37 (0, xi_push (0, 0, 0) 38, 0, 0)) (x_L 38 (0, xi_push (0, 0, 0) 39, 0, 0)))) (x_T 39 (x_L 39 (0, xi_load 3 0 40, 0, 0)) (x_T 40 (x_L 40 (2, x_nof, 35, 6)) (x_L 43 (1, x_nof, 1, 0)))))))
set_option maxRecDepth 20000 in
set_option maxHeartbeats 4000000 in
theorem tb_48_0_ok (K : xKx) (hK : x_KP K) : ∀ pc, x_EOq cls K xI m_48 pc (tb_48_0 pc) :=
  (x_Tok2
  (x_Tok2
  (x_Tok2
  (x_Tok2
  (x_Lok (x_st (I := xI) (xr_iload_n (i := 1) (x_dk dl_48_0_ok 0 rfl))))
  (x_Lok (x_st (I := xI) (xr_iload_n (i := 2) (x_dk dl_48_0_ok 1 rfl)))))
  (x_Tok2
  (x_Lok (x_ca (I := xI) (q' := m_94) rfl (xr_callS (q' := m_94) (ix := 138) (n := 2) (in_t4 (List.mem_of_getElem? (i := 212) rfl) rfl) good_w (in_t1 (List.mem_of_getElem? (i := 1) rfl) rfl) (in_t4 (List.mem_of_getElem? (i := 210) rfl) rfl) (in_t4 (List.mem_of_getElem? (i := 211) rfl) rfl) (by decide +kernel) (by decide +kernel) (x_dk dl_48_0_ok 2 rfl))))
  (x_Tok2
  (x_Lok (x_st (I := xI) (xr_ifeq (off := 14) (tg := 19) (x_dk dl_48_0_ok 3 rfl) (by decide))))
  (x_Lok (x_st (I := xI) (xr_iload_n (i := 3) (x_dk dl_48_0_ok 4 rfl)))))))
  (x_Tok2
  (x_Tok2
  (x_Lok (x_st (I := xI) (xr_iconst (n := 0) (z := 0) (v := 0) (x_dk dl_48_0_ok 5 rfl) (by decide) (by decide))))
  (x_Tok2
  (x_Lok (x_st (I := xI) (xr_sipush (n := 8000) (z := 8000) (v := 8000) (x_dk dl_48_0_ok 6 rfl) (by decide) (by decide))))
  (x_Lok (x_ca (I := xI) (q' := m_93) rfl (xr_callS (q' := m_93) (ix := 82) (n := 3) (in_t4 (List.mem_of_getElem? (i := 168) rfl) rfl) good_w (in_t1 (List.mem_of_getElem? (i := 1) rfl) rfl) (in_t4 (List.mem_of_getElem? (i := 166) rfl) rfl) (in_t4 (List.mem_of_getElem? (i := 167) rfl) rfl) (by decide +kernel) (by decide +kernel) (x_dk dl_48_0_ok 7 rfl))))))
  (x_Tok2
  (x_Lok (x_st (I := xI) (xr_ifne (off := 5) (tg := 21) (x_dk dl_48_0_ok 8 rfl) (by decide))))
  (x_Tok2
  (x_Lok (x_st (I := xI) (xr_iconst (n := (-1)) (z := (-1)) (v := (-1)) (x_dk dl_48_0_ok 9 rfl) (by decide) (by decide))))
  (x_Lok (x_rt (I := xI) (k := 1) ⟨(x_dk dl_48_0_ok 10 rfl), rfl⟩))))))
  (x_Tok2
  (x_Tok2
  (x_Tok2
  (x_Lok (x_st (I := xI) (xr_aload_n (i := 0) (x_dk dl_48_0_ok 11 rfl))))
  (x_Tok2
  (x_Lok (x_st (I := xI) (xr_getf (ci := 11) (k := 13) (ix := 91) (N := 15) (C := RX11) (T := TX11) rfl in_X11 (by decide) (in_t4 (List.mem_of_getElem? (i := 121) rfl) rfl) (x_dk dl_48_0_ok 12 rfl))))
  (x_Lok (x_st (I := xI) (xr_ifeq (off := 6) (tg := 31) (x_dk dl_48_0_ok 13 rfl) (by decide))))))
  (x_Tok2
  (x_Lok (x_st (I := xI) (xr_aload_n (i := 0) (x_dk dl_48_0_ok 14 rfl))))
  (x_Tok2
  (x_Lok (x_st (I := xI) (xr_getf (ci := 11) (k := 6) (ix := 46) (N := 15) (C := RX11) (T := TX11) rfl in_X11 (by decide) (in_t4 (List.mem_of_getElem? (i := 114) rfl) rfl) (x_dk dl_48_0_ok 15 rfl))))
  (x_Lok (x_st (I := xI) (xr_iload_n (i := 1) (x_dk dl_48_0_ok 16 rfl)))))))
  (x_Tok2
  (x_Tok2
  (x_Lok (x_st (I := xI) (xr_iload_n (i := 2) (x_dk dl_48_0_ok 17 rfl))))
  (x_Tok2
  (x_Lok (x_st (I := xI) (xr_iconst (n := 0) (z := 0) (v := 0) (x_dk dl_48_0_ok 18 rfl) (by decide) (by decide))))
  (x_Lok (x_st (I := xI) (xr_iconst (n := 0) (z := 0) (v := 0) (x_dk dl_48_0_ok 19 rfl) (by decide) (by decide))))))
  (x_Tok2
  (x_Lok (x_st (I := xI) (xr_iload_n (i := 3) (x_dk dl_48_0_ok 20 rfl))))
  (x_Tok2
  (x_Lok (x_ca (I := xI) (q' := m_35) rfl (xr_callV (q' := m_35) (ix := 141) (n := 5) (in_t4 (List.mem_of_getElem? (i := 216) rfl) rfl) good_w (in_t1 (List.mem_of_getElem? (i := 11) rfl) rfl) (in_t4 (List.mem_of_getElem? (i := 213) rfl) rfl) (in_t4 (List.mem_of_getElem? (i := 214) rfl) rfl) (in_t4 (List.mem_of_getElem? (i := 215) rfl) rfl) (by decide +kernel) (by decide +kernel) (by decide +kernel) (x_dk dl_48_0_ok 21 rfl))))
  (x_Lok (x_rt (I := xI) (k := 1) ⟨(x_dk dl_48_0_ok 22 rfl), rfl⟩)))))))
def tb_48 : Nat → xE := tb_48_0
theorem tb_48_ok (K : xKx) (hK : x_KP K) : ∀ pc, x_EOq cls K xI m_48 pc (tb_48 pc) := tb_48_0_ok K hK
def dl_49_0 : List (Nat × Instr × Nat) := [(0, .iload_n 1, 1), (1, .iload_n 2, 1), (2, .iload_n 3, 1), (3, .iload 4, 2), (5, .invokestatic 145, 3), (8, .ifCond .ne 5, 3), (11, .iconst (-1), 1), (12, .ireturn, 1), (13, .aload_n 0, 1), (14, .getfield 91, 3), (17, .ifCond .eq 6, 3), (23, .aload_n 0, 1), (24, .getfield 46, 3), (27, .iload_n 1, 1), (28, .iload_n 2, 1), (29, .iload_n 3, 1), (30, .iload 4, 2), (32, .iconst (-1), 1), (33, .invokevirtual 141, 3), (36, .ireturn, 1)]
set_option maxRecDepth 20000 in
theorem dl_49_0_ok : dl_49_0.all (fun q => decide (decode prog_1_method_10_code q.1 = .ok (q.2.1, q.2.2))) = true := by decide +kernel
def tb_49_0 : Nat → xE := (x_T 14 (x_T 5 (x_T 1 (x_T 0 (x_L 0 (0, xi_load 1 0 1, 0, 0)) (x_L 1 (0, xi_load 2 0 2, 0, 0))) (x_T 2 (x_L 2 (0, xi_load 3 0 3, 0, 0)) (x_T 3 (x_L 3 (0, xi_load 4 0 5, 0, 0)) (x_L 5 (2, x_nof, 95, 4))))) (x_T 11 (x_T 8 (x_L 8 (0, xi_if1 1 13 11, 0, 0)) (x_L 11 (0, xi_push (0, (-1), (-1)) 12, 0, 0))) (x_T 12 (x_L 12 (1, x_nof, 1, 0)) (x_T 13 (x_L 13 (0, xi_load 0 2 14, 0, 0)) (x_L 14 (0, xi_getf 11 13 17, 0, 0)))))) (x_T 28 (x_T 23 (x_T 17 (x_L 17 (0, xi_if1 0 23 20, 0, 0)) (x_L 23 (0, xi_load 0 2 24, 0, 0))) (x_T 24 (x_L 24 (0, xi_getf 11 6 27, 0, 0)) (x_T 27 (x_L 27 (0, xi_load 1 0 28, 0, 0)) (x_L 28 (0, xi_load 2 0 29, 0, 0))))) (x_T 30 (x_T 29 (x_L 29 (0, xi_load 3 0 30, 0, 0)) (x_L 30 (0, xi_load 4 0 32, 0, 0))) (x_T 32 (x_L 32 (0, xi_push (0, (-1), (-1)) 33, 0, 0)) (x_T 33 (x_L 33 (2, x_nof, 35, 6)) (x_L 36 (1, x_nof, 1, 0)))))))
set_option maxRecDepth 20000 in
set_option maxHeartbeats 4000000 in
theorem tb_49_0_ok (K : xKx) (hK : x_KP K) : ∀ pc, x_EOq cls K xI m_49 pc (tb_49_0 pc) :=
  (x_Tok2
  (x_Tok2
  (x_Tok2
  (x_Tok2
  (x_Lok (x_st (I := xI) (xr_iload_n (i := 1) (x_dk dl_49_0_ok 0 rfl))))
  (x_Lok (x_st (I := xI) (xr_iload_n (i := 2) (x_dk dl_49_0_ok 1 rfl)))))
  (x_Tok2
  (x_Lok (x_st (I := xI) (xr_iload_n (i := 3) (x_dk dl_49_0_ok 2 rfl))))
  (x_Tok2
  (x_Lok (x_st (I := xI) (xr_iload (i := 4) (x_dk dl_49_0_ok 3 rfl))))
  (x_Lok (x_ca (I := xI) (q' := m_95) rfl (xr_callS (q' := m_95) (ix := 145) (n := 4) (in_t4 (List.mem_of_getElem? (i := 223) rfl) rfl) good_w (in_t1 (List.mem_of_getElem? (i := 1) rfl) rfl) (in_t4 (List.mem_of_getElem? (i := 221) rfl) rfl) (in_t4 (List.mem_of_getElem? (i := 222) rfl) rfl) (by decide +kernel) (by decide +kernel) (x_dk dl_49_0_ok 4 rfl)))))))
  (x_Tok2
  (x_Tok2
  (x_Lok (x_st (I := xI) (xr_ifne (off := 5) (tg := 13) (x_dk dl_49_0_ok 5 rfl) (by decide))))
  (x_Lok (x_st (I := xI) (xr_iconst (n := (-1)) (z := (-1)) (v := (-1)) (x_dk dl_49_0_ok 6 rfl) (by decide) (by decide)))))
  (x_Tok2
  (x_Lok (x_rt (I := xI) (k := 1) ⟨(x_dk dl_49_0_ok 7 rfl), rfl⟩))
  (x_Tok2
  (x_Lok (x_st (I := xI) (xr_aload_n (i := 0) (x_dk dl_49_0_ok 8 rfl))))
  (x_Lok (x_st (I := xI) (xr_getf (ci := 11) (k := 13) (ix := 91) (N := 15) (C := RX11) (T := TX11) rfl in_X11 (by decide) (in_t4 (List.mem_of_getElem? (i := 121) rfl) rfl) (x_dk dl_49_0_ok 9 rfl))))))))
  (x_Tok2
  (x_Tok2
  (x_Tok2
  (x_Lok (x_st (I := xI) (xr_ifeq (off := 6) (tg := 23) (x_dk dl_49_0_ok 10 rfl) (by decide))))
  (x_Lok (x_st (I := xI) (xr_aload_n (i := 0) (x_dk dl_49_0_ok 11 rfl)))))
  (x_Tok2
  (x_Lok (x_st (I := xI) (xr_getf (ci := 11) (k := 6) (ix := 46) (N := 15) (C := RX11) (T := TX11) rfl in_X11 (by decide) (in_t4 (List.mem_of_getElem? (i := 114) rfl) rfl) (x_dk dl_49_0_ok 12 rfl))))
  (x_Tok2
  (x_Lok (x_st (I := xI) (xr_iload_n (i := 1) (x_dk dl_49_0_ok 13 rfl))))
  (x_Lok (x_st (I := xI) (xr_iload_n (i := 2) (x_dk dl_49_0_ok 14 rfl)))))))
  (x_Tok2
  (x_Tok2
  (x_Lok (x_st (I := xI) (xr_iload_n (i := 3) (x_dk dl_49_0_ok 15 rfl))))
  (x_Lok (x_st (I := xI) (xr_iload (i := 4) (x_dk dl_49_0_ok 16 rfl)))))
  (x_Tok2
  (x_Lok (x_st (I := xI) (xr_iconst (n := (-1)) (z := (-1)) (v := (-1)) (x_dk dl_49_0_ok 17 rfl) (by decide) (by decide))))
  (x_Tok2
  (x_Lok (x_ca (I := xI) (q' := m_35) rfl (xr_callV (q' := m_35) (ix := 141) (n := 5) (in_t4 (List.mem_of_getElem? (i := 216) rfl) rfl) good_w (in_t1 (List.mem_of_getElem? (i := 11) rfl) rfl) (in_t4 (List.mem_of_getElem? (i := 213) rfl) rfl) (in_t4 (List.mem_of_getElem? (i := 214) rfl) rfl) (in_t4 (List.mem_of_getElem? (i := 215) rfl) rfl) (by decide +kernel) (by decide +kernel) (by decide +kernel) (x_dk dl_49_0_ok 18 rfl))))
  (x_Lok (x_rt (I := xI) (k := 1) ⟨(x_dk dl_49_0_ok 19 rfl), rfl⟩)))))))
def tb_49 : Nat → xE := tb_49_0
theorem tb_49_ok (K : xKx) (hK : x_KP K) : ∀ pc, x_EOq cls K xI m_49 pc (tb_49 pc) := tb_49_0_ok K hK
def dl_50_0 : List (Nat × Instr × Nat) := [(0, .aload_n 0, 1), (1, .iload_n 1, 1), (2, .invokevirtual 103, 3), (5, .ifCond .eq 13, 3), (18, .iconst (-1), 1), (19, .ireturn, 1)]
set_option maxRecDepth 20000 in
theorem dl_50_0_ok : dl_50_0.all (fun q => decide (decode prog_1_method_11_code q.1 = .ok (q.2.1, q.2.2))) = true := by decide +kernel
def tb_50_0 : Nat → xE := (x_T 2 (x_T 0 (x_L 0 (0, xi_load 0 2 1, 0, 0)) (x_T 1 (x_L 1 (0, xi_load 1 0 2, 0, 0)) (x_L 2 (2, x_nof, 97, 2)))) (x_T 5 (x_L 5 (0, xi_if1 0 18 8, 0, 0)) (x_T 18 (x_L 18 (0, xi_push (0, (-1), (-1)) 19, 0, 0)) (x_L 19 (1, x_nof, 1, 0)))))
set_option maxRecDepth 20000 in
set_option maxHeartbeats 4000000 in
theorem tb_50_0_ok (K : xKx) (hK : x_KP K) : ∀ pc, x_EOq cls K xI m_50 pc (tb_50_0 pc) :=
  (x_Tok2
  (x_Tok2
  (x_Lok (x_st (I := xI) (xr_aload_n (i := 0) (x_dk dl_50_0_ok 0 rfl))))
  (x_Tok2
  (x_Lok (x_st (I := xI) (xr_iload_n (i := 1) (x_dk dl_50_0_ok 1 rfl))))
  (x_Lok (x_ca (I := xI) (q' := m_97) rfl (xr_callV (q' := m_97) (ix := 103) (n := 1) (in_t4 (List.mem_of_getElem? (i := 184) rfl) rfl) good_w (in_t1 (List.mem_of_getElem? (i := 1) rfl) rfl) (in_t4 (List.mem_of_getElem? (i := 181) rfl) rfl) (in_t4 (List.mem_of_getElem? (i := 183) rfl) rfl) (in_s1 (List.mem_of_getElem? (i := 8) rfl)) (by decide +kernel) (by decide +kernel) (by decide +kernel) (x_dk dl_50_0_ok 2 rfl))))))
  (x_Tok2
  (x_Lok (x_st (I := xI) (xr_ifeq (off := 13) (tg := 18) (x_dk dl_50_0_ok 3 rfl) (by decide))))
  (x_Tok2
  (x_Lok (x_st (I := xI) (xr_iconst (n := (-1)) (z := (-1)) (v := (-1)) (x_dk dl_50_0_ok 4 rfl) (by decide) (by decide))))
  (x_Lok (x_rt (I := xI) (k := 1) ⟨(x_dk dl_50_0_ok 5 rfl), rfl⟩)))))
def tb_50 : Nat → xE := tb_50_0
theorem tb_50_ok (K : xKx) (hK : x_KP K) : ∀ pc, x_EOq cls K xI m_50 pc (tb_50 pc) := tb_50_0_ok K hK
def dl_51_0 : List (Nat × Instr × Nat) := [(0, .iload_n 1, 1), (1, .iload_n 2, 1), (2, .invokestatic 138, 3), (5, .ifCond .eq 12, 3), (8, .iload_n 3, 1), (9, .iconst 0, 1), (10, .iconst 3, 1), (11, .invokestatic 82, 3), (14, .ifCond .ne 5, 3), (17, .iconst (-1), 1), (18, .ireturn, 1), (19, .iload 4, 2), (21, .iconst 0, 1), (22, .sipush 16000, 3), (25, .invokestatic 82, 3), (28, .ifCond .eq 15, 3), (31, .iload 5, 2), (33, .iconst 0, 1), (34, .sipush 2000, 3), (37, .invokestatic 82, 3), (40, .ifCond .ne 5, 3), (43, .iconst (-1), 1), (44, .ireturn, 1), (45, .iload_n 1, 1), (46, .iload 4, 2), (48, .iload_n 3, 1), (49, .invokestatic 158, 3), (52, .imul, 1), (53, .iadd, 1), (54, .iload_n 2, 1), (55, .iload 4, 2), (57, .iload_n 3, 1), (58, .invokestatic 164, 3), (61, .imul, 1), (62, .iadd, 1), (63, .invokestatic 138, 3), (66, .ifCond .ne 5, 3), (69, .iconst (-1), 1), (70, .ireturn, 1), (71, .aload_n 0, 1), (72, .getfield 91, 3), (75, .ifCond .eq 6, 3), (81, .aload_n 0, 1), (82, .getfield 37, 3), (85, .getfield 167, 3), (88, .iconst 4, 1), (89, .if_icmp .lt 6, 3), (95, .aload_n 0, 1), (96, .getfield 37, 3), (99, .iload_n 1, 1), (100, .iload_n 2, 1), (101, .iload_n 3, 1), (102, .iload 4, 2), (104, .iload 5, 2), (106, .invokevirtual 170, 3), (109, .ireturn, 1)]
set_option maxRecDepth 20000 in
theorem dl_51_0_ok : dl_51_0.all (fun q => decide (decode prog_1_method_12_code q.1 = .ok (q.2.1, q.2.2))) = true := by decide +kernel
def tb_51_0 : Nat → xE := (x_T 22 (x_T 10 (x_T 2 (x_T 0 (x_L 0 (0, xi_load 1 0 1, 0, 0)) (x_T 1 (x_L 1 (0, xi_load 2 0 2, 0, 0)) (x_L 2 (2, x_nof, 94, 2)))) (x_T 8 (x_T 5 (x_L 5 (0, xi_if1 0 17 8, 0, 0)) (x_L 8 (0, xi_load 3 0 9, 0, 0))) (x_T 9 (x_L 9 (0, xi_push (0, 0, 0) 10, 0, 0)) (x_L 10 (0, xi_push (0, 3, 3) 11, 0, 0))))) (x_T 17 (x_T 11 (x_L 11 (2, x_nof, 93, 3)) (x_T 14 (x_L 14 (0, xi_if1 1 19 17, 0, 0)) (x_L 17 (0, xi_push (0, (-1), (-1)) 18, 0, 0)))) (x_T 19 (x_T 18 (x_L 18 (1, x_nof, 1, 0)) (x_L 19 (0, xi_load 4 0 21, 0, 0))) (x_T 21 (x_L 21 (0, xi_push (0, 0, 0) 22, 0, 0)) (x_L 22 (0, xi_push (0, 16000, 16000) 25, 0, 0)))))) (x_T 40 (x_T 31 (x_T 25 (x_L 25 (2, x_nof, 93, 3)) (x_T 28 (x_L 28 (0, xi_if1 0 43 31, 0, 0)) (x_L 31 (0, xi_load 5 0 33, 0, 0)))) (x_T 34 (x_T 33 (x_L 33 (0, xi_push (0, 0, 0) 34, 0, 0)) (x_L 34 (0, xi_push (0, 2000, 2000) 37, 0, 0))) (x_T 37 (x_L 37 (2, x_nof, 93, 3)) (x_L 40 (0, xi_if1 1 45 43, 0, 0))))) (x_T 45 (x_T 43 (x_L 43 (0, xi_push (0, (-1), (-1)) 44, 0, 0)) (x_T 44 (x_L 44 (1, x_nof, 1, 0)) (x_L 45 (0, xi_load 1 0 46, 0, 0)))) (x_T 48 (x_T 46 (x_L 46 (0, xi_load 4 0 48, 0, 0)) (x_L 48 (0, xi_splC 3 (xi_load 3 0 49), 0, 0))) (x_T 49 (x_L 49 (2, x_nof, 15, 1)) (x_L 52 (0, xi_or (x_top2 (3, 4, 0) (0, 1, 1)) (xi_bT (3, 4, 0) (0, 1, 1) 4 xG_mul 53) (xi_or (x_top2 (3, 4, 0) (0, (-1), (-1))) (xi_bT (3, 4, 0) (0, (-1), (-1)) 8 xG_mul 53) (xi_bin xF_mul 53)), 0, 0)))))))
set_option maxRecDepth 20000 in
set_option maxHeartbeats 4000000 in
theorem tb_51_0_ok (K : xKx) (hK : x_KP K) : ∀ pc, x_EOq cls K xI m_51 pc (tb_51_0 pc) :=
  (x_Tok2
  (x_Tok2
  (x_Tok2
  (x_Tok2
  (x_Lok (x_st (I := xI) (xr_iload_n (i := 1) (x_dk dl_51_0_ok 0 rfl))))
  (x_Tok2
  (x_Lok (x_st (I := xI) (xr_iload_n (i := 2) (x_dk dl_51_0_ok 1 rfl))))
  (x_Lok (x_ca (I := xI) (q' := m_94) rfl (xr_callS (q' := m_94) (ix := 138) (n := 2) (in_t4 (List.mem_of_getElem? (i := 212) rfl) rfl) good_w (in_t1 (List.mem_of_getElem? (i := 1) rfl) rfl) (in_t4 (List.mem_of_getElem? (i := 210) rfl) rfl) (in_t4 (List.mem_of_getElem? (i := 211) rfl) rfl) (by decide +kernel) (by decide +kernel) (x_dk dl_51_0_ok 2 rfl))))))
  (x_Tok2
  (x_Tok2
  (x_Lok (x_st (I := xI) (xr_ifeq (off := 12) (tg := 17) (x_dk dl_51_0_ok 3 rfl) (by decide))))
  (x_Lok (x_st (I := xI) (xr_iload_n (i := 3) (x_dk dl_51_0_ok 4 rfl)))))
  (x_Tok2
  (x_Lok (x_st (I := xI) (xr_iconst (n := 0) (z := 0) (v := 0) (x_dk dl_51_0_ok 5 rfl) (by decide) (by decide))))
  (x_Lok (x_st (I := xI) (xr_iconst (n := 3) (z := 3) (v := 3) (x_dk dl_51_0_ok 6 rfl) (by decide) (by decide)))))))
  (x_Tok2
  (x_Tok2
  (x_Lok (x_ca (I := xI) (q' := m_93) rfl (xr_callS (q' := m_93) (ix := 82) (n := 3) (in_t4 (List.mem_of_getElem? (i := 168) rfl) rfl) good_w (in_t1 (List.mem_of_getElem? (i := 1) rfl) rfl) (in_t4 (List.mem_of_getElem? (i := 166) rfl) rfl) (in_t4 (List.mem_of_getElem? (i := 167) rfl) rfl) (by decide +kernel) (by decide +kernel) (x_dk dl_51_0_ok 7 rfl))))
  (x_Tok2
  (x_Lok (x_st (I := xI) (xr_ifne (off := 5) (tg := 19) (x_dk dl_51_0_ok 8 rfl) (by decide))))
  (x_Lok (x_st (I := xI) (xr_iconst (n := (-1)) (z := (-1)) (v := (-1)) (x_dk dl_51_0_ok 9 rfl) (by decide) (by decide))))))
  (x_Tok2
  (x_Tok2
  (x_Lok (x_rt (I := xI) (k := 1) ⟨(x_dk dl_51_0_ok 10 rfl), rfl⟩))
  (x_Lok (x_st (I := xI) (xr_iload (i := 4) (x_dk dl_51_0_ok 11 rfl)))))
  (x_Tok2
  (x_Lok (x_st (I := xI) (xr_iconst (n := 0) (z := 0) (v := 0) (x_dk dl_51_0_ok 12 rfl) (by decide) (by decide))))
  (x_Lok (x_st (I := xI) (xr_sipush (n := 16000) (z := 16000) (v := 16000) (x_dk dl_51_0_ok 13 rfl) (by decide) (by decide))))))))
  (x_Tok2
  (x_Tok2
  (x_Tok2
  (x_Lok (x_ca (I := xI) (q' := m_93) rfl (xr_callS (q' := m_93) (ix := 82) (n := 3) (in_t4 (List.mem_of_getElem? (i := 168) rfl) rfl) good_w (in_t1 (List.mem_of_getElem? (i := 1) rfl) rfl) (in_t4 (List.mem_of_getElem? (i := 166) rfl) rfl) (in_t4 (List.mem_of_getElem? (i := 167) rfl) rfl) (by decide +kernel) (by decide +kernel) (x_dk dl_51_0_ok 14 rfl))))
  (x_Tok2
  (x_Lok (x_st (I := xI) (xr_ifeq (off := 15) (tg := 43) (x_dk dl_51_0_ok 15 rfl) (by decide))))
  (x_Lok (x_st (I := xI) (xr_iload (i := 5) (x_dk dl_51_0_ok 16 rfl))))))
  (x_Tok2
  (x_Tok2
  (x_Lok (x_st (I := xI) (xr_iconst (n := 0) (z := 0) (v := 0) (x_dk dl_51_0_ok 17 rfl) (by decide) (by decide))))
  (x_Lok (x_st (I := xI) (xr_sipush (n := 2000) (z := 2000) (v := 2000) (x_dk dl_51_0_ok 18 rfl) (by decide) (by decide)))))
  (x_Tok2
  (x_Lok (x_ca (I := xI) (q' := m_93) rfl (xr_callS (q' := m_93) (ix := 82) (n := 3) (in_t4 (List.mem_of_getElem? (i := 168) rfl) rfl) good_w (in_t1 (List.mem_of_getElem? (i := 1) rfl) rfl) (in_t4 (List.mem_of_getElem? (i := 166) rfl) rfl) (in_t4 (List.mem_of_getElem? (i := 167) rfl) rfl) (by decide +kernel) (by decide +kernel) (x_dk dl_51_0_ok 19 rfl))))
  (x_Lok (x_st (I := xI) (xr_ifne (off := 5) (tg := 45) (x_dk dl_51_0_ok 20 rfl) (by decide)))))))
  (x_Tok2
  (x_Tok2
  (x_Lok (x_st (I := xI) (xr_iconst (n := (-1)) (z := (-1)) (v := (-1)) (x_dk dl_51_0_ok 21 rfl) (by decide) (by decide))))
  (x_Tok2
  (x_Lok (x_rt (I := xI) (k := 1) ⟨(x_dk dl_51_0_ok 22 rfl), rfl⟩))
  (x_Lok (x_st (I := xI) (xr_iload_n (i := 1) (x_dk dl_51_0_ok 23 rfl))))))
  (x_Tok2
  (x_Tok2
  (x_Lok (x_st (I := xI) (xr_iload (i := 4) (x_dk dl_51_0_ok 24 rfl))))
  (x_Lok (x_st (I := xI) (xi_splC_ok (xr_iload_n (i := 3) (x_dk dl_51_0_ok 25 rfl))))))
  (x_Tok2
  (x_Lok (x_ca (I := xI) (q' := m_15) rfl (xr_callS (q' := m_15) (ix := 158) (n := 1) (in_t4 (List.mem_of_getElem? (i := 238) rfl) rfl) good_w (in_t1 (List.mem_of_getElem? (i := 6) rfl) rfl) (in_t4 (List.mem_of_getElem? (i := 236) rfl) rfl) (in_t4 (List.mem_of_getElem? (i := 237) rfl) rfl) (by decide +kernel) (by decide +kernel) (x_dk dl_51_0_ok 26 rfl))))
  (x_Lok (x_st (I := xI) (xi_or_ok (xr_tmulI (px := (3, 4, 0)) (py := (0, 1, 1)) (c := 4) (x_dk dl_51_0_ok 27 rfl) (x_hV2 (px := (3, 4, 0)) (py := (0, 1, 1)) (c := 4) (fun x y => x * y) hK rfl rfl (by decide) (fun f h => by unfold x_fR at h; show f 4 = f 4 * 1; omega))) (xi_or_ok (xr_tmulI (px := (3, 4, 0)) (py := (0, (-1), (-1))) (c := 8) (x_dk dl_51_0_ok 27 rfl) (x_hV2 (px := (3, 4, 0)) (py := (0, (-1), (-1))) (c := 8) (fun x y => x * y) hK rfl rfl (by decide) (fun f h => by unfold x_fR at h; show f 8 = f 4 * (-1); omega))) (xr_imul (x_dk dl_51_0_ok 27 rfl)))))))))))
def tb_51_28 : Nat → xE := (x_T 75 (x_T 62 (x_T 55 (x_T 53 (x_L 53 (0, xi_or (x_top2 (3, 1, 0) (3, 4, 0)) (xi_bT (3, 1, 0) (3, 4, 0) 10 xG_add 54) (xi_or (x_top2 (3, 1, 0) (3, 8, 0)) (xi_bT (3, 1, 0) (3, 8, 0) 11 xG_add 54) (xi_or (x_top2 (3, 1, 0) (0, 0, 0)) (xi_bT (3, 1, 0) (0, 0, 0) 1 xG_add 54) (xi_bin xF_add 54))), 0, 0)) (x_T 54 (x_L 54 (0, xi_load 2 0 55, 0, 0)) (x_L 55 (0, xi_load 4 0 57, 0, 0)))) (x_T 58 (x_T 57 (x_L 57 (0, xi_load 3 0 58, 0, 0)) (x_L 58 (2, x_nof, 16, 1))) (x_T 61 (x_L 61 (0, xi_or (x_top2 (3, 4, 0) (0, 1, 1)) (xi_bT (3, 4, 0) (0, 1, 1) 4 xG_mul 62) (xi_or (x_top2 (3, 4, 0) (0, (-1), (-1))) (xi_bT (3, 4, 0) (0, (-1), (-1)) 8 xG_mul 62) (xi_bin xF_mul 62)), 0, 0)) (x_L 62 (0, xi_or (x_top2 (3, 2, 0) (3, 4, 0)) (xi_bT (3, 2, 0) (3, 4, 0) 12 xG_add 63) (xi_or (x_top2 (3, 2, 0) (3, 8, 0)) (xi_bT (3, 2, 0) (3, 8, 0) 13 xG_add 63) (xi_or (x_top2 (3, 2, 0) (0, 0, 0)) (xi_bT (3, 2, 0) (0, 0, 0) 2 xG_add 63) (xi_bin xF_add 63))), 0, 0))))) (x_T 69 (x_T 63 (x_L 63 (2, x_nof, 94, 2)) (x_T 66 (x_L 66 (0, xi_if1 1 71 69, 0, 0)) (x_L 69 (0, xi_push (0, (-1), (-1)) 70, 0, 0)))) (x_T 71 (x_T 70 (x_L 70 (1, x_nof, 1, 0)) (x_L 71 (0, xi_load 0 2 72, 0, 0))) (x_T 72 (x_L 72 (0, xi_getf 11 13 75, 0, 0)) (x_L 75 (0, xi_if1 0 81 78, 0, 0)))))) (x_T 96 (x_T 85 (x_T 81 (x_L 81 (0, xi_load 0 2 82, 0, 0)) (x_T 82 (x_L 82 (0, xi_getf 11 4 85, 0, 0)) (x_L 85 (0, xi_getf 4 0 88, 0, 0)))) (x_T 89 (x_T 88 (x_L 88 (0, xi_push (0, 4, 4) 89, 0, 0)) (x_L 89 (0, xi_if2 2 95 92, 0, 0))) (x_T 95 (x_L 95 (0, xi_load 0 2 96, 0, 0)) (x_L 96 (0, xi_getf 11 4 99, 0, 0))))) (x_T 101 (x_T 99 (x_L 99 (0, xi_load 1 0 100, 0, 0)) (x_T 100 (x_L 100 (0, xi_load 2 0 101, 0, 0)) (x_L 101 (0, xi_load 3 0 102, 0, 0)))) (x_T 104 (x_T 102 (x_L 102 (0, xi_load 4 0 104, 0, 0)) (x_L 104 (0, xi_load 5 0 106, 0, 0))) (x_T 106 (x_L 106 (2, x_nof, 17, 6)) (x_L 109 (1, x_nof, 1, 0)))))))
set_option maxRecDepth 20000 in
set_option maxHeartbeats 4000000 in
theorem tb_51_28_ok (K : xKx) (hK : x_KP K) : ∀ pc, x_EOq cls K xI m_51 pc (tb_51_28 pc) :=
  (x_Tok2
  (x_Tok2
  (x_Tok2
  (x_Tok2
  (x_Lok (x_st (I := xI) (xi_or_ok (xr_taddI (px := (3, 1, 0)) (py := (3, 4, 0)) (c := 10) (x_dk dl_51_0_ok 28 rfl) (x_hV2 (px := (3, 1, 0)) (py := (3, 4, 0)) (c := 10) (fun x y => x + y) hK rfl rfl (by decide) (fun f h => by unfold x_fR at h; show f 10 = f 1 + f 4; omega))) (xi_or_ok (xr_taddI (px := (3, 1, 0)) (py := (3, 8, 0)) (c := 11) (x_dk dl_51_0_ok 28 rfl) (x_hV2 (px := (3, 1, 0)) (py := (3, 8, 0)) (c := 11) (fun x y => x + y) hK rfl rfl (by decide) (fun f h => by unfold x_fR at h; show f 11 = f 1 + f 8; omega))) (xi_or_ok (xr_taddI (px := (3, 1, 0)) (py := (0, 0, 0)) (c := 1) (x_dk dl_51_0_ok 28 rfl) (x_hV2 (px := (3, 1, 0)) (py := (0, 0, 0)) (c := 1) (fun x y => x + y) hK rfl rfl (by decide) (fun f h => by unfold x_fR at h; show f 1 = f 1 + 0; omega))) (xr_iadd (x_dk dl_51_0_ok 28 rfl)))))))
  (x_Tok2
  (x_Lok (x_st (I := xI) (xr_iload_n (i := 2) (x_dk dl_51_0_ok 29 rfl))))
  (x_Lok (x_st (I := xI) (xr_iload (i := 4) (x_dk dl_51_0_ok 30 rfl))))))
  (x_Tok2
  (x_Tok2
  (x_Lok (x_st (I := xI) (xr_iload_n (i := 3) (x_dk dl_51_0_ok 31 rfl))))
  (x_Lok (x_ca (I := xI) (q' := m_16) rfl (xr_callS (q' := m_16) (ix := 164) (n := 1) (in_t5 (List.mem_of_getElem? (i := 1) rfl) rfl) good_w (in_t1 (List.mem_of_getElem? (i := 6) rfl) rfl) (in_t4 (List.mem_of_getElem? (i := 239) rfl) rfl) (in_t5 (List.mem_of_getElem? (i := 0) rfl) rfl) (by decide +kernel) (by decide +kernel) (x_dk dl_51_0_ok 32 rfl)))))
  (x_Tok2
  (x_Lok (x_st (I := xI) (xi_or_ok (xr_tmulI (px := (3, 4, 0)) (py := (0, 1, 1)) (c := 4) (x_dk dl_51_0_ok 33 rfl) (x_hV2 (px := (3, 4, 0)) (py := (0, 1, 1)) (c := 4) (fun x y => x * y) hK rfl rfl (by decide) (fun f h => by unfold x_fR at h; show f 4 = f 4 * 1; omega))) (xi_or_ok (xr_tmulI (px := (3, 4, 0)) (py := (0, (-1), (-1))) (c := 8) (x_dk dl_51_0_ok 33 rfl) (x_hV2 (px := (3, 4, 0)) (py := (0, (-1), (-1))) (c := 8) (fun x y => x * y) hK rfl rfl (by decide) (fun f h => by unfold x_fR at h; show f 8 = f 4 * (-1); omega))) (xr_imul (x_dk dl_51_0_ok 33 rfl))))))
  (x_Lok (x_st (I := xI) (xi_or_ok (xr_taddI (px := (3, 2, 0)) (py := (3, 4, 0)) (c := 12) (x_dk dl_51_0_ok 34 rfl) (x_hV2 (px := (3, 2, 0)) (py := (3, 4, 0)) (c := 12) (fun x y => x + y) hK rfl rfl (by decide) (fun f h => by unfold x_fR at h; show f 12 = f 2 + f 4; omega))) (xi_or_ok (xr_taddI (px := (3, 2, 0)) (py := (3, 8, 0)) (c := 13) (x_dk dl_51_0_ok 34 rfl) (x_hV2 (px := (3, 2, 0)) (py := (3, 8, 0)) (c := 13) (fun x y => x + y) hK rfl rfl (by decide) (fun f h => by unfold x_fR at h; show f 13 = f 2 + f 8; omega))) (xi_or_ok (xr_taddI (px := (3, 2, 0)) (py := (0, 0, 0)) (c := 2) (x_dk dl_51_0_ok 34 rfl) (x_hV2 (px := (3, 2, 0)) (py := (0, 0, 0)) (c := 2) (fun x y => x + y) hK rfl rfl (by decide) (fun f h => by unfold x_fR at h; show f 2 = f 2 + 0; omega))) (xr_iadd (x_dk dl_51_0_ok 34 rfl))))))))))
  (x_Tok2
  (x_Tok2
  (x_Lok (x_ca (I := xI) (q' := m_94) rfl (xr_callS (q' := m_94) (ix := 138) (n := 2) (in_t4 (List.mem_of_getElem? (i := 212) rfl) rfl) good_w (in_t1 (List.mem_of_getElem? (i := 1) rfl) rfl) (in_t4 (List.mem_of_getElem? (i := 210) rfl) rfl) (in_t4 (List.mem_of_getElem? (i := 211) rfl) rfl) (by decide +kernel) (by decide +kernel) (x_dk dl_51_0_ok 35 rfl))))
  (x_Tok2
  (x_Lok (x_st (I := xI) (xr_ifne (off := 5) (tg := 71) (x_dk dl_51_0_ok 36 rfl) (by decide))))
  (x_Lok (x_st (I := xI) (xr_iconst (n := (-1)) (z := (-1)) (v := (-1)) (x_dk dl_51_0_ok 37 rfl) (by decide) (by decide))))))
  (x_Tok2
  (x_Tok2
  (x_Lok (x_rt (I := xI) (k := 1) ⟨(x_dk dl_51_0_ok 38 rfl), rfl⟩))
  (x_Lok (x_st (I := xI) (xr_aload_n (i := 0) (x_dk dl_51_0_ok 39 rfl)))))
  (x_Tok2
  (x_Lok (x_st (I := xI) (xr_getf (ci := 11) (k := 13) (ix := 91) (N := 15) (C := RX11) (T := TX11) rfl in_X11 (by decide) (in_t4 (List.mem_of_getElem? (i := 121) rfl) rfl) (x_dk dl_51_0_ok 40 rfl))))
  (x_Lok (x_st (I := xI) (xr_ifeq (off := 6) (tg := 81) (x_dk dl_51_0_ok 41 rfl) (by decide))))))))
  (x_Tok2
  (x_Tok2
  (x_Tok2
  (x_Lok (x_st (I := xI) (xr_aload_n (i := 0) (x_dk dl_51_0_ok 42 rfl))))
  (x_Tok2
  (x_Lok (x_st (I := xI) (xr_getf (ci := 11) (k := 4) (ix := 37) (N := 15) (C := RX11) (T := TX11) rfl in_X11 (by decide) (in_t4 (List.mem_of_getElem? (i := 112) rfl) rfl) (x_dk dl_51_0_ok 43 rfl))))
  (x_Lok (x_st (I := xI) (xr_getf (ci := 4) (k := 0) (ix := 167) (N := 20) (C := RX4) (T := TX4) rfl in_X4 (by decide) (in_t1 (List.mem_of_getElem? (i := 176) rfl) rfl) (x_dk dl_51_0_ok 44 rfl))))))
  (x_Tok2
  (x_Tok2
  (x_Lok (x_st (I := xI) (xr_iconst (n := 4) (z := 4) (v := 4) (x_dk dl_51_0_ok 45 rfl) (by decide) (by decide))))
  (x_Lok (x_st (I := xI) (xr_icmplt (off := 6) (tg := 95) (x_dk dl_51_0_ok 46 rfl) (by decide)))))
  (x_Tok2
  (x_Lok (x_st (I := xI) (xr_aload_n (i := 0) (x_dk dl_51_0_ok 47 rfl))))
  (x_Lok (x_st (I := xI) (xr_getf (ci := 11) (k := 4) (ix := 37) (N := 15) (C := RX11) (T := TX11) rfl in_X11 (by decide) (in_t4 (List.mem_of_getElem? (i := 112) rfl) rfl) (x_dk dl_51_0_ok 48 rfl)))))))
  (x_Tok2
  (x_Tok2
  (x_Lok (x_st (I := xI) (xr_iload_n (i := 1) (x_dk dl_51_0_ok 49 rfl))))
  (x_Tok2
  (x_Lok (x_st (I := xI) (xr_iload_n (i := 2) (x_dk dl_51_0_ok 50 rfl))))
  (x_Lok (x_st (I := xI) (xr_iload_n (i := 3) (x_dk dl_51_0_ok 51 rfl))))))
  (x_Tok2
  (x_Tok2
  (x_Lok (x_st (I := xI) (xr_iload (i := 4) (x_dk dl_51_0_ok 52 rfl))))
  (x_Lok (x_st (I := xI) (xr_iload (i := 5) (x_dk dl_51_0_ok 53 rfl)))))
  (x_Tok2
  (x_Lok (x_ca (I := xI) (q' := m_17) rfl (xr_callV (q' := m_17) (ix := 170) (n := 5) (in_t5 (List.mem_of_getElem? (i := 5) rfl) rfl) good_w (in_t1 (List.mem_of_getElem? (i := 6) rfl) rfl) (in_t5 (List.mem_of_getElem? (i := 2) rfl) rfl) (in_t5 (List.mem_of_getElem? (i := 3) rfl) rfl) (in_t5 (List.mem_of_getElem? (i := 4) rfl) rfl) (by decide +kernel) (by decide +kernel) (by decide +kernel) (x_dk dl_51_0_ok 54 rfl))))
  (x_Lok (x_rt (I := xI) (k := 1) ⟨(x_dk dl_51_0_ok 55 rfl), rfl⟩)))))))
def tb_51 : Nat → xE := (x_T 52 tb_51_0 tb_51_28)
theorem tb_51_ok (K : xKx) (hK : x_KP K) : ∀ pc, x_EOq cls K xI m_51 pc (tb_51 pc) := (x_Tok2 (tb_51_0_ok K hK) (tb_51_28_ok K hK))
def dl_52_0 : List (Nat × Instr × Nat) := [(0, .aload_n 0, 1), (1, .iload_n 1, 1), (2, .invokevirtual 173, 3), (5, .ifCond .eq 13, 3), (18, .iconst (-1), 1), (19, .ireturn, 1)]
set_option maxRecDepth 20000 in
theorem dl_52_0_ok : dl_52_0.all (fun q => decide (decode prog_1_method_13_code q.1 = .ok (q.2.1, q.2.2))) = true := by decide +kernel
def tb_52_0 : Nat → xE := (x_T 2 (x_T 0 (x_L 0 (0, xi_load 0 2 1, 0, 0)) (x_T 1 (x_L 1 (0, xi_load 1 0 2, 0, 0)) (x_L 2 (2, x_nof, 99, 2)))) (x_T 5 (x_L 5 (0, xi_if1 0 18 8, 0, 0)) (x_T 18 (x_L 18 (0, xi_push (0, (-1), (-1)) 19, 0, 0)) (x_L 19 (1, x_nof, 1, 0)))))
set_option maxRecDepth 20000 in
set_option maxHeartbeats 4000000 in
theorem tb_52_0_ok (K : xKx) (hK : x_KP K) : ∀ pc, x_EOq cls K xI m_52 pc (tb_52_0 pc) :=
  (x_Tok2
  (x_Tok2
  (x_Lok (x_st (I := xI) (xr_aload_n (i := 0) (x_dk dl_52_0_ok 0 rfl))))
  (x_Tok2
  (x_Lok (x_st (I := xI) (xr_iload_n (i := 1) (x_dk dl_52_0_ok 1 rfl))))
  (x_Lok (x_ca (I := xI) (q' := m_99) rfl (xr_callV (q' := m_99) (ix := 173) (n := 1) (in_t5 (List.mem_of_getElem? (i := 15) rfl) rfl) good_w (in_t1 (List.mem_of_getElem? (i := 1) rfl) rfl) (in_t5 (List.mem_of_getElem? (i := 12) rfl) rfl) (in_t5 (List.mem_of_getElem? (i := 14) rfl) rfl) (in_s1 (List.mem_of_getElem? (i := 10) rfl)) (by decide +kernel) (by decide +kernel) (by decide +kernel) (x_dk dl_52_0_ok 2 rfl))))))
  (x_Tok2
  (x_Lok (x_st (I := xI) (xr_ifeq (off := 13) (tg := 18) (x_dk dl_52_0_ok 3 rfl) (by decide))))
  (x_Tok2
  (x_Lok (x_st (I := xI) (xr_iconst (n := (-1)) (z := (-1)) (v := (-1)) (x_dk dl_52_0_ok 4 rfl) (by decide) (by decide))))
  (x_Lok (x_rt (I := xI) (k := 1) ⟨(x_dk dl_52_0_ok 5 rfl), rfl⟩)))))
def tb_52 : Nat → xE := tb_52_0
theorem tb_52_ok (K : xKx) (hK : x_KP K) : ∀ pc, x_EOq cls K xI m_52 pc (tb_52 pc) := tb_52_0_ok K hK
def dl_53_0 : List (Nat × Instr × Nat) := [(0, .aload_n 0, 1), (1, .iload_n 1, 1), (2, .invokevirtual 173, 3), (5, .ifCond .eq 20, 3), (25, .iconst (-1), 1), (26, .ireturn, 1)]
set_option maxRecDepth 20000 in
theorem dl_53_0_ok : dl_53_0.all (fun q => decide (decode prog_1_method_14_code q.1 = .ok (q.2.1, q.2.2))) = true := by decide +kernel
def tb_53_0 : Nat → xE := (x_T 2 (x_T 0 (x_L 0 (0, xi_load 0 2 1, 0, 0)) (x_T 1 (x_L 1 (0, xi_load 1 0 2, 0, 0)) (x_L 2 (2, x_nof, 99, 2)))) (x_T 5 (x_L 5 (0, xi_if1 0 25 8, 0, 0)) (x_T 25 (x_L 25 (0, xi_push (0, (-1), (-1)) 26, 0, 0)) (x_L 26 (1, x_nof, 1, 0)))))
set_option maxRecDepth 20000 in
set_option maxHeartbeats 4000000 in
theorem tb_53_0_ok (K : xKx) (hK : x_KP K) : ∀ pc, x_EOq cls K xI m_53 pc (tb_53_0 pc) :=
  (x_Tok2
  (x_Tok2
  (x_Lok (x_st (I := xI) (xr_aload_n (i := 0) (x_dk dl_53_0_ok 0 rfl))))
  (x_Tok2
  (x_Lok (x_st (I := xI) (xr_iload_n (i := 1) (x_dk dl_53_0_ok 1 rfl))))
  (x_Lok (x_ca (I := xI) (q' := m_99) rfl (xr_callV (q' := m_99) (ix := 173) (n := 1) (in_t5 (List.mem_of_getElem? (i := 15) rfl) rfl) good_w (in_t1 (List.mem_of_getElem? (i := 1) rfl) rfl) (in_t5 (List.mem_of_getElem? (i := 12) rfl) rfl) (in_t5 (List.mem_of_getElem? (i := 14) rfl) rfl) (in_s1 (List.mem_of_getElem? (i := 10) rfl)) (by decide +kernel) (by decide +kernel) (by decide +kernel) (x_dk dl_53_0_ok 2 rfl))))))
  (x_Tok2
  (x_Lok (x_st (I := xI) (xr_ifeq (off := 20) (tg := 25) (x_dk dl_53_0_ok 3 rfl) (by decide))))
  (x_Tok2
  (x_Lok (x_st (I := xI) (xr_iconst (n := (-1)) (z := (-1)) (v := (-1)) (x_dk dl_53_0_ok 4 rfl) (by decide) (by decide))))
  (x_Lok (x_rt (I := xI) (k := 1) ⟨(x_dk dl_53_0_ok 5 rfl), rfl⟩)))))
def tb_53 : Nat → xE := tb_53_0
theorem tb_53_ok (K : xKx) (hK : x_KP K) : ∀ pc, x_EOq cls K xI m_53 pc (tb_53 pc) := tb_53_0_ok K hK
def dl_54_0 : List (Nat × Instr × Nat) := [(0, .aload_n 0, 1), (1, .iload_n 1, 1), (2, .invokevirtual 173, 3), (5, .ifCond .eq 31, 3), (36, .iconst (-1), 1), (37, .ireturn, 1)]
set_option maxRecDepth 20000 in
theorem dl_54_0_ok : dl_54_0.all (fun q => decide (decode prog_1_method_15_code q.1 = .ok (q.2.1, q.2.2))) = true := by decide +kernel
def tb_54_0 : Nat → xE := (x_T 2 (x_T 0 (x_L 0 (0, xi_load 0 2 1, 0, 0)) (x_T 1 (x_L 1 (0, xi_load 1 0 2, 0, 0)) (x_L 2 (2, x_nof, 99, 2)))) (x_T 5 (x_L 5 (0, xi_if1 0 36 8, 0, 0)) (x_T 36 (x_L 36 (0, xi_push (0, (-1), (-1)) 37, 0, 0)) (x_L 37 (1, x_nof, 1, 0)))))
set_option maxRecDepth 20000 in
set_option maxHeartbeats 4000000 in
theorem tb_54_0_ok (K : xKx) (hK : x_KP K) : ∀ pc, x_EOq cls K xI m_54 pc (tb_54_0 pc) :=
  (x_Tok2
  (x_Tok2
  (x_Lok (x_st (I := xI) (xr_aload_n (i := 0) (x_dk dl_54_0_ok 0 rfl))))
  (x_Tok2
  (x_Lok (x_st (I := xI) (xr_iload_n (i := 1) (x_dk dl_54_0_ok 1 rfl))))
  (x_Lok (x_ca (I := xI) (q' := m_99) rfl (xr_callV (q' := m_99) (ix := 173) (n := 1) (in_t5 (List.mem_of_getElem? (i := 15) rfl) rfl) good_w (in_t1 (List.mem_of_getElem? (i := 1) rfl) rfl) (in_t5 (List.mem_of_getElem? (i := 12) rfl) rfl) (in_t5 (List.mem_of_getElem? (i := 14) rfl) rfl) (in_s1 (List.mem_of_getElem? (i := 10) rfl)) (by decide +kernel) (by decide +kernel) (by decide +kernel) (x_dk dl_54_0_ok 2 rfl))))))
  (x_Tok2
  (x_Lok (x_st (I := xI) (xr_ifeq (off := 31) (tg := 36) (x_dk dl_54_0_ok 3 rfl) (by decide))))
  (x_Tok2
  (x_Lok (x_st (I := xI) (xr_iconst (n := (-1)) (z := (-1)) (v := (-1)) (x_dk dl_54_0_ok 4 rfl) (by decide) (by decide))))
  (x_Lok (x_rt (I := xI) (k := 1) ⟨(x_dk dl_54_0_ok 5 rfl), rfl⟩)))))
def tb_54 : Nat → xE := tb_54_0
theorem tb_54_ok (K : xKx) (hK : x_KP K) : ∀ pc, x_EOq cls K xI m_54 pc (tb_54 pc) := tb_54_0_ok K hK
def dl_55_0 : List (Nat × Instr × Nat) := [(0, .iload_n 1, 1), (1, .iload_n 2, 1), (2, .invokestatic 138, 3), (5, .ifCond .eq 14, 3), (8, .iload_n 3, 1), (9, .iconst 0, 1), (10, .sipush 800, 3), (13, .invokestatic 82, 3), (16, .ifCond .ne 5, 3), (19, .iconst (-1), 1), (20, .ireturn, 1), (21, .aload_n 0, 1), (22, .getfield 91, 3), (25, .ifCond .eq 6, 3), (31, .aload_n 0, 1), (32, .getfield 37, 3), (35, .bipush 8, 2), (37, .iconst 0, 1), (38, .iload_n 1, 1), (39, .iload_n 2, 1), (40, .iload_n 3, 1), (41, .invokevirtual 192, 3), (44, .ireturn, 1)]
set_option maxRecDepth 20000 in
theorem dl_55_0_ok : dl_55_0.all (fun q => decide (decode prog_1_method_16_code q.1 = .ok (q.2.1, q.2.2))) = true := by decide +kernel
def tb_55_0 : Nat → xE := (x_T 20 (x_T 8 (x_T 1 (x_T 0 (x_L 0 (0, xi_load 1 0 1, 0, 0)) (x_L 1 (0, xi_load 2 0 2, 0, 0))) (x_T 2 (x_L 2 (2, x_nof, 94, 2)) (x_T 5 (x_L 5 (0, xi_if1 0 19 8, 0, 0)) (x_L 8 (0, xi_load 3 0 9, 0, 0))))) (x_T 13 (x_T 9 (x_L 9 (0, xi_push (0, 0, 0) 10, 0, 0)) (x_T 10 (x_L 10 (0, xi_push (0, 800, 800) 13, 0, 0)) (x_L 13 (2, x_nof, 93, 3)))) (x_T 16 (x_L 16 (0, xi_if1 1 21 19, 0, 0)) (x_T 19 (x_L 19 (0, xi_push (0, (-1), (-1)) 20, 0, 0)) (x_L 20 (1, x_nof, 1, 0)))))) (x_T 35 (x_T 25 (x_T 21 (x_L 21 (0, xi_load 0 2 22, 0, 0)) (x_T 22 (x_L 22 (0, xi_getf 11 13 25, 0, 0)) (x_L 25 (0, xi_if1 0 31 28, 0, 0)))) (x_T 31 (x_L 31 (0, xi_load 0 2 32, 0, 0)) (x_T 32 (x_L 32 (0, xi_getf 11 4 35, 0, 0)) (x_L 35 (0, xi_push (0, 8, 8) 37, 0, 0))))) (x_T 39 (x_T 37 (x_L 37 (0, xi_push (0, 0, 0) 38, 0, 0)) (x_T 38 (x_L 38 (0, xi_load 1 0 39, 0, 0)) (x_L 39 (0, xi_load 2 0 40, 0, 0)))) (x_T 40 (x_L 40 (0, xi_load 3 0 41, 0, 0)) (x_T 41 (x_L 41 (2, x_nof, 18, 6)) (x_L 44 (1, x_nof, 1, 0)))))))
set_option maxRecDepth 20000 in
set_option maxHeartbeats 4000000 in
theorem tb_55_0_ok (K : xKx) (hK : x_KP K) : ∀ pc, x_EOq cls K xI m_55 pc (tb_55_0 pc) :=
  (x_Tok2
  (x_Tok2
  (x_Tok2
  (x_Tok2
  (x_Lok (x_st (I := xI) (xr_iload_n (i := 1) (x_dk dl_55_0_ok 0 rfl))))
  (x_Lok (x_st (I := xI) (xr_iload_n (i := 2) (x_dk dl_55_0_ok 1 rfl)))))
  (x_Tok2
  (x_Lok (x_ca (I := xI) (q' := m_94) rfl (xr_callS (q' := m_94) (ix := 138) (n := 2) (in_t4 (List.mem_of_getElem? (i := 212) rfl) rfl) good_w (in_t1 (List.mem_of_getElem? (i := 1) rfl) rfl) (in_t4 (List.mem_of_getElem? (i := 210) rfl) rfl) (in_t4 (List.mem_of_getElem? (i := 211) rfl) rfl) (by decide +kernel) (by decide +kernel) (x_dk dl_55_0_ok 2 rfl))))
  (x_Tok2
  (x_Lok (x_st (I := xI) (xr_ifeq (off := 14) (tg := 19) (x_dk dl_55_0_ok 3 rfl) (by decide))))
  (x_Lok (x_st (I := xI) (xr_iload_n (i := 3) (x_dk dl_55_0_ok 4 rfl)))))))
  (x_Tok2
  (x_Tok2
  (x_Lok (x_st (I := xI) (xr_iconst (n := 0) (z := 0) (v := 0) (x_dk dl_55_0_ok 5 rfl) (by decide) (by decide))))
  (x_Tok2
  (x_Lok (x_st (I := xI) (xr_sipush (n := 800) (z := 800) (v := 800) (x_dk dl_55_0_ok 6 rfl) (by decide) (by decide))))
  (x_Lok (x_ca (I := xI) (q' := m_93) rfl (xr_callS (q' := m_93) (ix := 82) (n := 3) (in_t4 (List.mem_of_getElem? (i := 168) rfl) rfl) good_w (in_t1 (List.mem_of_getElem? (i := 1) rfl) rfl) (in_t4 (List.mem_of_getElem? (i := 166) rfl) rfl) (in_t4 (List.mem_of_getElem? (i := 167) rfl) rfl) (by decide +kernel) (by decide +kernel) (x_dk dl_55_0_ok 7 rfl))))))
  (x_Tok2
  (x_Lok (x_st (I := xI) (xr_ifne (off := 5) (tg := 21) (x_dk dl_55_0_ok 8 rfl) (by decide))))
  (x_Tok2
  (x_Lok (x_st (I := xI) (xr_iconst (n := (-1)) (z := (-1)) (v := (-1)) (x_dk dl_55_0_ok 9 rfl) (by decide) (by decide))))
  (x_Lok (x_rt (I := xI) (k := 1) ⟨(x_dk dl_55_0_ok 10 rfl), rfl⟩))))))
  (x_Tok2
  (x_Tok2
  (x_Tok2
  (x_Lok (x_st (I := xI) (xr_aload_n (i := 0) (x_dk dl_55_0_ok 11 rfl))))
  (x_Tok2
  (x_Lok (x_st (I := xI) (xr_getf (ci := 11) (k := 13) (ix := 91) (N := 15) (C := RX11) (T := TX11) rfl in_X11 (by decide) (in_t4 (List.mem_of_getElem? (i := 121) rfl) rfl) (x_dk dl_55_0_ok 12 rfl))))
  (x_Lok (x_st (I := xI) (xr_ifeq (off := 6) (tg := 31) (x_dk dl_55_0_ok 13 rfl) (by decide))))))
  (x_Tok2
  (x_Lok (x_st (I := xI) (xr_aload_n (i := 0) (x_dk dl_55_0_ok 14 rfl))))
  (x_Tok2
  (x_Lok (x_st (I := xI) (xr_getf (ci := 11) (k := 4) (ix := 37) (N := 15) (C := RX11) (T := TX11) rfl in_X11 (by decide) (in_t4 (List.mem_of_getElem? (i := 112) rfl) rfl) (x_dk dl_55_0_ok 15 rfl))))
  (x_Lok (x_st (I := xI) (xr_bipush (n := 8) (z := 8) (v := 8) (x_dk dl_55_0_ok 16 rfl) (by decide) (by decide)))))))
  (x_Tok2
  (x_Tok2
  (x_Lok (x_st (I := xI) (xr_iconst (n := 0) (z := 0) (v := 0) (x_dk dl_55_0_ok 17 rfl) (by decide) (by decide))))
  (x_Tok2
  (x_Lok (x_st (I := xI) (xr_iload_n (i := 1) (x_dk dl_55_0_ok 18 rfl))))
  (x_Lok (x_st (I := xI) (xr_iload_n (i := 2) (x_dk dl_55_0_ok 19 rfl))))))
  (x_Tok2
  (x_Lok (x_st (I := xI) (xr_iload_n (i := 3) (x_dk dl_55_0_ok 20 rfl))))
  (x_Tok2
  (x_Lok (x_ca (I := xI) (q' := m_18) rfl (xr_callV (q' := m_18) (ix := 192) (n := 5) (in_t5 (List.mem_of_getElem? (i := 30) rfl) rfl) good_w (in_t1 (List.mem_of_getElem? (i := 6) rfl) rfl) (in_t5 (List.mem_of_getElem? (i := 27) rfl) rfl) (in_t5 (List.mem_of_getElem? (i := 28) rfl) rfl) (in_t5 (List.mem_of_getElem? (i := 29) rfl) rfl) (by decide +kernel) (by decide +kernel) (by decide +kernel) (x_dk dl_55_0_ok 21 rfl))))
  (x_Lok (x_rt (I := xI) (k := 1) ⟨(x_dk dl_55_0_ok 22 rfl), rfl⟩)))))))
def tb_55 : Nat → xE := tb_55_0
theorem tb_55_ok (K : xKx) (hK : x_KP K) : ∀ pc, x_EOq cls K xI m_55 pc (tb_55 pc) := tb_55_0_ok K hK
def dl_56_0 : List (Nat × Instr × Nat) := [(0, .aload_n 0, 1), (1, .iload_n 1, 1), (2, .invokevirtual 103, 3), (5, .ifCond .eq 15, 3), (20, .iconst (-1), 1), (21, .ireturn, 1)]
set_option maxRecDepth 20000 in
theorem dl_56_0_ok : dl_56_0.all (fun q => decide (decode prog_1_method_17_code q.1 = .ok (q.2.1, q.2.2))) = true := by decide +kernel
def tb_56_0 : Nat → xE := (x_T 2 (x_T 0 (x_L 0 (0, xi_load 0 2 1, 0, 0)) (x_T 1 (x_L 1 (0, xi_load 1 0 2, 0, 0)) (x_L 2 (2, x_nof, 97, 2)))) (x_T 5 (x_L 5 (0, xi_if1 0 20 8, 0, 0)) (x_T 20 (x_L 20 (0, xi_push (0, (-1), (-1)) 21, 0, 0)) (x_L 21 (1, x_nof, 1, 0)))))
set_option maxRecDepth 20000 in
set_option maxHeartbeats 4000000 in
theorem tb_56_0_ok (K : xKx) (hK : x_KP K) : ∀ pc, x_EOq cls K xI m_56 pc (tb_56_0 pc) :=
  (x_Tok2
  (x_Tok2
  (x_Lok (x_st (I := xI) (xr_aload_n (i := 0) (x_dk dl_56_0_ok 0 rfl))))
  (x_Tok2
  (x_Lok (x_st (I := xI) (xr_iload_n (i := 1) (x_dk dl_56_0_ok 1 rfl))))
  (x_Lok (x_ca (I := xI) (q' := m_97) rfl (xr_callV (q' := m_97) (ix := 103) (n := 1) (in_t4 (List.mem_of_getElem? (i := 184) rfl) rfl) good_w (in_t1 (List.mem_of_getElem? (i := 1) rfl) rfl) (in_t4 (List.mem_of_getElem? (i := 181) rfl) rfl) (in_t4 (List.mem_of_getElem? (i := 183) rfl) rfl) (in_s1 (List.mem_of_getElem? (i := 8) rfl)) (by decide +kernel) (by decide +kernel) (by decide +kernel) (x_dk dl_56_0_ok 2 rfl))))))
  (x_Tok2
  (x_Lok (x_st (I := xI) (xr_ifeq (off := 15) (tg := 20) (x_dk dl_56_0_ok 3 rfl) (by decide))))
  (x_Tok2
  (x_Lok (x_st (I := xI) (xr_iconst (n := (-1)) (z := (-1)) (v := (-1)) (x_dk dl_56_0_ok 4 rfl) (by decide) (by decide))))
  (x_Lok (x_rt (I := xI) (k := 1) ⟨(x_dk dl_56_0_ok 5 rfl), rfl⟩)))))
def tb_56 : Nat → xE := tb_56_0
theorem tb_56_ok (K : xKx) (hK : x_KP K) : ∀ pc, x_EOq cls K xI m_56 pc (tb_56 pc) := tb_56_0_ok K hK
def dl_57_0 : List (Nat × Instr × Nat) := [(0, .iload_n 1, 1), (1, .iconst 0, 1), (2, .aload_n 0, 1), (3, .getfield 46, 3), (6, .getfield 198, 3), (9, .iconst 1, 1), (10, .isub, 1), (11, .invokestatic 82, 3), (14, .ifCond .eq 14, 3), (28, .iconst (-1), 1), (29, .ireturn, 1)]
set_option maxRecDepth 20000 in
theorem dl_57_0_ok : dl_57_0.all (fun q => decide (decode prog_1_method_18_code q.1 = .ok (q.2.1, q.2.2))) = true := by decide +kernel
def tb_57_0 : Nat → xE := (x_T 6 (x_T 1 (x_T 0 (x_L 0 (0, xi_load 1 0 1, 0, 0)) (x_L 1 (0, xi_push (0, 0, 0) 2, 0, 0))) (x_T 2 (x_L 2 (0, xi_load 0 2 3, 0, 0)) (x_T 3 (x_L 3 (0, xi_getf 11 6 6, 0, 0)) (x_L 6 (0, xi_getf 9 1 9, 0, 0))))) (x_T 11 (x_T 9 (x_L 9 (0, xi_push (0, 1, 1) 10, 0, 0)) (x_T 10 (x_L 10 (0, xi_bin xF_sub 11, 0, 0)) (x_L 11 (2, x_nof, 93, 3)))) (x_T 14 (x_L 14 (0, xi_if1 0 28 17, 0, 0)) (x_T 28 (x_L 28 (0, xi_push (0, (-1), (-1)) 29, 0, 0)) (x_L 29 (1, x_nof, 1, 0))))))
set_option maxRecDepth 20000 in
set_option maxHeartbeats 4000000 in
theorem tb_57_0_ok (K : xKx) (hK : x_KP K) : ∀ pc, x_EOq cls K xI m_57 pc (tb_57_0 pc) :=
  (x_Tok2
  (x_Tok2
  (x_Tok2
  (x_Lok (x_st (I := xI) (xr_iload_n (i := 1) (x_dk dl_57_0_ok 0 rfl))))
  (x_Lok (x_st (I := xI) (xr_iconst (n := 0) (z := 0) (v := 0) (x_dk dl_57_0_ok 1 rfl) (by decide) (by decide)))))
  (x_Tok2
  (x_Lok (x_st (I := xI) (xr_aload_n (i := 0) (x_dk dl_57_0_ok 2 rfl))))
  (x_Tok2
  (x_Lok (x_st (I := xI) (xr_getf (ci := 11) (k := 6) (ix := 46) (N := 15) (C := RX11) (T := TX11) rfl in_X11 (by decide) (in_t4 (List.mem_of_getElem? (i := 114) rfl) rfl) (x_dk dl_57_0_ok 3 rfl))))
  (x_Lok (x_st (I := xI) (xr_getf (ci := 9) (k := 1) (ix := 198) (N := 17) (C := RX9) (T := TX9) rfl in_X9 (by decide) (in_t3 (List.mem_of_getElem? (i := 140) rfl) rfl) (x_dk dl_57_0_ok 4 rfl)))))))
  (x_Tok2
  (x_Tok2
  (x_Lok (x_st (I := xI) (xr_iconst (n := 1) (z := 1) (v := 1) (x_dk dl_57_0_ok 5 rfl) (by decide) (by decide))))
  (x_Tok2
  (x_Lok (x_st (I := xI) (xr_isub (x_dk dl_57_0_ok 6 rfl))))
  (x_Lok (x_ca (I := xI) (q' := m_93) rfl (xr_callS (q' := m_93) (ix := 82) (n := 3) (in_t4 (List.mem_of_getElem? (i := 168) rfl) rfl) good_w (in_t1 (List.mem_of_getElem? (i := 1) rfl) rfl) (in_t4 (List.mem_of_getElem? (i := 166) rfl) rfl) (in_t4 (List.mem_of_getElem? (i := 167) rfl) rfl) (by decide +kernel) (by decide +kernel) (x_dk dl_57_0_ok 7 rfl))))))
  (x_Tok2
  (x_Lok (x_st (I := xI) (xr_ifeq (off := 14) (tg := 28) (x_dk dl_57_0_ok 8 rfl) (by decide))))
  (x_Tok2
  (x_Lok (x_st (I := xI) (xr_iconst (n := (-1)) (z := (-1)) (v := (-1)) (x_dk dl_57_0_ok 9 rfl) (by decide) (by decide))))
  (x_Lok (x_rt (I := xI) (k := 1) ⟨(x_dk dl_57_0_ok 10 rfl), rfl⟩))))))
def tb_57 : Nat → xE := tb_57_0
theorem tb_57_ok (K : xKx) (hK : x_KP K) : ∀ pc, x_EOq cls K xI m_57 pc (tb_57 pc) := tb_57_0_ok K hK
def dl_58_0 : List (Nat × Instr × Nat) := [(0, .iload_n 1, 1), (1, .iconst 0, 1), (2, .sipush 1000, 3), (5, .invokestatic 82, 3), (8, .ifCond .ne 5, 3), (11, .iconst (-1), 1), (12, .ireturn, 1), (13, .aload_n 0, 1), (14, .getfield 91, 3), (17, .ifCond .eq 6, 3), (23, .aload_n 0, 1), (24, .getfield 42, 3), (27, .getfield 204, 3), (30, .bipush 8, 2), (32, .if_icmp .lt 6, 3), (38, .aload_n 0, 1), (39, .getfield 42, 3), (42, .getfield 207, 3), (45, .aload_n 0, 1), (46, .getfield 42, 3), (49, .getfield 204, 3), (52, .iload_n 1, 1), (53, .iastore, 1), (54, .aload_n 0, 1), (55, .getfield 42, 3), (58, .dup, 1), (59, .getfield 204, 3), (62, .iconst 1, 1), (63, .iadd, 1), (64, .putfield 204, 3), (67, .aload_n 0, 1), (68, .getfield 42, 3), (71, .getfield 204, 3), (74, .iconst 1, 1), (75, .isub, 1), (76, .ireturn, 1)]
set_option maxRecDepth 20000 in
theorem dl_58_0_ok : dl_58_0.all (fun q => decide (decode prog_1_method_19_code q.1 = .ok (q.2.1, q.2.2))) = true := by decide +kernel
def tb_58_0 : Nat → xE := (x_T 42 (x_T 14 (x_T 5 (x_T 1 (x_T 0 (x_L 0 (0, xi_load 1 0 1, 0, 0)) (x_L 1 (0, xi_push (0, 0, 0) 2, 0, 0))) (x_T 2 (x_L 2 (0, xi_push (0, 1000, 1000) 5, 0, 0)) (x_L 5 (2, x_nof, 93, 3)))) (x_T 11 (x_T 8 (x_L 8 (0, xi_if1 1 13 11, 0, 0)) (x_L 11 (0, xi_push (0, (-1), (-1)) 12, 0, 0))) (x_T 12 (x_L 12 (1, x_nof, 1, 0)) (x_T 13 (x_L 13 (0, xi_load 0 2 14, 0, 0)) (x_L 14 (0, xi_getf 11 13 17, 0, 0)))))) (x_T 27 (x_T 23 (x_T 17 (x_L 17 (0, xi_if1 0 23 20, 0, 0)) (x_L 23 (0, xi_load 0 2 24, 0, 0))) (x_T 24 (x_L 24 (0, xi_getf 11 5 27, 0, 0)) (x_L 27 (0, xi_getf 2 2 30, 0, 0)))) (x_T 32 (x_T 30 (x_L 30 (0, xi_push (0, 8, 8) 32, 0, 0)) (x_L 32 (0, xi_if2 2 38 35, 0, 0))) (x_T 38 (x_L 38 (0, xi_load 0 2 39, 0, 0)) (x_T 39 (x_L 39 (0, xi_getf 11 5 42, 0, 0)) (x_L 42 (0, xi_getf 2 9 45, 0, 0))))))) (x_T 59 (x_T 52 (x_T 46 (x_T 45 (x_L 45 (0, xi_load 0 2 46, 0, 0)) (x_L 46 (0, xi_getf 11 5 49, 0, 0))) (x_T 49 (x_L 49 (0, xi_getf 2 2 52, 0, 0)) (x_L 52 (0, xi_load 1 0 53, 0, 0)))) (x_T 54 (x_T 53 (x_L 53 (0, xi_ast false 54, 0, 0)) (x_L 54 (0, xi_load 0 2 55, 0, 0))) (x_T 55 (x_L 55 (0, xi_getf 11 5 58, 0, 0)) (x_T 58 (x_L 58 (0, xi_stk xf_dup 59, 0, 0)) (x_L 59 (0, xi_getf 2 2 62, 0, 0)))))) (x_T 67 (x_T 63 (x_T 62 (x_L 62 (0, xi_push (0, 1, 1) 63, 0, 0)) (x_L 63 (0, xi_bin xF_add 64, 0, 0))) (x_T 64 (x_L 64 (0, xi_putf 2 2 0 67, 0, 0)) (x_L 67 (0, xi_load 0 2 68, 0, 0)))) (x_T 71 (x_T 68 (x_L 68 (0, xi_getf 11 5 71, 0, 0)) (x_L 71 (0, xi_getf 2 2 74, 0, 0))) (x_T 74 (x_L 74 (0, xi_push (0, 1, 1) 75, 0, 0)) (x_T 75 (x_L 75 (0, xi_bin xF_sub 76, 0, 0)) (x_L 76 (1, x_nof, 1, 0))))))))
set_option maxRecDepth 20000 in
set_option maxHeartbeats 4000000 in
theorem tb_58_0_ok (K : xKx) (hK : x_KP K) : ∀ pc, x_EOq cls K xI m_58 pc (tb_58_0 pc) :=
  (x_Tok2
  (x_Tok2
  (x_Tok2
  (x_Tok2
  (x_Tok2
  (x_Lok (x_st (I := xI) (xr_iload_n (i := 1) (x_dk dl_58_0_ok 0 rfl))))
  (x_Lok (x_st (I := xI) (xr_iconst (n := 0) (z := 0) (v := 0) (x_dk dl_58_0_ok 1 rfl) (by decide) (by decide)))))
  (x_Tok2
  (x_Lok (x_st (I := xI) (xr_sipush (n := 1000) (z := 1000) (v := 1000) (x_dk dl_58_0_ok 2 rfl) (by decide) (by decide))))
  (x_Lok (x_ca (I := xI) (q' := m_93) rfl (xr_callS (q' := m_93) (ix := 82) (n := 3) (in_t4 (List.mem_of_getElem? (i := 168) rfl) rfl) good_w (in_t1 (List.mem_of_getElem? (i := 1) rfl) rfl) (in_t4 (List.mem_of_getElem? (i := 166) rfl) rfl) (in_t4 (List.mem_of_getElem? (i := 167) rfl) rfl) (by decide +kernel) (by decide +kernel) (x_dk dl_58_0_ok 3 rfl))))))
  (x_Tok2
  (x_Tok2
  (x_Lok (x_st (I := xI) (xr_ifne (off := 5) (tg := 13) (x_dk dl_58_0_ok 4 rfl) (by decide))))
  (x_Lok (x_st (I := xI) (xr_iconst (n := (-1)) (z := (-1)) (v := (-1)) (x_dk dl_58_0_ok 5 rfl) (by decide) (by decide)))))
  (x_Tok2
  (x_Lok (x_rt (I := xI) (k := 1) ⟨(x_dk dl_58_0_ok 6 rfl), rfl⟩))
  (x_Tok2
  (x_Lok (x_st (I := xI) (xr_aload_n (i := 0) (x_dk dl_58_0_ok 7 rfl))))
  (x_Lok (x_st (I := xI) (xr_getf (ci := 11) (k := 13) (ix := 91) (N := 15) (C := RX11) (T := TX11) rfl in_X11 (by decide) (in_t4 (List.mem_of_getElem? (i := 121) rfl) rfl) (x_dk dl_58_0_ok 8 rfl))))))))
  (x_Tok2
  (x_Tok2
  (x_Tok2
  (x_Lok (x_st (I := xI) (xr_ifeq (off := 6) (tg := 23) (x_dk dl_58_0_ok 9 rfl) (by decide))))
  (x_Lok (x_st (I := xI) (xr_aload_n (i := 0) (x_dk dl_58_0_ok 10 rfl)))))
  (x_Tok2
  (x_Lok (x_st (I := xI) (xr_getf (ci := 11) (k := 5) (ix := 42) (N := 15) (C := RX11) (T := TX11) rfl in_X11 (by decide) (in_t4 (List.mem_of_getElem? (i := 113) rfl) rfl) (x_dk dl_58_0_ok 11 rfl))))
  (x_Lok (x_st (I := xI) (xr_getf (ci := 2) (k := 2) (ix := 204) (N := 15) (C := RX2) (T := TX2) rfl in_X2 (by decide) (in_t2 (List.mem_of_getElem? (i := 18) rfl) rfl) (x_dk dl_58_0_ok 12 rfl))))))
  (x_Tok2
  (x_Tok2
  (x_Lok (x_st (I := xI) (xr_bipush (n := 8) (z := 8) (v := 8) (x_dk dl_58_0_ok 13 rfl) (by decide) (by decide))))
  (x_Lok (x_st (I := xI) (xr_icmplt (off := 6) (tg := 38) (x_dk dl_58_0_ok 14 rfl) (by decide)))))
  (x_Tok2
  (x_Lok (x_st (I := xI) (xr_aload_n (i := 0) (x_dk dl_58_0_ok 15 rfl))))
  (x_Tok2
  (x_Lok (x_st (I := xI) (xr_getf (ci := 11) (k := 5) (ix := 42) (N := 15) (C := RX11) (T := TX11) rfl in_X11 (by decide) (in_t4 (List.mem_of_getElem? (i := 113) rfl) rfl) (x_dk dl_58_0_ok 16 rfl))))
  (x_Lok (x_st (I := xI) (xr_getf (ci := 2) (k := 9) (ix := 207) (N := 15) (C := RX2) (T := TX2) rfl in_X2 (by decide) (in_t2 (List.mem_of_getElem? (i := 34) rfl) rfl) (x_dk dl_58_0_ok 17 rfl)))))))))
  (x_Tok2
  (x_Tok2
  (x_Tok2
  (x_Tok2
  (x_Lok (x_st (I := xI) (xr_aload_n (i := 0) (x_dk dl_58_0_ok 18 rfl))))
  (x_Lok (x_st (I := xI) (xr_getf (ci := 11) (k := 5) (ix := 42) (N := 15) (C := RX11) (T := TX11) rfl in_X11 (by decide) (in_t4 (List.mem_of_getElem? (i := 113) rfl) rfl) (x_dk dl_58_0_ok 19 rfl)))))
  (x_Tok2
  (x_Lok (x_st (I := xI) (xr_getf (ci := 2) (k := 2) (ix := 204) (N := 15) (C := RX2) (T := TX2) rfl in_X2 (by decide) (in_t2 (List.mem_of_getElem? (i := 18) rfl) rfl) (x_dk dl_58_0_ok 20 rfl))))
  (x_Lok (x_st (I := xI) (xr_iload_n (i := 1) (x_dk dl_58_0_ok 21 rfl))))))
  (x_Tok2
  (x_Tok2
  (x_Lok (x_st (I := xI) (xr_iastore (x_dk dl_58_0_ok 22 rfl))))
  (x_Lok (x_st (I := xI) (xr_aload_n (i := 0) (x_dk dl_58_0_ok 23 rfl)))))
  (x_Tok2
  (x_Lok (x_st (I := xI) (xr_getf (ci := 11) (k := 5) (ix := 42) (N := 15) (C := RX11) (T := TX11) rfl in_X11 (by decide) (in_t4 (List.mem_of_getElem? (i := 113) rfl) rfl) (x_dk dl_58_0_ok 24 rfl))))
  (x_Tok2
  (x_Lok (x_st (I := xI) (xr_dup (x_dk dl_58_0_ok 25 rfl))))
  (x_Lok (x_st (I := xI) (xr_getf (ci := 2) (k := 2) (ix := 204) (N := 15) (C := RX2) (T := TX2) rfl in_X2 (by decide) (in_t2 (List.mem_of_getElem? (i := 18) rfl) rfl) (x_dk dl_58_0_ok 26 rfl))))))))
  (x_Tok2
  (x_Tok2
  (x_Tok2
  (x_Lok (x_st (I := xI) (xr_iconst (n := 1) (z := 1) (v := 1) (x_dk dl_58_0_ok 27 rfl) (by decide) (by decide))))
  (x_Lok (x_st (I := xI) (xr_iadd (x_dk dl_58_0_ok 28 rfl)))))
  (x_Tok2
  (x_Lok (x_st (I := xI) (xr_putf (ci := 2) (k := 2) (ix := 204) (N := 15) (fk := 0) (C := RX2) (T := TX2) (ty0 := tyX2) (ty := .int) rfl in_X2 tyX2_ok nmX2 (by decide) (in_t2 (List.mem_of_getElem? (i := 18) rfl) rfl) rfl rfl x_fit_int (x_dk dl_58_0_ok 29 rfl))))
  (x_Lok (x_st (I := xI) (xr_aload_n (i := 0) (x_dk dl_58_0_ok 30 rfl))))))
  (x_Tok2
  (x_Tok2
  (x_Lok (x_st (I := xI) (xr_getf (ci := 11) (k := 5) (ix := 42) (N := 15) (C := RX11) (T := TX11) rfl in_X11 (by decide) (in_t4 (List.mem_of_getElem? (i := 113) rfl) rfl) (x_dk dl_58_0_ok 31 rfl))))
  (x_Lok (x_st (I := xI) (xr_getf (ci := 2) (k := 2) (ix := 204) (N := 15) (C := RX2) (T := TX2) rfl in_X2 (by decide) (in_t2 (List.mem_of_getElem? (i := 18) rfl) rfl) (x_dk dl_58_0_ok 32 rfl)))))
  (x_Tok2
  (x_Lok (x_st (I := xI) (xr_iconst (n := 1) (z := 1) (v := 1) (x_dk dl_58_0_ok 33 rfl) (by decide) (by decide))))
  (x_Tok2
  (x_Lok (x_st (I := xI) (xr_isub (x_dk dl_58_0_ok 34 rfl))))
  (x_Lok (x_rt (I := xI) (k := 1) ⟨(x_dk dl_58_0_ok 35 rfl), rfl⟩))))))))
def tb_58 : Nat → xE := tb_58_0
theorem tb_58_ok (K : xKx) (hK : x_KP K) : ∀ pc, x_EOq cls K xI m_58 pc (tb_58 pc) := tb_58_0_ok K hK
def dl_59_0 : List (Nat × Instr × Nat) := [(0, .iload_n 1, 1), (1, .iconst 0, 1), (2, .bipush 7, 2), (4, .invokestatic 82, 3), (7, .ifCond .ne 5, 3), (10, .iconst (-1), 1), (11, .ireturn, 1), (12, .aload_n 0, 1), (13, .getfield 91, 3), (16, .ifCond .eq 6, 3), (22, .aload_n 0, 1), (23, .getfield 42, 3), (26, .getfield 210, 3), (29, .iload_n 1, 1), (30, .iload_n 2, 1), (31, .bastore, 1), (32, .iconst 0, 1), (33, .ireturn, 1)]
set_option maxRecDepth 20000 in
theorem dl_59_0_ok : dl_59_0.all (fun q => decide (decode prog_1_method_20_code q.1 = .ok (q.2.1, q.2.2))) = true := by decide +kernel
def tb_59_0 : Nat → xE := (x_T 13 (x_T 4 (x_T 1 (x_T 0 (x_L 0 (0, xi_load 1 0 1, 0, 0)) (x_L 1 (0, xi_push (0, 0, 0) 2, 0, 0))) (x_T 2 (x_L 2 (0, xi_push (0, 7, 7) 4, 0, 0)) (x_L 4 (2, x_nof, 93, 3)))) (x_T 10 (x_T 7 (x_L 7 (0, xi_if1 1 12 10, 0, 0)) (x_L 10 (0, xi_push (0, (-1), (-1)) 11, 0, 0))) (x_T 11 (x_L 11 (1, x_nof, 1, 0)) (x_T 12 (x_L 12 (0, xi_load 0 2 13, 0, 0)) (x_L 13 (0, xi_getf 11 13 16, 0, 0)))))) (x_T 26 (x_T 22 (x_T 16 (x_L 16 (0, xi_if1 0 22 19, 0, 0)) (x_L 22 (0, xi_load 0 2 23, 0, 0))) (x_T 23 (x_L 23 (0, xi_getf 11 5 26, 0, 0)) (x_L 26 (0, xi_getf 2 10 29, 0, 0)))) (x_T 30 (x_T 29 (x_L 29 (0, xi_load 1 0 30, 0, 0)) (x_L 30 (0, xi_load 2 0 31, 0, 0))) (x_T 31 (x_L 31 (0, xi_ast true 32, 0, 0)) (x_T 32 (x_L 32 (0, xi_push (0, 0, 0) 33, 0, 0)) (x_L 33 (1, x_nof, 1, 0)))))))
set_option maxRecDepth 20000 in
set_option maxHeartbeats 4000000 in
theorem tb_59_0_ok (K : xKx) (hK : x_KP K) : ∀ pc, x_EOq cls K xI m_59 pc (tb_59_0 pc) :=
  (x_Tok2
  (x_Tok2
  (x_Tok2
  (x_Tok2
  (x_Lok (x_st (I := xI) (xr_iload_n (i := 1) (x_dk dl_59_0_ok 0 rfl))))
  (x_Lok (x_st (I := xI) (xr_iconst (n := 0) (z := 0) (v := 0) (x_dk dl_59_0_ok 1 rfl) (by decide) (by decide)))))
  (x_Tok2
  (x_Lok (x_st (I := xI) (xr_bipush (n := 7) (z := 7) (v := 7) (x_dk dl_59_0_ok 2 rfl) (by decide) (by decide))))
  (x_Lok (x_ca (I := xI) (q' := m_93) rfl (xr_callS (q' := m_93) (ix := 82) (n := 3) (in_t4 (List.mem_of_getElem? (i := 168) rfl) rfl) good_w (in_t1 (List.mem_of_getElem? (i := 1) rfl) rfl) (in_t4 (List.mem_of_getElem? (i := 166) rfl) rfl) (in_t4 (List.mem_of_getElem? (i := 167) rfl) rfl) (by decide +kernel) (by decide +kernel) (x_dk dl_59_0_ok 3 rfl))))))
  (x_Tok2
  (x_Tok2
  (x_Lok (x_st (I := xI) (xr_ifne (off := 5) (tg := 12) (x_dk dl_59_0_ok 4 rfl) (by decide))))
  (x_Lok (x_st (I := xI) (xr_iconst (n := (-1)) (z := (-1)) (v := (-1)) (x_dk dl_59_0_ok 5 rfl) (by decide) (by decide)))))
  (x_Tok2
  (x_Lok (x_rt (I := xI) (k := 1) ⟨(x_dk dl_59_0_ok 6 rfl), rfl⟩))
  (x_Tok2
  (x_Lok (x_st (I := xI) (xr_aload_n (i := 0) (x_dk dl_59_0_ok 7 rfl))))
  (x_Lok (x_st (I := xI) (xr_getf (ci := 11) (k := 13) (ix := 91) (N := 15) (C := RX11) (T := TX11) rfl in_X11 (by decide) (in_t4 (List.mem_of_getElem? (i := 121) rfl) rfl) (x_dk dl_59_0_ok 8 rfl))))))))
  (x_Tok2
  (x_Tok2
  (x_Tok2
  (x_Lok (x_st (I := xI) (xr_ifeq (off := 6) (tg := 22) (x_dk dl_59_0_ok 9 rfl) (by decide))))
  (x_Lok (x_st (I := xI) (xr_aload_n (i := 0) (x_dk dl_59_0_ok 10 rfl)))))
  (x_Tok2
  (x_Lok (x_st (I := xI) (xr_getf (ci := 11) (k := 5) (ix := 42) (N := 15) (C := RX11) (T := TX11) rfl in_X11 (by decide) (in_t4 (List.mem_of_getElem? (i := 113) rfl) rfl) (x_dk dl_59_0_ok 11 rfl))))
  (x_Lok (x_st (I := xI) (xr_getf (ci := 2) (k := 10) (ix := 210) (N := 15) (C := RX2) (T := TX2) rfl in_X2 (by decide) (in_t2 (List.mem_of_getElem? (i := 36) rfl) rfl) (x_dk dl_59_0_ok 12 rfl))))))
  (x_Tok2
  (x_Tok2
  (x_Lok (x_st (I := xI) (xr_iload_n (i := 1) (x_dk dl_59_0_ok 13 rfl))))
  (x_Lok (x_st (I := xI) (xr_iload_n (i := 2) (x_dk dl_59_0_ok 14 rfl)))))
  (x_Tok2
  (x_Lok (x_st (I := xI) (xr_bastore (x_dk dl_59_0_ok 15 rfl))))
  (x_Tok2
  (x_Lok (x_st (I := xI) (xr_iconst (n := 0) (z := 0) (v := 0) (x_dk dl_59_0_ok 16 rfl) (by decide) (by decide))))
  (x_Lok (x_rt (I := xI) (k := 1) ⟨(x_dk dl_59_0_ok 17 rfl), rfl⟩)))))))
def tb_59 : Nat → xE := tb_59_0
theorem tb_59_ok (K : xKx) (hK : x_KP K) : ∀ pc, x_EOq cls K xI m_59 pc (tb_59 pc) := tb_59_0_ok K hK
def dl_61_0 : List (Nat × Instr × Nat) := [(0, .aload_n 0, 1), (1, .iload_n 1, 1), (2, .invokevirtual 103, 3), (5, .ifCond .ne 5, 3), (8, .iconst (-1), 1), (9, .ireturn, 1)]
set_option maxRecDepth 20000 in
theorem dl_61_0_ok : dl_61_0.all (fun q => decide (decode prog_1_method_22_code q.1 = .ok (q.2.1, q.2.2))) = true := by decide +kernel
def tb_61_0 : Nat → xE := (x_T 2 (x_T 0 (x_L 0 (0, xi_load 0 2 1, 0, 0)) (x_T 1 (x_L 1 (0, xi_load 1 0 2, 0, 0)) (x_L 2 (2, x_nof, 97, 2)))) (x_T 5 (x_L 5 (0, xi_if1 1 10 8, 0, 0)) (x_T 8 (x_L 8 (0, xi_push (0, (-1), (-1)) 9, 0, 0)) (x_L 9 (1, x_nof, 1, 0)))))
set_option maxRecDepth 20000 in
set_option maxHeartbeats 4000000 in
theorem tb_61_0_ok (K : xKx) (hK : x_KP K) : ∀ pc, x_EOq cls K xI m_61 pc (tb_61_0 pc) :=
  (x_Tok2
  (x_Tok2
  (x_Lok (x_st (I := xI) (xr_aload_n (i := 0) (x_dk dl_61_0_ok 0 rfl))))
  (x_Tok2
  (x_Lok (x_st (I := xI) (xr_iload_n (i := 1) (x_dk dl_61_0_ok 1 rfl))))
  (x_Lok (x_ca (I := xI) (q' := m_97) rfl (xr_callV (q' := m_97) (ix := 103) (n := 1) (in_t4 (List.mem_of_getElem? (i := 184) rfl) rfl) good_w (in_t1 (List.mem_of_getElem? (i := 1) rfl) rfl) (in_t4 (List.mem_of_getElem? (i := 181) rfl) rfl) (in_t4 (List.mem_of_getElem? (i := 183) rfl) rfl) (in_s1 (List.mem_of_getElem? (i := 8) rfl)) (by decide +kernel) (by decide +kernel) (by decide +kernel) (x_dk dl_61_0_ok 2 rfl))))))
  (x_Tok2
  (x_Lok (x_st (I := xI) (xr_ifne (off := 5) (tg := 10) (x_dk dl_61_0_ok 3 rfl) (by decide))))
  (x_Tok2
  (x_Lok (x_st (I := xI) (xr_iconst (n := (-1)) (z := (-1)) (v := (-1)) (x_dk dl_61_0_ok 4 rfl) (by decide) (by decide))))
  (x_Lok (x_rt (I := xI) (k := 1) ⟨(x_dk dl_61_0_ok 5 rfl), rfl⟩)))))
def tb_61 : Nat → xE := tb_61_0
theorem tb_61_ok (K : xKx) (hK : x_KP K) : ∀ pc, x_EOq cls K xI m_61 pc (tb_61 pc) := tb_61_0_ok K hK
end
