noncomputable section
def dl_131_0 : List (Nat × Instr × Nat) := [(0, .iload_n 1, 1), (1, .i2l, 1), (2, .lconst 0, 1), (3, .ldc2_w 367, 3), (6, .invokestatic 301, 3), (9, .ifCond .ne 5, 3), (12, .iconst (-1), 1), (13, .ireturn, 1), (14, .aload_n 0, 1), (15, .getfield 265, 3), (18, .ifCond .eq 6, 3), (24, .aload_n 0, 1), (25, .getfield 137, 3), (28, .iload_n 1, 1), (29, .iload_n 2, 1), (30, .bastore, 1), (31, .iconst 0, 1), (32, .ireturn, 1)]
set_option maxRecDepth 20000 in
theorem dl_131_0_ok : dl_131_0.all (fun q => decide (decode prog_14_method_30_code q.1 = .ok (q.2.1, q.2.2))) = true := by decide +kernel
def tb_131_0 : Nat → xE := (x_T 14 (x_T 3 (x_T 1 (x_T 0 (x_L 0 (0, xi_load 1 0 1, 0, 0)) (x_L 1 (0, xi_i2l 2, 0, 0))) (x_T 2 (x_L 2 (0, xi_push (4, 0, 0) 3, 0, 0)) (x_L 3 (0, xi_push (4, 7, 7) 6, 0, 0)))) (x_T 9 (x_T 6 (x_L 6 (2, x_nof, 103, 3)) (x_L 9 (0, xi_if1 1 14 12, 0, 0))) (x_T 12 (x_L 12 (0, xi_push (0, (-1), (-1)) 13, 0, 0)) (x_T 13 (x_L 13 (1, x_nof, 1, 0)) (x_L 14 (0, xi_load 0 2 15, 0, 0)))))) (x_T 25 (x_T 18 (x_T 15 (x_L 15 (0, xi_getf 12 3 18, 0, 0)) (x_L 18 (0, xi_if1 0 24 21, 0, 0))) (x_T 24 (x_L 24 (0, xi_load 0 2 25, 0, 0)) (x_L 25 (0, xi_getf 12 51 28, 0, 0)))) (x_T 29 (x_T 28 (x_L 28 (0, xi_load 1 0 29, 0, 0)) (x_L 29 (0, xi_load 2 0 30, 0, 0))) (x_T 30 (x_L 30 (0, xi_ast true 31, 0, 0)) (x_T 31 (x_L 31 (0, xi_push (0, 0, 0) 32, 0, 0)) (x_L 32 (1, x_nof, 1, 0)))))))
set_option maxRecDepth 20000 in
set_option maxHeartbeats 4000000 in
theorem tb_131_0_ok (K : xKx) (hK : x_KP K) : ∀ pc, x_EOq cls K xI m_131 pc (tb_131_0 pc) :=
  (x_Tok2
  (x_Tok2
  (x_Tok2
  (x_Tok2
  (x_Lok (x_st (I := xI) (xr_iload_n (i := 1) (x_dk dl_131_0_ok 0 rfl))))
  (x_Lok (x_st (I := xI) (xr_i2l (x_dk dl_131_0_ok 1 rfl)))))
  (x_Tok2
  (x_Lok (x_st (I := xI) (xr_lconst (n := 0) (z := 0) (v := 0) (x_dk dl_131_0_ok 2 rfl) (by decide) (by decide))))
  (x_Lok (x_st (I := xI) (xr_ldc2 (ix := 367) (z := 7) (v := 7) (x_dk dl_131_0_ok 3 rfl) (in_t11 (List.mem_of_getElem? (i := 120) rfl) rfl) (by decide))))))
  (x_Tok2
  (x_Tok2
  (x_Lok (x_ca (I := xI) (q' := m_103) rfl (xr_callS (q' := m_103) (ix := 301) (n := 3) (in_t11 (List.mem_of_getElem? (i := 7) rfl) rfl) good_w (in_t1 (List.mem_of_getElem? (i := 14) rfl) rfl) (in_t11 (List.mem_of_getElem? (i := 5) rfl) rfl) (in_t11 (List.mem_of_getElem? (i := 6) rfl) rfl) (by decide +kernel) (by decide +kernel) (x_dk dl_131_0_ok 4 rfl))))
  (x_Lok (x_st (I := xI) (xr_ifne (off := 5) (tg := 14) (x_dk dl_131_0_ok 5 rfl) (by decide)))))
  (x_Tok2
  (x_Lok (x_st (I := xI) (xr_iconst (n := (-1)) (z := (-1)) (v := (-1)) (x_dk dl_131_0_ok 6 rfl) (by decide) (by decide))))
  (x_Tok2
  (x_Lok (x_rt (I := xI) (k := 1) ⟨(x_dk dl_131_0_ok 7 rfl), rfl⟩))
  (x_Lok (x_st (I := xI) (xr_aload_n (i := 0) (x_dk dl_131_0_ok 8 rfl))))))))
  (x_Tok2
  (x_Tok2
  (x_Tok2
  (x_Lok (x_st (I := xI) (xr_getf (ci := 12) (k := 3) (ix := 265) (N := 119) (C := RX12) (T := TX12) rfl in_X12 (by decide) (in_t9 (List.mem_of_getElem? (i := 118) rfl) rfl) (x_dk dl_131_0_ok 9 rfl))))
  (x_Lok (x_st (I := xI) (xr_ifeq (off := 6) (tg := 24) (x_dk dl_131_0_ok 10 rfl) (by decide)))))
  (x_Tok2
  (x_Lok (x_st (I := xI) (xr_aload_n (i := 0) (x_dk dl_131_0_ok 11 rfl))))
  (x_Lok (x_st (I := xI) (xr_getf (ci := 12) (k := 51) (ix := 137) (N := 119) (C := RX12) (T := TX12) rfl in_X12 (by decide) (in_t9 (List.mem_of_getElem? (i := 166) rfl) rfl) (x_dk dl_131_0_ok 12 rfl))))))
  (x_Tok2
  (x_Tok2
  (x_Lok (x_st (I := xI) (xr_iload_n (i := 1) (x_dk dl_131_0_ok 13 rfl))))
  (x_Lok (x_st (I := xI) (xr_iload_n (i := 2) (x_dk dl_131_0_ok 14 rfl)))))
  (x_Tok2
  (x_Lok (x_st (I := xI) (xr_bastore (x_dk dl_131_0_ok 15 rfl))))
  (x_Tok2
  (x_Lok (x_st (I := xI) (xr_iconst (n := 0) (z := 0) (v := 0) (x_dk dl_131_0_ok 16 rfl) (by decide) (by decide))))
  (x_Lok (x_rt (I := xI) (k := 1) ⟨(x_dk dl_131_0_ok 17 rfl), rfl⟩)))))))
def tb_131 : Nat → xE := tb_131_0
theorem tb_131_ok (K : xKx) (hK : x_KP K) : ∀ pc, x_EOq cls K xI m_131 pc (tb_131 pc) := tb_131_0_ok K hK
def dl_133_0 : List (Nat × Instr × Nat) := [(0, .aload_n 0, 1), (1, .getfield 265, 3), (4, .ifCond .eq 6, 3), (10, .aload_n 0, 1), (11, .iconst 1, 1), (12, .putfield 265, 3), (15, .aload_n 0, 1), (16, .iconst 0, 1), (17, .putfield 288, 3), (20, .aload_n 0, 1), (21, .invokevirtual 369, 3), (24, .iconst 0, 1), (25, .istore_n 1, 1), (26, .iload_n 1, 1), (27, .ldc 7, 2), (29, .if_icmp .ge 21, 3), (32, .aload_n 0, 1), (33, .getfield 14, 3), (36, .iload_n 1, 1), (37, .aload_n 0, 1), (38, .getfield 8, 3), (41, .iload_n 1, 1), (42, .iaload, 1), (43, .iastore, 1), (44, .iinc 1 1, 3), (47, .goto (-21), 3), (50, .aload_n 0, 1), (51, .getfield 269, 3), (54, .ireturn, 1)]
set_option maxRecDepth 20000 in
theorem dl_133_0_ok : dl_133_0.all (fun q => decide (decode prog_14_method_32_code q.1 = .ok (q.2.1, q.2.2))) = true := by decide +kernel
def tb_133_0 : Nat → xE := (x_T 26 (x_T 15 (x_T 4 (x_T 0 (x_L 0 (0, xi_load 0 2 1, 0, 0)) (x_T 1 (x_L 1 (0, xi_getf 12 3 4, 0, 0)) (x_L 4 (0, xi_if1 0 10 7, 0, 0)))) (x_T 11 (x_T 10 (x_L 10 (0, xi_load 0 2 11, 0, 0)) (x_L 11 (0, xi_push (0, 1, 1) 12, 0, 0))) (x_T 12 (x_L 12 (0, xi_putf 12 3 1 15, 0, 0)) (x_L 15 (0, xi_load 0 2 16, 0, 0))))) (x_T 20 (x_T 16 (x_L 16 (0, xi_push (0, 0, 0) 17, 0, 0)) (x_T 17 (x_L 17 (0, xi_putf 12 5 0 20, 0, 0)) (x_L 20 (0, xi_load 0 2 21, 0, 0)))) (x_T 24 (x_T 21 (x_L 21 (2, x_nof, 138, 1)) (x_L 24 (0, xi_push (0, 0, 0) 25, 0, 0))) (x_T 25 (x_L 25 (0, xi_stor 1 0 26, 0, 0)) (x_L 26 (3, xi_load 1 0 27, 2, 0)))))) (x_T 38 (x_T 32 (x_T 27 (x_L 27 (0, xi_push (0, 33060, 33060) 29, 0, 0)) (x_T 29 (x_L 29 (0, xi_if2 3 50 32, 0, 0)) (x_L 32 (0, xi_load 0 2 33, 0, 0)))) (x_T 36 (x_T 33 (x_L 33 (0, xi_getf 12 1 36, 0, 0)) (x_L 36 (0, xi_load 1 0 37, 0, 0))) (x_T 37 (x_L 37 (0, xi_load 0 2 38, 0, 0)) (x_L 38 (0, xi_getf 12 0 41, 0, 0))))) (x_T 44 (x_T 42 (x_T 41 (x_L 41 (0, xi_load 1 0 42, 0, 0)) (x_L 42 (0, xi_aldH false 43, 0, 0))) (x_T 43 (x_L 43 (0, xi_ast false 44, 0, 0)) (x_L 44 (0, xi_incT 1 47, 0, 0)))) (x_T 50 (x_T 47 (x_L 47 (0, xi_goto 26, 0, 0)) (x_L 50 (0, xi_load 0 2 51, 0, 0))) (x_T 51 (x_L 51 (0, xi_getf 12 10 54, 0, 0)) (x_L 54 (1, x_nof, 1, 0)))))))
set_option maxRecDepth 20000 in
set_option maxHeartbeats 4000000 in
theorem tb_133_0_ok (K : xKx) (hK : x_KP K) : ∀ pc, x_EOq cls K xI m_133 pc (tb_133_0 pc) :=
  (x_Tok2
  (x_Tok2
  (x_Tok2
  (x_Tok2
  (x_Lok (x_st (I := xI) (xr_aload_n (i := 0) (x_dk dl_133_0_ok 0 rfl))))
  (x_Tok2
  (x_Lok (x_st (I := xI) (xr_getf (ci := 12) (k := 3) (ix := 265) (N := 119) (C := RX12) (T := TX12) rfl in_X12 (by decide) (in_t9 (List.mem_of_getElem? (i := 118) rfl) rfl) (x_dk dl_133_0_ok 1 rfl))))
  (x_Lok (x_st (I := xI) (xr_ifeq (off := 6) (tg := 10) (x_dk dl_133_0_ok 2 rfl) (by decide))))))
  (x_Tok2
  (x_Tok2
  (x_Lok (x_st (I := xI) (xr_aload_n (i := 0) (x_dk dl_133_0_ok 3 rfl))))
  (x_Lok (x_st (I := xI) (xr_iconst (n := 1) (z := 1) (v := 1) (x_dk dl_133_0_ok 4 rfl) (by decide) (by decide)))))
  (x_Tok2
  (x_Lok (x_st (I := xI) (xr_putf (ci := 12) (k := 3) (ix := 265) (N := 119) (fk := 1) (C := RX12) (T := TX12) (ty0 := tyX12) (ty := .boolean) rfl in_X12 tyX12_ok nmX12 (by decide) (in_t9 (List.mem_of_getElem? (i := 118) rfl) rfl) rfl rfl x_fit_bool (x_dk dl_133_0_ok 5 rfl))))
  (x_Lok (x_st (I := xI) (xr_aload_n (i := 0) (x_dk dl_133_0_ok 6 rfl)))))))
  (x_Tok2
  (x_Tok2
  (x_Lok (x_st (I := xI) (xr_iconst (n := 0) (z := 0) (v := 0) (x_dk dl_133_0_ok 7 rfl) (by decide) (by decide))))
  (x_Tok2
  (x_Lok (x_st (I := xI) (xr_putf (ci := 12) (k := 5) (ix := 288) (N := 119) (fk := 0) (C := RX12) (T := TX12) (ty0 := tyX12) (ty := .int) rfl in_X12 tyX12_ok nmX12 (by decide) (in_t9 (List.mem_of_getElem? (i := 120) rfl) rfl) rfl rfl x_fit_int (x_dk dl_133_0_ok 8 rfl))))
  (x_Lok (x_st (I := xI) (xr_aload_n (i := 0) (x_dk dl_133_0_ok 9 rfl))))))
  (x_Tok2
  (x_Tok2
  (x_Lok (x_ca (I := xI) (q' := m_138) rfl (xr_callV (q' := m_138) (ix := 369) (n := 0) (in_t11 (List.mem_of_getElem? (i := 132) rfl) rfl) good_w (in_t1 (List.mem_of_getElem? (i := 14) rfl) rfl) (in_t11 (List.mem_of_getElem? (i := 129) rfl) rfl) (in_t11 (List.mem_of_getElem? (i := 131) rfl) rfl) (in_s8 (List.mem_of_getElem? (i := 7) rfl)) (by decide +kernel) (by decide +kernel) (by decide +kernel) (x_dk dl_133_0_ok 10 rfl))))
  (x_Lok (x_st (I := xI) (xr_iconst (n := 0) (z := 0) (v := 0) (x_dk dl_133_0_ok 11 rfl) (by decide) (by decide)))))
  (x_Tok2
  (x_Lok (x_st (I := xI) (xr_istore_n (i := 1) (x_dk dl_133_0_ok 12 rfl) (by decide +kernel))))
  (x_Lok (x_lo (I := xI) (L := 2) (xr_iload_n (i := 1) (x_dk dl_133_0_ok 13 rfl))))))))
  (x_Tok2
  (x_Tok2
  (x_Tok2
  (x_Lok (x_st (I := xI) (xr_ldc (ix := 7) (z := 33060) (v := 33060) (x_dk dl_133_0_ok 14 rfl) (in_t9 (List.mem_of_getElem? (i := 86) rfl) rfl) (by decide))))
  (x_Tok2
  (x_Lok (x_st (I := xI) (xr_icmpge (off := 21) (tg := 50) (x_dk dl_133_0_ok 15 rfl) (by decide))))
  (x_Lok (x_st (I := xI) (xr_aload_n (i := 0) (x_dk dl_133_0_ok 16 rfl))))))
  (x_Tok2
  (x_Tok2
  (x_Lok (x_st (I := xI) (xr_getf (ci := 12) (k := 1) (ix := 14) (N := 119) (C := RX12) (T := TX12) rfl in_X12 (by decide) (in_t9 (List.mem_of_getElem? (i := 116) rfl) rfl) (x_dk dl_133_0_ok 17 rfl))))
  (x_Lok (x_st (I := xI) (xr_iload_n (i := 1) (x_dk dl_133_0_ok 18 rfl)))))
  (x_Tok2
  (x_Lok (x_st (I := xI) (xr_aload_n (i := 0) (x_dk dl_133_0_ok 19 rfl))))
  (x_Lok (x_st (I := xI) (xr_getf (ci := 12) (k := 0) (ix := 8) (N := 119) (C := RX12) (T := TX12) rfl in_X12 (by decide) (in_t9 (List.mem_of_getElem? (i := 115) rfl) rfl) (x_dk dl_133_0_ok 20 rfl)))))))
  (x_Tok2
  (x_Tok2
  (x_Tok2
  (x_Lok (x_st (I := xI) (xr_iload_n (i := 1) (x_dk dl_133_0_ok 21 rfl))))
  (x_Lok (x_st (I := xI) (xr_ialdH (x_dk dl_133_0_ok 22 rfl)))))
  (x_Tok2
  (x_Lok (x_st (I := xI) (xr_iastore (x_dk dl_133_0_ok 23 rfl))))
  (x_Lok (x_st (I := xI) (xr_iincT (i := 1) (x_hev hK) (x_dk dl_133_0_ok 24 rfl) (by decide +kernel))))))
  (x_Tok2
  (x_Tok2
  (x_Lok (x_st (I := xI) (xr_goto (off := (-21)) (tg := 26) (x_dk dl_133_0_ok 25 rfl) (by decide))))
  (x_Lok (x_st (I := xI) (xr_aload_n (i := 0) (x_dk dl_133_0_ok 26 rfl)))))
  (x_Tok2
  (x_Lok (x_st (I := xI) (xr_getf (ci := 12) (k := 10) (ix := 269) (N := 119) (C := RX12) (T := TX12) rfl in_X12 (by decide) (in_t9 (List.mem_of_getElem? (i := 125) rfl) rfl) (x_dk dl_133_0_ok 27 rfl))))
  (x_Lok (x_rt (I := xI) (k := 1) ⟨(x_dk dl_133_0_ok 28 rfl), rfl⟩)))))))
def tb_133 : Nat → xE := tb_133_0
theorem tb_133_ok (K : xKx) (hK : x_KP K) : ∀ pc, x_EOq cls K xI m_133 pc (tb_133 pc) := tb_133_0_ok K hK
def dl_134_0 : List (Nat × Instr × Nat) := [(0, .lload_n 0, 1), (1, .bipush 30, 2), (3, .lshr, 1), (4, .lstore 4, 2), (6, .lload_n 0, 1), (7, .ldc2_w 372, 3), (10, .land, 1), (11, .lstore 6, 2), (13, .lload_n 2, 1), (14, .bipush 30, 2), (16, .lshr, 1), (17, .lstore 8, 2), (19, .lload_n 2, 1), (20, .ldc2_w 372, 3), (23, .land, 1), (24, .lstore 10, 2), (26, .lload 4, 2), (28, .lload 8, 2), (30, .lmul, 1), (31, .lload 4, 2), (33, .lload 10, 2), (35, .lmul, 1), (36, .lload 6, 2), (38, .lload 8, 2), (40, .lmul, 1), (41, .ladd, 1), (42, .lload 6, 2), (44, .lload 10, 2), (46, .lmul, 1), (47, .bipush 30, 2), (49, .lshr, 1), (50, .ladd, 1), (51, .bipush 30, 2), (53, .lshr, 1), (54, .ladd, 1), (55, .lreturn, 1)]
set_option maxRecDepth 20000 in
theorem dl_134_0_ok : dl_134_0.all (fun q => decide (decode prog_14_method_33_code q.1 = .ok (q.2.1, q.2.2))) = true := by decide +kernel
def tb_134_0 : Nat → xE := (x_T 28 (x_T 13 (x_T 4 (x_T 1 (x_T 0 (x_L 0 (0, xi_load 0 1 1, 0, 0)) (x_L 1 (0, xi_push (0, 30, 30) 3, 0, 0))) (x_T 3 (x_L 3 (0, xi_shL xF_shrL 4, 0, 0)) (x_L 4 (0, xi_stor 4 1 6, 0, 0)))) (x_T 7 (x_T 6 (x_L 6 (0, xi_load 0 1 7, 0, 0)) (x_L 7 (0, xi_push (4, 1073741823, 1073741823) 10, 0, 0))) (x_T 10 (x_L 10 (0, xi_binL xF_andL 11, 0, 0)) (x_T 11 (x_L 11 (0, xi_stor 6 1 13, 0, 0)) (x_L 13 (0, xi_load 2 1 14, 0, 0)))))) (x_T 19 (x_T 16 (x_T 14 (x_L 14 (0, xi_push (0, 30, 30) 16, 0, 0)) (x_L 16 (0, xi_shL xF_shrL 17, 0, 0))) (x_T 17 (x_L 17 (0, xi_stor 8 1 19, 0, 0)) (x_L 19 (0, xi_load 2 1 20, 0, 0)))) (x_T 23 (x_T 20 (x_L 20 (0, xi_push (4, 1073741823, 1073741823) 23, 0, 0)) (x_L 23 (0, xi_binL xF_andL 24, 0, 0))) (x_T 24 (x_L 24 (0, xi_stor 10 1 26, 0, 0)) (x_T 26 (x_L 26 (0, xi_load 4 1 28, 0, 0)) (x_L 28 (0, xi_load 8 1 30, 0, 0))))))) (x_T 42 (x_T 35 (x_T 31 (x_T 30 (x_L 30 (0, xi_binL xF_mulL 31, 0, 0)) (x_L 31 (0, xi_load 4 1 33, 0, 0))) (x_T 33 (x_L 33 (0, xi_load 10 1 35, 0, 0)) (x_L 35 (0, xi_binL xF_mulL 36, 0, 0)))) (x_T 38 (x_T 36 (x_L 36 (0, xi_load 6 1 38, 0, 0)) (x_L 38 (0, xi_load 8 1 40, 0, 0))) (x_T 40 (x_L 40 (0, xi_binL xF_mulL 41, 0, 0)) (x_T 41 (x_L 41 (0, xi_binL xF_addL 42, 0, 0)) (x_L 42 (0, xi_load 6 1 44, 0, 0)))))) (x_T 49 (x_T 46 (x_T 44 (x_L 44 (0, xi_load 10 1 46, 0, 0)) (x_L 46 (0, xi_binL xF_mulL 47, 0, 0))) (x_T 47 (x_L 47 (0, xi_push (0, 30, 30) 49, 0, 0)) (x_L 49 (0, xi_shL xF_shrL 50, 0, 0)))) (x_T 51 (x_T 50 (x_L 50 (0, xi_binL xF_addL 51, 0, 0)) (x_L 51 (0, xi_push (0, 30, 30) 53, 0, 0))) (x_T 53 (x_L 53 (0, xi_shL xF_shrL 54, 0, 0)) (x_T 54 (x_L 54 (0, xi_binL xF_addL 55, 0, 0)) (x_L 55 (1, x_nof, 2, 0))))))))
set_option maxRecDepth 20000 in
set_option maxHeartbeats 4000000 in
theorem tb_134_0_ok (K : xKx) (hK : x_KP K) : ∀ pc, x_EOq cls K xI m_134 pc (tb_134_0 pc) :=
  (x_Tok2
  (x_Tok2
  (x_Tok2
  (x_Tok2
  (x_Tok2
  (x_Lok (x_st (I := xI) (xr_lload_n (i := 0) (x_dk dl_134_0_ok 0 rfl))))
  (x_Lok (x_st (I := xI) (xr_bipush (n := 30) (z := 30) (v := 30) (x_dk dl_134_0_ok 1 rfl) (by decide) (by decide)))))
  (x_Tok2
  (x_Lok (x_st (I := xI) (xr_lshr (x_dk dl_134_0_ok 2 rfl))))
  (x_Lok (x_st (I := xI) (xr_lstore (i := 4) (x_dk dl_134_0_ok 3 rfl) (by decide +kernel))))))
  (x_Tok2
  (x_Tok2
  (x_Lok (x_st (I := xI) (xr_lload_n (i := 0) (x_dk dl_134_0_ok 4 rfl))))
  (x_Lok (x_st (I := xI) (xr_ldc2 (ix := 372) (z := 1073741823) (v := 1073741823) (x_dk dl_134_0_ok 5 rfl) (in_t9 (List.mem_of_getElem? (i := 102) rfl) rfl) (by decide)))))
  (x_Tok2
  (x_Lok (x_st (I := xI) (xr_land (x_dk dl_134_0_ok 6 rfl))))
  (x_Tok2
  (x_Lok (x_st (I := xI) (xr_lstore (i := 6) (x_dk dl_134_0_ok 7 rfl) (by decide +kernel))))
  (x_Lok (x_st (I := xI) (xr_lload_n (i := 2) (x_dk dl_134_0_ok 8 rfl))))))))
  (x_Tok2
  (x_Tok2
  (x_Tok2
  (x_Lok (x_st (I := xI) (xr_bipush (n := 30) (z := 30) (v := 30) (x_dk dl_134_0_ok 9 rfl) (by decide) (by decide))))
  (x_Lok (x_st (I := xI) (xr_lshr (x_dk dl_134_0_ok 10 rfl)))))
  (x_Tok2
  (x_Lok (x_st (I := xI) (xr_lstore (i := 8) (x_dk dl_134_0_ok 11 rfl) (by decide +kernel))))
  (x_Lok (x_st (I := xI) (xr_lload_n (i := 2) (x_dk dl_134_0_ok 12 rfl))))))
  (x_Tok2
  (x_Tok2
  (x_Lok (x_st (I := xI) (xr_ldc2 (ix := 372) (z := 1073741823) (v := 1073741823) (x_dk dl_134_0_ok 13 rfl) (in_t9 (List.mem_of_getElem? (i := 102) rfl) rfl) (by decide))))
  (x_Lok (x_st (I := xI) (xr_land (x_dk dl_134_0_ok 14 rfl)))))
  (x_Tok2
  (x_Lok (x_st (I := xI) (xr_lstore (i := 10) (x_dk dl_134_0_ok 15 rfl) (by decide +kernel))))
  (x_Tok2
  (x_Lok (x_st (I := xI) (xr_lload (i := 4) (x_dk dl_134_0_ok 16 rfl))))
  (x_Lok (x_st (I := xI) (xr_lload (i := 8) (x_dk dl_134_0_ok 17 rfl)))))))))
  (x_Tok2
  (x_Tok2
  (x_Tok2
  (x_Tok2
  (x_Lok (x_st (I := xI) (xr_lmul (x_dk dl_134_0_ok 18 rfl))))
  (x_Lok (x_st (I := xI) (xr_lload (i := 4) (x_dk dl_134_0_ok 19 rfl)))))
  (x_Tok2
  (x_Lok (x_st (I := xI) (xr_lload (i := 10) (x_dk dl_134_0_ok 20 rfl))))
  (x_Lok (x_st (I := xI) (xr_lmul (x_dk dl_134_0_ok 21 rfl))))))
  (x_Tok2
  (x_Tok2
  (x_Lok (x_st (I := xI) (xr_lload (i := 6) (x_dk dl_134_0_ok 22 rfl))))
  (x_Lok (x_st (I := xI) (xr_lload (i := 8) (x_dk dl_134_0_ok 23 rfl)))))
  (x_Tok2
  (x_Lok (x_st (I := xI) (xr_lmul (x_dk dl_134_0_ok 24 rfl))))
  (x_Tok2
  (x_Lok (x_st (I := xI) (xr_ladd (x_dk dl_134_0_ok 25 rfl))))
  (x_Lok (x_st (I := xI) (xr_lload (i := 6) (x_dk dl_134_0_ok 26 rfl))))))))
  (x_Tok2
  (x_Tok2
  (x_Tok2
  (x_Lok (x_st (I := xI) (xr_lload (i := 10) (x_dk dl_134_0_ok 27 rfl))))
  (x_Lok (x_st (I := xI) (xr_lmul (x_dk dl_134_0_ok 28 rfl)))))
  (x_Tok2
  (x_Lok (x_st (I := xI) (xr_bipush (n := 30) (z := 30) (v := 30) (x_dk dl_134_0_ok 29 rfl) (by decide) (by decide))))
  (x_Lok (x_st (I := xI) (xr_lshr (x_dk dl_134_0_ok 30 rfl))))))
  (x_Tok2
  (x_Tok2
  (x_Lok (x_st (I := xI) (xr_ladd (x_dk dl_134_0_ok 31 rfl))))
  (x_Lok (x_st (I := xI) (xr_bipush (n := 30) (z := 30) (v := 30) (x_dk dl_134_0_ok 32 rfl) (by decide) (by decide)))))
  (x_Tok2
  (x_Lok (x_st (I := xI) (xr_lshr (x_dk dl_134_0_ok 33 rfl))))
  (x_Tok2
  (x_Lok (x_st (I := xI) (xr_ladd (x_dk dl_134_0_ok 34 rfl))))
  (x_Lok (x_rt (I := xI) (k := 2) ⟨(x_dk dl_134_0_ok 35 rfl), rfl⟩))))))))
def tb_134 : Nat → xE := tb_134_0
theorem tb_134_ok (K : xKx) (hK : x_KP K) : ∀ pc, x_EOq cls K xI m_134 pc (tb_134 pc) := tb_134_0_ok K hK
def dl_135_0 : List (Nat × Instr × Nat) := [(0, .lload_n 0, 1), (1, .lload_n 0, 1), (2, .invokestatic 374, 3), (5, .lstore_n 3, 1), (6, .iload_n 2, 1), (7, .iconst 1, 1), (8, .if_icmp .ne 7, 3), (11, .lload_n 0, 1), (12, .goto 6, 3), (15, .ldc2_w 378, 3), (18, .lstore 5, 2), (20, .lconst 0, 1), (21, .lstore 7, 2), (23, .iload_n 2, 1), (24, .istore 9, 2), (26, .iconst 1, 1), (27, .istore 10, 2), (29, .lload 5, 2), (31, .lconst 0, 1), (32, .lcmp, 1), (33, .ifCond .le 58, 3), (36, .lload 7, 2), (38, .iload 10, 2), (40, .ifCond .eq 8, 3), (43, .lload 5, 2), (45, .goto 6, 3), (48, .lload 5, 2), (50, .lneg, 1), (51, .ladd, 1), (52, .lstore 7, 2), (54, .lload 5, 2), (56, .lload_n 3, 1), (57, .invokestatic 374, 3), (60, .iload 9, 2), (62, .iconst 1, 1), (63, .iadd, 1), (64, .iload 9, 2), (66, .iconst 2, 1), (67, .iadd, 1), (68, .imul, 1), (69, .i2l, 1), (70, .ldiv, 1), (71, .lstore 5, 2), (73, .iinc 9 2, 3), (76, .iload 10, 2), (78, .ifCond .ne 7, 3), (81, .iconst 1, 1), (82, .goto 4, 3), (85, .iconst 0, 1), (86, .istore 10, 2), (88, .goto (-59), 3), (91, .lload 7, 2), (93, .lreturn, 1)]
set_option maxRecDepth 20000 in
theorem dl_135_0_ok : dl_135_0.all (fun q => decide (decode prog_14_method_34_code q.1 = .ok (q.2.1, q.2.2))) = true := by decide +kernel
def tb_135_0 : Nat → xE := (x_T 21 (x_T 7 (x_T 2 (x_T 0 (x_L 0 (0, xi_load 0 1 1, 0, 0)) (x_T 1 (x_L 1 (0, xi_load 0 1 2, 0, 0)) (x_L 2 (2, x_nof, 134, 2)))) (x_T 5 (x_L 5 (0, xi_stor 3 1 6, 0, 0)) (x_T 6 (x_L 6 (0, xi_load 2 0 7, 0, 0)) (x_L 7 (0, xi_push (0, 1, 1) 8, 0, 0))))) (x_T 12 (x_T 8 (x_L 8 (0, xi_if2 1 15 11, 0, 0)) (x_T 11 (x_L 11 (0, xi_load 0 1 12, 0, 0)) (x_L 12 (0, xi_goto 18, 0, 0)))) (x_T 18 (x_T 15 (x_L 15 (0, xi_push (4, 1152921504606846976, 1152921504606846976) 18, 0, 0)) (x_L 18 (0, xi_stor 5 1 20, 0, 0))) (x_T 20 (x_L 20 (0, xi_push (4, 0, 0) 21, 0, 0)) (x_L 21 (0, xi_stor 7 1 23, 0, 0)))))) (x_T 31 (x_T 26 (x_T 23 (x_L 23 (0, xi_load 2 0 24, 0, 0)) (x_T 24 (x_L 24 (0, xi_stor 9 0 26, 0, 0)) (x_L 26 (0, xi_push (0, 1, 1) 27, 0, 0)))) (x_T 27 (x_L 27 (0, xi_stor 10 0 29, 0, 0)) (x_T 29 (x_L 29 (0, xi_load 5 1 31, 0, 0)) (x_L 31 (0, xi_push (4, 0, 0) 32, 0, 0))))) (x_T 38 (x_T 32 (x_L 32 (0, xi_lif 5 91 36, 0, 0)) (x_T 36 (x_L 36 (0, xi_load 7 1 38, 0, 0)) (x_L 38 (0, xi_load 10 0 40, 0, 0)))) (x_T 43 (x_T 40 (x_L 40 (0, xi_if1 0 48 43, 0, 0)) (x_L 43 (0, xi_load 5 1 45, 0, 0))) (x_T 45 (x_L 45 (0, xi_goto 51, 0, 0)) (x_L 48 (0, xi_load 5 1 50, 0, 0)))))))
set_option maxRecDepth 20000 in
set_option maxHeartbeats 4000000 in
theorem tb_135_0_ok (K : xKx) (hK : x_KP K) : ∀ pc, x_EOq cls K xI m_135 pc (tb_135_0 pc) :=
  (x_Tok2
  (x_Tok2
  (x_Tok2
  (x_Tok2
  (x_Lok (x_st (I := xI) (xr_lload_n (i := 0) (x_dk dl_135_0_ok 0 rfl))))
  (x_Tok2
  (x_Lok (x_st (I := xI) (xr_lload_n (i := 0) (x_dk dl_135_0_ok 1 rfl))))
  (x_Lok (x_ca (I := xI) (q' := m_134) rfl (xr_callS (q' := m_134) (ix := 374) (n := 2) (in_t9 (List.mem_of_getElem? (i := 101) rfl) rfl) good_w (in_t1 (List.mem_of_getElem? (i := 14) rfl) rfl) (in_t9 (List.mem_of_getElem? (i := 99) rfl) rfl) (in_t9 (List.mem_of_getElem? (i := 100) rfl) rfl) (by decide +kernel) (by decide +kernel) (x_dk dl_135_0_ok 2 rfl))))))
  (x_Tok2
  (x_Lok (x_st (I := xI) (xr_lstore_n (i := 3) (x_dk dl_135_0_ok 3 rfl) (by decide +kernel))))
  (x_Tok2
  (x_Lok (x_st (I := xI) (xr_iload_n (i := 2) (x_dk dl_135_0_ok 4 rfl))))
  (x_Lok (x_st (I := xI) (xr_iconst (n := 1) (z := 1) (v := 1) (x_dk dl_135_0_ok 5 rfl) (by decide) (by decide)))))))
  (x_Tok2
  (x_Tok2
  (x_Lok (x_st (I := xI) (xr_icmpne (off := 7) (tg := 15) (x_dk dl_135_0_ok 6 rfl) (by decide))))
  (x_Tok2
  (x_Lok (x_st (I := xI) (xr_lload_n (i := 0) (x_dk dl_135_0_ok 7 rfl))))
  (x_Lok (x_st (I := xI) (xr_goto (off := 6) (tg := 18) (x_dk dl_135_0_ok 8 rfl) (by decide))))))
  (x_Tok2
  (x_Tok2
  (x_Lok (x_st (I := xI) (xr_ldc2 (ix := 378) (z := 1152921504606846976) (v := 1152921504606846976) (x_dk dl_135_0_ok 9 rfl) (in_t9 (List.mem_of_getElem? (i := 103) rfl) rfl) (by decide))))
  (x_Lok (x_st (I := xI) (xr_lstore (i := 5) (x_dk dl_135_0_ok 10 rfl) (by decide +kernel)))))
  (x_Tok2
  (x_Lok (x_st (I := xI) (xr_lconst (n := 0) (z := 0) (v := 0) (x_dk dl_135_0_ok 11 rfl) (by decide) (by decide))))
  (x_Lok (x_st (I := xI) (xr_lstore (i := 7) (x_dk dl_135_0_ok 12 rfl) (by decide +kernel))))))))
  (x_Tok2
  (x_Tok2
  (x_Tok2
  (x_Lok (x_st (I := xI) (xr_iload_n (i := 2) (x_dk dl_135_0_ok 13 rfl))))
  (x_Tok2
  (x_Lok (x_st (I := xI) (xr_istore (i := 9) (x_dk dl_135_0_ok 14 rfl) (by decide +kernel))))
  (x_Lok (x_st (I := xI) (xr_iconst (n := 1) (z := 1) (v := 1) (x_dk dl_135_0_ok 15 rfl) (by decide) (by decide))))))
  (x_Tok2
  (x_Lok (x_st (I := xI) (xr_istore (i := 10) (x_dk dl_135_0_ok 16 rfl) (by decide +kernel))))
  (x_Tok2
  (x_Lok (x_st (I := xI) (xr_lload (i := 5) (x_dk dl_135_0_ok 17 rfl))))
  (x_Lok (x_st (I := xI) (xr_lconst (n := 0) (z := 0) (v := 0) (x_dk dl_135_0_ok 18 rfl) (by decide) (by decide)))))))
  (x_Tok2
  (x_Tok2
  (x_Lok (x_st (I := xI) (xr_lifle (off := 58) (tg := 91) (x_dk dl_135_0_ok 19 rfl) (x_dk dl_135_0_ok 20 rfl) (by decide))))
  (x_Tok2
  (x_Lok (x_st (I := xI) (xr_lload (i := 7) (x_dk dl_135_0_ok 21 rfl))))
  (x_Lok (x_st (I := xI) (xr_iload (i := 10) (x_dk dl_135_0_ok 22 rfl))))))
  (x_Tok2
  (x_Tok2
  (x_Lok (x_st (I := xI) (xr_ifeq (off := 8) (tg := 48) (x_dk dl_135_0_ok 23 rfl) (by decide))))
  (x_Lok (x_st (I := xI) (xr_lload (i := 5) (x_dk dl_135_0_ok 24 rfl)))))
  (x_Tok2
  (x_Lok (x_st (I := xI) (xr_goto (off := 6) (tg := 51) (x_dk dl_135_0_ok 25 rfl) (by decide))))
  (x_Lok (x_st (I := xI) (xr_lload (i := 5) (x_dk dl_135_0_ok 26 rfl)))))))))
def tb_135_26 : Nat → xE := (x_T 68 (x_T 57 (x_T 52 (x_T 50 (x_L 50 (0, xi_unL xF_negL 51, 0, 0)) (x_T 51 (x_L 51 (0, xi_binL xF_addL 52, 0, 0)) (x_L 52 (0, xi_stor 7 1 54, 0, 0)))) (x_T 54 (x_L 54 (0, xi_load 5 1 56, 0, 0)) (x_T 56 (x_L 56 (0, xi_load 3 1 57, 0, 0)) (x_L 57 (2, x_nof, 134, 2))))) (x_T 63 (x_T 60 (x_L 60 (0, xi_load 9 0 62, 0, 0)) (x_T 62 (x_L 62 (0, xi_push (0, 1, 1) 63, 0, 0)) (x_L 63 (0, xi_bin xF_add 64, 0, 0)))) (x_T 66 (x_T 64 (x_L 64 (0, xi_load 9 0 66, 0, 0)) (x_L 66 (0, xi_push (0, 2, 2) 67, 0, 0))) (x_T 67 (x_L 67 (0, xi_bin xF_add 68, 0, 0)) (x_L 68 (0, xi_bin xF_mul 69, 0, 0)))))) (x_T 78 (x_T 71 (x_T 69 (x_L 69 (0, xi_i2l 70, 0, 0)) (x_T 70 (x_L 70 (0, xi_binL xF_divL 71, 0, 0)) (x_L 71 (0, xi_stor 5 1 73, 0, 0)))) (x_T 73 (x_L 73 (0, xi_inc 9 2 76, 0, 0)) (x_T 76 (x_L 76 (0, xi_load 10 0 78, 0, 0)) (x_L 78 (0, xi_if1 1 85 81, 0, 0))))) (x_T 85 (x_T 81 (x_L 81 (0, xi_push (0, 1, 1) 82, 0, 0)) (x_T 82 (x_L 82 (0, xi_goto 86, 0, 0)) (x_L 85 (0, xi_push (0, 0, 0) 86, 0, 0)))) (x_T 88 (x_T 86 (x_L 86 (0, xi_stor 10 0 88, 0, 0)) (x_L 88 (0, xi_goto 29, 0, 0))) (x_T 91 (x_L 91 (0, xi_load 7 1 93, 0, 0)) (x_L 93 (1, x_nof, 2, 0)))))))
set_option maxRecDepth 20000 in
set_option maxHeartbeats 4000000 in
theorem tb_135_26_ok (K : xKx) (hK : x_KP K) : ∀ pc, x_EOq cls K xI m_135 pc (tb_135_26 pc) :=
  (x_Tok2
  (x_Tok2
  (x_Tok2
  (x_Tok2
  (x_Lok (x_st (I := xI) (xr_lneg (x_dk dl_135_0_ok 27 rfl))))
  (x_Tok2
  (x_Lok (x_st (I := xI) (xr_ladd (x_dk dl_135_0_ok 28 rfl))))
  (x_Lok (x_st (I := xI) (xr_lstore (i := 7) (x_dk dl_135_0_ok 29 rfl) (by decide +kernel))))))
  (x_Tok2
  (x_Lok (x_st (I := xI) (xr_lload (i := 5) (x_dk dl_135_0_ok 30 rfl))))
  (x_Tok2
  (x_Lok (x_st (I := xI) (xr_lload_n (i := 3) (x_dk dl_135_0_ok 31 rfl))))
  (x_Lok (x_ca (I := xI) (q' := m_134) rfl (xr_callS (q' := m_134) (ix := 374) (n := 2) (in_t9 (List.mem_of_getElem? (i := 101) rfl) rfl) good_w (in_t1 (List.mem_of_getElem? (i := 14) rfl) rfl) (in_t9 (List.mem_of_getElem? (i := 99) rfl) rfl) (in_t9 (List.mem_of_getElem? (i := 100) rfl) rfl) (by decide +kernel) (by decide +kernel) (x_dk dl_135_0_ok 32 rfl)))))))
  (x_Tok2
  (x_Tok2
  (x_Lok (x_st (I := xI) (xr_iload (i := 9) (x_dk dl_135_0_ok 33 rfl))))
  (x_Tok2
  (x_Lok (x_st (I := xI) (xr_iconst (n := 1) (z := 1) (v := 1) (x_dk dl_135_0_ok 34 rfl) (by decide) (by decide))))
  (x_Lok (x_st (I := xI) (xr_iadd (x_dk dl_135_0_ok 35 rfl))))))
  (x_Tok2
  (x_Tok2
  (x_Lok (x_st (I := xI) (xr_iload (i := 9) (x_dk dl_135_0_ok 36 rfl))))
  (x_Lok (x_st (I := xI) (xr_iconst (n := 2) (z := 2) (v := 2) (x_dk dl_135_0_ok 37 rfl) (by decide) (by decide)))))
  (x_Tok2
  (x_Lok (x_st (I := xI) (xr_iadd (x_dk dl_135_0_ok 38 rfl))))
  (x_Lok (x_st (I := xI) (xr_imul (x_dk dl_135_0_ok 39 rfl))))))))
  (x_Tok2
  (x_Tok2
  (x_Tok2
  (x_Lok (x_st (I := xI) (xr_i2l (x_dk dl_135_0_ok 40 rfl))))
  (x_Tok2
  (x_Lok (x_st (I := xI) (xr_ldiv (x_dk dl_135_0_ok 41 rfl))))
  (x_Lok (x_st (I := xI) (xr_lstore (i := 5) (x_dk dl_135_0_ok 42 rfl) (by decide +kernel))))))
  (x_Tok2
  (x_Lok (x_st (I := xI) (xr_iinc (i := 9) (n := 2) (x_dk dl_135_0_ok 43 rfl) (by decide +kernel) (by decide))))
  (x_Tok2
  (x_Lok (x_st (I := xI) (xr_iload (i := 10) (x_dk dl_135_0_ok 44 rfl))))
  (x_Lok (x_st (I := xI) (xr_ifne (off := 7) (tg := 85) (x_dk dl_135_0_ok 45 rfl) (by decide)))))))
  (x_Tok2
  (x_Tok2
  (x_Lok (x_st (I := xI) (xr_iconst (n := 1) (z := 1) (v := 1) (x_dk dl_135_0_ok 46 rfl) (by decide) (by decide))))
  (x_Tok2
  (x_Lok (x_st (I := xI) (xr_goto (off := 4) (tg := 86) (x_dk dl_135_0_ok 47 rfl) (by decide))))
  (x_Lok (x_st (I := xI) (xr_iconst (n := 0) (z := 0) (v := 0) (x_dk dl_135_0_ok 48 rfl) (by decide) (by decide))))))
  (x_Tok2
  (x_Tok2
  (x_Lok (x_st (I := xI) (xr_istore (i := 10) (x_dk dl_135_0_ok 49 rfl) (by decide +kernel))))
  (x_Lok (x_st (I := xI) (xr_goto (off := (-59)) (tg := 29) (x_dk dl_135_0_ok 50 rfl) (by decide)))))
  (x_Tok2
  (x_Lok (x_st (I := xI) (xr_lload (i := 7) (x_dk dl_135_0_ok 51 rfl))))
  (x_Lok (x_rt (I := xI) (k := 2) ⟨(x_dk dl_135_0_ok 52 rfl), rfl⟩)))))))
def tb_135 : Nat → xE := (x_T 48 tb_135_0 tb_135_26)
theorem tb_135_ok (K : xKx) (hK : x_KP K) : ∀ pc, x_EOq cls K xI m_135 pc (tb_135 pc) := (x_Tok2 (tb_135_0_ok K hK) (tb_135_26_ok K hK))
def dl_136_0 : List (Nat × Instr × Nat) := [(0, .iconst 0, 1), (1, .istore_n 1, 1), (2, .iload_n 1, 1), (3, .sipush 512, 3), (6, .if_icmp .gt 68, 3), (9, .ldc2_w 380, 3), (12, .iload_n 1, 1), (13, .i2l, 1), (14, .lmul, 1), (15, .ldc2_w 382, 3), (18, .iload_n 1, 1), (19, .i2l, 1), (20, .lmul, 1), (21, .bipush 11, 2), (23, .lshr, 1), (24, .ladd, 1), (25, .lstore_n 2, 1), (26, .aload_n 0, 1), (27, .getfield 146, 3), (30, .iload_n 1, 1), (31, .lload_n 2, 1), (32, .iconst 1, 1), (33, .invokestatic 384, 3), (36, .ldc2_w 388, 3), (39, .ladd, 1), (40, .bipush 40, 2), (42, .lshr, 1), (43, .l2i, 1), (44, .iastore, 1), (45, .aload_n 0, 1), (46, .getfield 146, 3), (49, .sipush 1024, 3), (52, .iload_n 1, 1), (53, .isub, 1), (54, .lload_n 2, 1), (55, .iconst 0, 1), (56, .invokestatic 384, 3), (59, .ldc2_w 388, 3), (62, .ladd, 1), (63, .bipush 40, 2), (65, .lshr, 1), (66, .l2i, 1), (67, .iastore, 1), (68, .iinc 1 1, 3), (71, .goto (-69), 3), (74, .return_, 1)]
set_option maxRecDepth 20000 in
theorem dl_136_0_ok : dl_136_0.all (fun q => decide (decode prog_14_method_35_code q.1 = .ok (q.2.1, q.2.2))) = true := by decide +kernel
def tb_136_0 : Nat → xE := (x_T 18 (x_T 6 (x_T 1 (x_T 0 (x_L 0 (0, xi_push (0, 0, 0) 1, 0, 0)) (x_L 1 (0, xi_stor 1 0 2, 0, 0))) (x_T 2 (x_L 2 (3, xi_load 1 0 3, 3, 0)) (x_T 3 (x_L 3 (0, xi_push (0, 512, 512) 6, 0, 0)) (x_L 6 (0, xi_if2 4 74 9, 0, 0))))) (x_T 13 (x_T 9 (x_L 9 (0, xi_push (4, 1768559438007110, 1768559438007110) 12, 0, 0)) (x_T 12 (x_L 12 (0, xi_load 1 0 13, 0, 0)) (x_L 13 (0, xi_i2l 14, 0, 0)))) (x_T 14 (x_L 14 (0, xi_binL xF_mulL 15, 0, 0)) (x_T 15 (x_L 15 (0, xi_push (4, 141, 141) 18, 0, 0)) (x_L 18 (0, xi_load 1 0 19, 0, 0)))))) (x_T 25 (x_T 21 (x_T 19 (x_L 19 (0, xi_i2l 20, 0, 0)) (x_T 20 (x_L 20 (0, xi_binL xF_mulL 21, 0, 0)) (x_L 21 (0, xi_push (0, 11, 11) 23, 0, 0)))) (x_T 23 (x_L 23 (0, xi_shL xF_shrL 24, 0, 0)) (x_T 24 (x_L 24 (0, xi_binL xF_addL 25, 0, 0)) (x_L 25 (0, xi_stor 2 1 26, 0, 0))))) (x_T 30 (x_T 26 (x_L 26 (0, xi_load 0 2 27, 0, 0)) (x_T 27 (x_L 27 (0, xi_getf 12 54 30, 0, 0)) (x_L 30 (0, xi_load 1 0 31, 0, 0)))) (x_T 31 (x_L 31 (0, xi_load 2 1 32, 0, 0)) (x_T 32 (x_L 32 (0, xi_push (0, 1, 1) 33, 0, 0)) (x_L 33 (4, x_nof, 135, 2)))))))
set_option maxRecDepth 20000 in
set_option maxHeartbeats 4000000 in
theorem tb_136_0_ok (K : xKx) (hK : x_KP K) : ∀ pc, x_EOq cls K xI m_136 pc (tb_136_0 pc) :=
  (x_Tok2
  (x_Tok2
  (x_Tok2
  (x_Tok2
  (x_Lok (x_st (I := xI) (xr_iconst (n := 0) (z := 0) (v := 0) (x_dk dl_136_0_ok 0 rfl) (by decide) (by decide))))
  (x_Lok (x_st (I := xI) (xr_istore_n (i := 1) (x_dk dl_136_0_ok 1 rfl) (by decide +kernel)))))
  (x_Tok2
  (x_Lok (x_lo (I := xI) (L := 3) (xr_iload_n (i := 1) (x_dk dl_136_0_ok 2 rfl))))
  (x_Tok2
  (x_Lok (x_st (I := xI) (xr_sipush (n := 512) (z := 512) (v := 512) (x_dk dl_136_0_ok 3 rfl) (by decide) (by decide))))
  (x_Lok (x_st (I := xI) (xr_icmpgt (off := 68) (tg := 74) (x_dk dl_136_0_ok 4 rfl) (by decide)))))))
  (x_Tok2
  (x_Tok2
  (x_Lok (x_st (I := xI) (xr_ldc2 (ix := 380) (z := 1768559438007110) (v := 1768559438007110) (x_dk dl_136_0_ok 5 rfl) (in_t9 (List.mem_of_getElem? (i := 94) rfl) rfl) (by decide))))
  (x_Tok2
  (x_Lok (x_st (I := xI) (xr_iload_n (i := 1) (x_dk dl_136_0_ok 6 rfl))))
  (x_Lok (x_st (I := xI) (xr_i2l (x_dk dl_136_0_ok 7 rfl))))))
  (x_Tok2
  (x_Lok (x_st (I := xI) (xr_lmul (x_dk dl_136_0_ok 8 rfl))))
  (x_Tok2
  (x_Lok (x_st (I := xI) (xr_ldc2 (ix := 382) (z := 141) (v := 141) (x_dk dl_136_0_ok 9 rfl) (in_t9 (List.mem_of_getElem? (i := 95) rfl) rfl) (by decide))))
  (x_Lok (x_st (I := xI) (xr_iload_n (i := 1) (x_dk dl_136_0_ok 10 rfl))))))))
  (x_Tok2
  (x_Tok2
  (x_Tok2
  (x_Lok (x_st (I := xI) (xr_i2l (x_dk dl_136_0_ok 11 rfl))))
  (x_Tok2
  (x_Lok (x_st (I := xI) (xr_lmul (x_dk dl_136_0_ok 12 rfl))))
  (x_Lok (x_st (I := xI) (xr_bipush (n := 11) (z := 11) (v := 11) (x_dk dl_136_0_ok 13 rfl) (by decide) (by decide))))))
  (x_Tok2
  (x_Lok (x_st (I := xI) (xr_lshr (x_dk dl_136_0_ok 14 rfl))))
  (x_Tok2
  (x_Lok (x_st (I := xI) (xr_ladd (x_dk dl_136_0_ok 15 rfl))))
  (x_Lok (x_st (I := xI) (xr_lstore_n (i := 2) (x_dk dl_136_0_ok 16 rfl) (by decide +kernel)))))))
  (x_Tok2
  (x_Tok2
  (x_Lok (x_st (I := xI) (xr_aload_n (i := 0) (x_dk dl_136_0_ok 17 rfl))))
  (x_Tok2
  (x_Lok (x_st (I := xI) (xr_getf (ci := 12) (k := 54) (ix := 146) (N := 119) (C := RX12) (T := TX12) rfl in_X12 (by decide) (in_t9 (List.mem_of_getElem? (i := 169) rfl) rfl) (x_dk dl_136_0_ok 18 rfl))))
  (x_Lok (x_st (I := xI) (xr_iload_n (i := 1) (x_dk dl_136_0_ok 19 rfl))))))
  (x_Tok2
  (x_Lok (x_st (I := xI) (xr_lload_n (i := 2) (x_dk dl_136_0_ok 20 rfl))))
  (x_Tok2
  (x_Lok (x_st (I := xI) (xr_iconst (n := 1) (z := 1) (v := 1) (x_dk dl_136_0_ok 21 rfl) (by decide) (by decide))))
  (x_Lok (x_cp (I := xI) (q' := m_135) rfl (xr_callS (q' := m_135) (ix := 384) (n := 2) (in_t9 (List.mem_of_getElem? (i := 98) rfl) rfl) good_w (in_t1 (List.mem_of_getElem? (i := 14) rfl) rfl) (in_t9 (List.mem_of_getElem? (i := 96) rfl) rfl) (in_t9 (List.mem_of_getElem? (i := 97) rfl) rfl) (by decide +kernel) (by decide +kernel) (x_dk dl_136_0_ok 22 rfl)))))))))
def tb_136_23 : Nat → xE := (x_T 53 (x_T 43 (x_T 39 (x_T 36 (x_L 36 (0, xi_push (4, 549755813888, 549755813888) 39, 0, 0)) (x_L 39 (0, xi_binL xF_addL 40, 0, 0))) (x_T 40 (x_L 40 (0, xi_push (0, 40, 40) 42, 0, 0)) (x_T 42 (x_L 42 (0, xi_shL xF_shrL 43, 0, 0)) (x_L 43 (0, xi_unL xF_l2i 44, 0, 0))))) (x_T 46 (x_T 44 (x_L 44 (0, xi_ast false 45, 0, 0)) (x_T 45 (x_L 45 (0, xi_load 0 2 46, 0, 0)) (x_L 46 (0, xi_getf 12 54 49, 0, 0)))) (x_T 49 (x_L 49 (0, xi_push (0, 1024, 1024) 52, 0, 0)) (x_T 52 (x_L 52 (0, xi_load 1 0 53, 0, 0)) (x_L 53 (0, xi_bin xF_sub 54, 0, 0)))))) (x_T 63 (x_T 56 (x_T 54 (x_L 54 (0, xi_load 2 1 55, 0, 0)) (x_T 55 (x_L 55 (0, xi_push (0, 0, 0) 56, 0, 0)) (x_L 56 (4, x_nof, 135, 2)))) (x_T 59 (x_L 59 (0, xi_push (4, 549755813888, 549755813888) 62, 0, 0)) (x_T 62 (x_L 62 (0, xi_binL xF_addL 63, 0, 0)) (x_L 63 (0, xi_push (0, 40, 40) 65, 0, 0))))) (x_T 67 (x_T 65 (x_L 65 (0, xi_shL xF_shrL 66, 0, 0)) (x_T 66 (x_L 66 (0, xi_unL xF_l2i 67, 0, 0)) (x_L 67 (0, xi_ast false 68, 0, 0)))) (x_T 68 (x_L 68 (0, xi_incT 1 71, 0, 0)) (x_T 71 (x_L 71 (0, xi_goto 2, 0, 0)) (x_L 74 (1, x_nof, 0, 0)))))))
set_option maxRecDepth 20000 in
set_option maxHeartbeats 4000000 in
theorem tb_136_23_ok (K : xKx) (hK : x_KP K) : ∀ pc, x_EOq cls K xI m_136 pc (tb_136_23 pc) :=
  (x_Tok2
  (x_Tok2
  (x_Tok2
  (x_Tok2
  (x_Lok (x_st (I := xI) (xr_ldc2 (ix := 388) (z := 549755813888) (v := 549755813888) (x_dk dl_136_0_ok 23 rfl) (in_t9 (List.mem_of_getElem? (i := 104) rfl) rfl) (by decide))))
  (x_Lok (x_st (I := xI) (xr_ladd (x_dk dl_136_0_ok 24 rfl)))))
  (x_Tok2
  (x_Lok (x_st (I := xI) (xr_bipush (n := 40) (z := 40) (v := 40) (x_dk dl_136_0_ok 25 rfl) (by decide) (by decide))))
  (x_Tok2
  (x_Lok (x_st (I := xI) (xr_lshr (x_dk dl_136_0_ok 26 rfl))))
  (x_Lok (x_st (I := xI) (xr_l2i (x_dk dl_136_0_ok 27 rfl)))))))
  (x_Tok2
  (x_Tok2
  (x_Lok (x_st (I := xI) (xr_iastore (x_dk dl_136_0_ok 28 rfl))))
  (x_Tok2
  (x_Lok (x_st (I := xI) (xr_aload_n (i := 0) (x_dk dl_136_0_ok 29 rfl))))
  (x_Lok (x_st (I := xI) (xr_getf (ci := 12) (k := 54) (ix := 146) (N := 119) (C := RX12) (T := TX12) rfl in_X12 (by decide) (in_t9 (List.mem_of_getElem? (i := 169) rfl) rfl) (x_dk dl_136_0_ok 30 rfl))))))
  (x_Tok2
  (x_Lok (x_st (I := xI) (xr_sipush (n := 1024) (z := 1024) (v := 1024) (x_dk dl_136_0_ok 31 rfl) (by decide) (by decide))))
  (x_Tok2
  (x_Lok (x_st (I := xI) (xr_iload_n (i := 1) (x_dk dl_136_0_ok 32 rfl))))
  (x_Lok (x_st (I := xI) (xr_isub (x_dk dl_136_0_ok 33 rfl))))))))
  (x_Tok2
  (x_Tok2
  (x_Tok2
  (x_Lok (x_st (I := xI) (xr_lload_n (i := 2) (x_dk dl_136_0_ok 34 rfl))))
  (x_Tok2
  (x_Lok (x_st (I := xI) (xr_iconst (n := 0) (z := 0) (v := 0) (x_dk dl_136_0_ok 35 rfl) (by decide) (by decide))))
  (x_Lok (x_cp (I := xI) (q' := m_135) rfl (xr_callS (q' := m_135) (ix := 384) (n := 2) (in_t9 (List.mem_of_getElem? (i := 98) rfl) rfl) good_w (in_t1 (List.mem_of_getElem? (i := 14) rfl) rfl) (in_t9 (List.mem_of_getElem? (i := 96) rfl) rfl) (in_t9 (List.mem_of_getElem? (i := 97) rfl) rfl) (by decide +kernel) (by decide +kernel) (x_dk dl_136_0_ok 36 rfl))))))
  (x_Tok2
  (x_Lok (x_st (I := xI) (xr_ldc2 (ix := 388) (z := 549755813888) (v := 549755813888) (x_dk dl_136_0_ok 37 rfl) (in_t9 (List.mem_of_getElem? (i := 104) rfl) rfl) (by decide))))
  (x_Tok2
  (x_Lok (x_st (I := xI) (xr_ladd (x_dk dl_136_0_ok 38 rfl))))
  (x_Lok (x_st (I := xI) (xr_bipush (n := 40) (z := 40) (v := 40) (x_dk dl_136_0_ok 39 rfl) (by decide) (by decide)))))))
  (x_Tok2
  (x_Tok2
  (x_Lok (x_st (I := xI) (xr_lshr (x_dk dl_136_0_ok 40 rfl))))
  (x_Tok2
  (x_Lok (x_st (I := xI) (xr_l2i (x_dk dl_136_0_ok 41 rfl))))
  (x_Lok (x_st (I := xI) (xr_iastore (x_dk dl_136_0_ok 42 rfl))))))
  (x_Tok2
  (x_Lok (x_st (I := xI) (xr_iincT (i := 1) (x_hev hK) (x_dk dl_136_0_ok 43 rfl) (by decide +kernel))))
  (x_Tok2
  (x_Lok (x_st (I := xI) (xr_goto (off := (-69)) (tg := 2) (x_dk dl_136_0_ok 44 rfl) (by decide))))
  (x_Lok (x_rt (I := xI) (k := 0) ⟨(x_dk dl_136_0_ok 45 rfl), rfl⟩)))))))
def tb_136 : Nat → xE := (x_T 33 tb_136_0 tb_136_23)
theorem tb_136_ok (K : xKx) (hK : x_KP K) : ∀ pc, x_EOq cls K xI m_136 pc (tb_136 pc) := (x_Tok2 (tb_136_0_ok K hK) (tb_136_23_ok K hK))
def dl_137_0 : List (Nat × Instr × Nat) := [(0, .iconst 0, 1), (1, .istore_n 1, 1), (2, .iload_n 1, 1), (3, .aload_n 0, 1), (4, .getfield 269, 3), (7, .if_icmp .ge 15, 3), (22, .return_, 1)]
set_option maxRecDepth 20000 in
theorem dl_137_0_ok : dl_137_0.all (fun q => decide (decode prog_14_method_38_code q.1 = .ok (q.2.1, q.2.2))) = true := by decide +kernel
def tb_137_0 : Nat → xE := (x_T 2 (x_T 0 (x_L 0 (0, xi_push (0, 0, 0) 1, 0, 0)) (x_T 1 (x_L 1 (0, xi_stor 1 0 2, 0, 0)) (x_L 2 (0, xi_load 1 0 3, 0, 0)))) (x_T 4 (x_T 3 (x_L 3 (0, xi_load 0 2 4, 0, 0)) (x_L 4 (0, xi_getf 12 10 7, 0, 0))) (x_T 7 (x_L 7 (0, xi_if2 3 22 10, 0, 0)) (x_L 22 (1, x_nof, 0, 0)))))
set_option maxRecDepth 20000 in
set_option maxHeartbeats 4000000 in
theorem tb_137_0_ok (K : xKx) (hK : x_KP K) : ∀ pc, x_EOq cls K xI m_137 pc (tb_137_0 pc) :=
  (x_Tok2
  (x_Tok2
  (x_Lok (x_st (I := xI) (xr_iconst (n := 0) (z := 0) (v := 0) (x_dk dl_137_0_ok 0 rfl) (by decide) (by decide))))
  (x_Tok2
  (x_Lok (x_st (I := xI) (xr_istore_n (i := 1) (x_dk dl_137_0_ok 1 rfl) (by decide +kernel))))
  (x_Lok (x_st (I := xI) (xr_iload_n (i := 1) (x_dk dl_137_0_ok 2 rfl))))))
  (x_Tok2
  (x_Tok2
  (x_Lok (x_st (I := xI) (xr_aload_n (i := 0) (x_dk dl_137_0_ok 3 rfl))))
  (x_Lok (x_st (I := xI) (xr_getf (ci := 12) (k := 10) (ix := 269) (N := 119) (C := RX12) (T := TX12) rfl in_X12 (by decide) (in_t9 (List.mem_of_getElem? (i := 125) rfl) rfl) (x_dk dl_137_0_ok 4 rfl)))))
  (x_Tok2
  (x_Lok (x_st (I := xI) (xr_icmpge (off := 15) (tg := 22) (x_dk dl_137_0_ok 5 rfl) (by decide))))
  (x_Lok (x_rt (I := xI) (k := 0) ⟨(x_dk dl_137_0_ok 6 rfl), rfl⟩)))))
def tb_137 : Nat → xE := tb_137_0
theorem tb_137_ok (K : xKx) (hK : x_KP K) : ∀ pc, x_EOq cls K xI m_137 pc (tb_137 pc) := tb_137_0_ok K hK
def dl_138_0 : List (Nat × Instr × Nat) := [(0, .aload_n 0, 1), (1, .invokevirtual 401, 3), (4, .iconst 0, 1), (5, .istore_n 1, 1), (6, .iload_n 1, 1), (7, .aload_n 0, 1), (8, .getfield 269, 3), (11, .if_icmp .ge 85, 3), (96, .return_, 1)]
set_option maxRecDepth 20000 in
theorem dl_138_0_ok : dl_138_0.all (fun q => decide (decode prog_14_method_39_code q.1 = .ok (q.2.1, q.2.2))) = true := by decide +kernel
def tb_138_0 : Nat → xE := (x_T 5 (x_T 1 (x_T 0 (x_L 0 (0, xi_load 0 2 1, 0, 0)) (x_L 1 (2, x_nof, 137, 1))) (x_T 4 (x_L 4 (0, xi_push (0, 0, 0) 5, 0, 0)) (x_L 5 (0, xi_stor 1 0 6, 0, 0)))) (x_T 7 (x_T 6 (x_L 6 (0, xi_load 1 0 7, 0, 0)) (x_L 7 (0, xi_load 0 2 8, 0, 0))) (x_T 8 (x_L 8 (0, xi_getf 12 10 11, 0, 0)) (x_T 11 (x_L 11 (0, xi_if2 3 96 14, 0, 0)) (x_L 96 (1, x_nof, 0, 0))))))
set_option maxRecDepth 20000 in
set_option maxHeartbeats 4000000 in
theorem tb_138_0_ok (K : xKx) (hK : x_KP K) : ∀ pc, x_EOq cls K xI m_138 pc (tb_138_0 pc) :=
  (x_Tok2
  (x_Tok2
  (x_Tok2
  (x_Lok (x_st (I := xI) (xr_aload_n (i := 0) (x_dk dl_138_0_ok 0 rfl))))
  (x_Lok (x_ca (I := xI) (q' := m_137) rfl (xr_callV (q' := m_137) (ix := 401) (n := 0) (in_t11 (List.mem_of_getElem? (i := 136) rfl) rfl) good_w (in_t1 (List.mem_of_getElem? (i := 14) rfl) rfl) (in_t11 (List.mem_of_getElem? (i := 133) rfl) rfl) (in_t11 (List.mem_of_getElem? (i := 135) rfl) rfl) (in_s8 (List.mem_of_getElem? (i := 8) rfl)) (by decide +kernel) (by decide +kernel) (by decide +kernel) (x_dk dl_138_0_ok 1 rfl)))))
  (x_Tok2
  (x_Lok (x_st (I := xI) (xr_iconst (n := 0) (z := 0) (v := 0) (x_dk dl_138_0_ok 2 rfl) (by decide) (by decide))))
  (x_Lok (x_st (I := xI) (xr_istore_n (i := 1) (x_dk dl_138_0_ok 3 rfl) (by decide +kernel))))))
  (x_Tok2
  (x_Tok2
  (x_Lok (x_st (I := xI) (xr_iload_n (i := 1) (x_dk dl_138_0_ok 4 rfl))))
  (x_Lok (x_st (I := xI) (xr_aload_n (i := 0) (x_dk dl_138_0_ok 5 rfl)))))
  (x_Tok2
  (x_Lok (x_st (I := xI) (xr_getf (ci := 12) (k := 10) (ix := 269) (N := 119) (C := RX12) (T := TX12) rfl in_X12 (by decide) (in_t9 (List.mem_of_getElem? (i := 125) rfl) rfl) (x_dk dl_138_0_ok 6 rfl))))
  (x_Tok2
  (x_Lok (x_st (I := xI) (xr_icmpge (off := 85) (tg := 96) (x_dk dl_138_0_ok 7 rfl) (by decide))))
  (x_Lok (x_rt (I := xI) (k := 0) ⟨(x_dk dl_138_0_ok 8 rfl), rfl⟩))))))
def tb_138 : Nat → xE := tb_138_0
theorem tb_138_ok (K : xKx) (hK : x_KP K) : ∀ pc, x_EOq cls K xI m_138 pc (tb_138 pc) := tb_138_0_ok K hK
def dl_139_0 : List (Nat × Instr × Nat) := [(0, .aload_n 0, 1), (1, .iload_n 1, 1), (2, .invokevirtual 305, 3), (5, .ifCond .eq 15, 3), (20, .iconst (-1), 1), (21, .ireturn, 1)]
set_option maxRecDepth 20000 in
theorem dl_139_0_ok : dl_139_0.all (fun q => decide (decode prog_14_method_54_code q.1 = .ok (q.2.1, q.2.2))) = true := by decide +kernel
def tb_139_0 : Nat → xE := (x_T 2 (x_T 0 (x_L 0 (0, xi_load 0 2 1, 0, 0)) (x_T 1 (x_L 1 (0, xi_load 1 0 2, 0, 0)) (x_L 2 (2, x_nof, 107, 2)))) (x_T 5 (x_L 5 (0, xi_if1 0 20 8, 0, 0)) (x_T 20 (x_L 20 (0, xi_push (0, (-1), (-1)) 21, 0, 0)) (x_L 21 (1, x_nof, 1, 0)))))
set_option maxRecDepth 20000 in
set_option maxHeartbeats 4000000 in
theorem tb_139_0_ok (K : xKx) (hK : x_KP K) : ∀ pc, x_EOq cls K xI m_139 pc (tb_139_0 pc) :=
  (x_Tok2
  (x_Tok2
  (x_Lok (x_st (I := xI) (xr_aload_n (i := 0) (x_dk dl_139_0_ok 0 rfl))))
  (x_Tok2
  (x_Lok (x_st (I := xI) (xr_iload_n (i := 1) (x_dk dl_139_0_ok 1 rfl))))
  (x_Lok (x_ca (I := xI) (q' := m_107) rfl (xr_callV (q' := m_107) (ix := 305) (n := 1) (in_t11 (List.mem_of_getElem? (i := 27) rfl) rfl) good_w (in_t1 (List.mem_of_getElem? (i := 14) rfl) rfl) (in_t11 (List.mem_of_getElem? (i := 24) rfl) rfl) (in_t11 (List.mem_of_getElem? (i := 26) rfl) rfl) (in_s8 (List.mem_of_getElem? (i := 2) rfl)) (by decide +kernel) (by decide +kernel) (by decide +kernel) (x_dk dl_139_0_ok 2 rfl))))))
  (x_Tok2
  (x_Lok (x_st (I := xI) (xr_ifeq (off := 15) (tg := 20) (x_dk dl_139_0_ok 3 rfl) (by decide))))
  (x_Tok2
  (x_Lok (x_st (I := xI) (xr_iconst (n := (-1)) (z := (-1)) (v := (-1)) (x_dk dl_139_0_ok 4 rfl) (by decide) (by decide))))
  (x_Lok (x_rt (I := xI) (k := 1) ⟨(x_dk dl_139_0_ok 5 rfl), rfl⟩)))))
def tb_139 : Nat → xE := tb_139_0
theorem tb_139_ok (K : xKx) (hK : x_KP K) : ∀ pc, x_EOq cls K xI m_139 pc (tb_139 pc) := tb_139_0_ok K hK
def dl_140_0 : List (Nat × Instr × Nat) := [(0, .iconst 0, 1), (1, .istore_n 2, 1), (2, .iload_n 1, 1), (3, .istore_n 3, 1), (4, .aload_n 0, 1), (5, .getfield 8, 3), (8, .sipush 224, 3), (11, .iload_n 3, 1), (12, .iadd, 1), (13, .iaload, 1), (14, .ifCond .ne 32, 3), (17, .aload_n 0, 1), (18, .getfield 140, 3), (21, .iload_n 3, 1), (22, .iaload, 1), (23, .ifCond .lt 23, 3), (46, .aload_n 0, 1), (47, .getfield 8, 3), (50, .sipush 224, 3), (53, .iload_n 3, 1), (54, .iadd, 1), (55, .iaload, 1), (56, .iconst 1, 1), (57, .if_icmp .ne 16, 3), (73, .aload_n 0, 1), (74, .getfield 8, 3), (77, .sipush 160, 3), (80, .iload_n 3, 1), (81, .iadd, 1), (82, .iaload, 1), (83, .istore 4, 2), (85, .iload_n 2, 1), (86, .iconst 1, 1), (87, .isub, 1), (88, .istore 5, 2), (90, .iload 5, 2), (92, .ifCond .lt 41, 3), (133, .iload 4, 2), (135, .ireturn, 1)]
set_option maxRecDepth 20000 in
theorem dl_140_0_ok : dl_140_0.all (fun q => decide (decode prog_14_method_56_code q.1 = .ok (q.2.1, q.2.2))) = true := by decide +kernel
def tb_140_0 : Nat → xE := (x_T 50 (x_T 12 (x_T 3 (x_T 1 (x_T 0 (x_L 0 (0, xi_push (0, 0, 0) 1, 0, 0)) (x_L 1 (0, xi_stor 2 0 2, 0, 0))) (x_T 2 (x_L 2 (0, xi_load 1 0 3, 0, 0)) (x_L 3 (0, xi_stor 3 0 4, 0, 0)))) (x_T 5 (x_T 4 (x_L 4 (0, xi_load 0 2 5, 0, 0)) (x_L 5 (0, xi_getf 12 0 8, 0, 0))) (x_T 8 (x_L 8 (0, xi_push (0, 224, 224) 11, 0, 0)) (x_T 11 (x_L 11 (0, xi_load 3 0 12, 0, 0)) (x_L 12 (0, xi_bin xF_add 13, 0, 0)))))) (x_T 21 (x_T 14 (x_T 13 (x_L 13 (0, xi_ald false 14, 0, 0)) (x_L 14 (0, xi_if1 1 46 17, 0, 0))) (x_T 17 (x_L 17 (0, xi_load 0 2 18, 0, 0)) (x_T 18 (x_L 18 (0, xi_getf 12 52 21, 0, 0)) (x_L 21 (0, xi_load 3 0 22, 0, 0))))) (x_T 23 (x_T 22 (x_L 22 (0, xi_ald false 23, 0, 0)) (x_L 23 (0, xi_if1 2 46 26, 0, 0))) (x_T 46 (x_L 46 (0, xi_load 0 2 47, 0, 0)) (x_T 47 (x_L 47 (0, xi_getf 12 0 50, 0, 0)) (x_L 50 (0, xi_push (0, 224, 224) 53, 0, 0))))))) (x_T 81 (x_T 57 (x_T 54 (x_T 53 (x_L 53 (0, xi_load 3 0 54, 0, 0)) (x_L 54 (0, xi_bin xF_add 55, 0, 0))) (x_T 55 (x_L 55 (0, xi_ald false 56, 0, 0)) (x_T 56 (x_L 56 (0, xi_push (0, 1, 1) 57, 0, 0)) (x_L 57 (0, xi_if2 1 73 60, 0, 0))))) (x_T 74 (x_T 73 (x_L 73 (0, xi_load 0 2 74, 0, 0)) (x_L 74 (0, xi_getf 12 0 77, 0, 0))) (x_T 77 (x_L 77 (0, xi_push (0, 160, 160) 80, 0, 0)) (x_T 80 (x_L 80 (0, xi_load 3 0 81, 0, 0)) (x_L 81 (0, xi_bin xF_add 82, 0, 0)))))) (x_T 87 (x_T 83 (x_T 82 (x_L 82 (0, xi_ald false 83, 0, 0)) (x_L 83 (0, xi_stor 4 0 85, 0, 0))) (x_T 85 (x_L 85 (0, xi_load 2 0 86, 0, 0)) (x_T 86 (x_L 86 (0, xi_push (0, 1, 1) 87, 0, 0)) (x_L 87 (0, xi_bin xF_sub 88, 0, 0))))) (x_T 90 (x_T 88 (x_L 88 (0, xi_stor 5 0 90, 0, 0)) (x_L 90 (0, xi_load 5 0 92, 0, 0))) (x_T 92 (x_L 92 (0, xi_if1 2 133 95, 0, 0)) (x_T 133 (x_L 133 (0, xi_load 4 0 135, 0, 0)) (x_L 135 (1, x_nof, 1, 0))))))))
set_option maxRecDepth 20000 in
set_option maxHeartbeats 4000000 in
theorem tb_140_0_ok (K : xKx) (hK : x_KP K) : ∀ pc, x_EOq cls K xI m_140 pc (tb_140_0 pc) :=
  (x_Tok2
  (x_Tok2
  (x_Tok2
  (x_Tok2
  (x_Tok2
  (x_Lok (x_st (I := xI) (xr_iconst (n := 0) (z := 0) (v := 0) (x_dk dl_140_0_ok 0 rfl) (by decide) (by decide))))
  (x_Lok (x_st (I := xI) (xr_istore_n (i := 2) (x_dk dl_140_0_ok 1 rfl) (by decide +kernel)))))
  (x_Tok2
  (x_Lok (x_st (I := xI) (xr_iload_n (i := 1) (x_dk dl_140_0_ok 2 rfl))))
  (x_Lok (x_st (I := xI) (xr_istore_n (i := 3) (x_dk dl_140_0_ok 3 rfl) (by decide +kernel))))))
  (x_Tok2
  (x_Tok2
  (x_Lok (x_st (I := xI) (xr_aload_n (i := 0) (x_dk dl_140_0_ok 4 rfl))))
  (x_Lok (x_st (I := xI) (xr_getf (ci := 12) (k := 0) (ix := 8) (N := 119) (C := RX12) (T := TX12) rfl in_X12 (by decide) (in_t9 (List.mem_of_getElem? (i := 115) rfl) rfl) (x_dk dl_140_0_ok 5 rfl)))))
  (x_Tok2
  (x_Lok (x_st (I := xI) (xr_sipush (n := 224) (z := 224) (v := 224) (x_dk dl_140_0_ok 6 rfl) (by decide) (by decide))))
  (x_Tok2
  (x_Lok (x_st (I := xI) (xr_iload_n (i := 3) (x_dk dl_140_0_ok 7 rfl))))
  (x_Lok (x_st (I := xI) (xr_iadd (x_dk dl_140_0_ok 8 rfl))))))))
  (x_Tok2
  (x_Tok2
  (x_Tok2
  (x_Lok (x_st (I := xI) (xr_iaload (x_dk dl_140_0_ok 9 rfl))))
  (x_Lok (x_st (I := xI) (xr_ifne (off := 32) (tg := 46) (x_dk dl_140_0_ok 10 rfl) (by decide)))))
  (x_Tok2
  (x_Lok (x_st (I := xI) (xr_aload_n (i := 0) (x_dk dl_140_0_ok 11 rfl))))
  (x_Tok2
  (x_Lok (x_st (I := xI) (xr_getf (ci := 12) (k := 52) (ix := 140) (N := 119) (C := RX12) (T := TX12) rfl in_X12 (by decide) (in_t9 (List.mem_of_getElem? (i := 167) rfl) rfl) (x_dk dl_140_0_ok 12 rfl))))
  (x_Lok (x_st (I := xI) (xr_iload_n (i := 3) (x_dk dl_140_0_ok 13 rfl)))))))
  (x_Tok2
  (x_Tok2
  (x_Lok (x_st (I := xI) (xr_iaload (x_dk dl_140_0_ok 14 rfl))))
  (x_Lok (x_st (I := xI) (xr_iflt (off := 23) (tg := 46) (x_dk dl_140_0_ok 15 rfl) (by decide)))))
  (x_Tok2
  (x_Lok (x_st (I := xI) (xr_aload_n (i := 0) (x_dk dl_140_0_ok 16 rfl))))
  (x_Tok2
  (x_Lok (x_st (I := xI) (xr_getf (ci := 12) (k := 0) (ix := 8) (N := 119) (C := RX12) (T := TX12) rfl in_X12 (by decide) (in_t9 (List.mem_of_getElem? (i := 115) rfl) rfl) (x_dk dl_140_0_ok 17 rfl))))
  (x_Lok (x_st (I := xI) (xr_sipush (n := 224) (z := 224) (v := 224) (x_dk dl_140_0_ok 18 rfl) (by decide) (by decide)))))))))
  (x_Tok2
  (x_Tok2
  (x_Tok2
  (x_Tok2
  (x_Lok (x_st (I := xI) (xr_iload_n (i := 3) (x_dk dl_140_0_ok 19 rfl))))
  (x_Lok (x_st (I := xI) (xr_iadd (x_dk dl_140_0_ok 20 rfl)))))
  (x_Tok2
  (x_Lok (x_st (I := xI) (xr_iaload (x_dk dl_140_0_ok 21 rfl))))
  (x_Tok2
  (x_Lok (x_st (I := xI) (xr_iconst (n := 1) (z := 1) (v := 1) (x_dk dl_140_0_ok 22 rfl) (by decide) (by decide))))
  (x_Lok (x_st (I := xI) (xr_icmpne (off := 16) (tg := 73) (x_dk dl_140_0_ok 23 rfl) (by decide)))))))
  (x_Tok2
  (x_Tok2
  (x_Lok (x_st (I := xI) (xr_aload_n (i := 0) (x_dk dl_140_0_ok 24 rfl))))
  (x_Lok (x_st (I := xI) (xr_getf (ci := 12) (k := 0) (ix := 8) (N := 119) (C := RX12) (T := TX12) rfl in_X12 (by decide) (in_t9 (List.mem_of_getElem? (i := 115) rfl) rfl) (x_dk dl_140_0_ok 25 rfl)))))
  (x_Tok2
  (x_Lok (x_st (I := xI) (xr_sipush (n := 160) (z := 160) (v := 160) (x_dk dl_140_0_ok 26 rfl) (by decide) (by decide))))
  (x_Tok2
  (x_Lok (x_st (I := xI) (xr_iload_n (i := 3) (x_dk dl_140_0_ok 27 rfl))))
  (x_Lok (x_st (I := xI) (xr_iadd (x_dk dl_140_0_ok 28 rfl))))))))
  (x_Tok2
  (x_Tok2
  (x_Tok2
  (x_Lok (x_st (I := xI) (xr_iaload (x_dk dl_140_0_ok 29 rfl))))
  (x_Lok (x_st (I := xI) (xr_istore (i := 4) (x_dk dl_140_0_ok 30 rfl) (by decide +kernel)))))
  (x_Tok2
  (x_Lok (x_st (I := xI) (xr_iload_n (i := 2) (x_dk dl_140_0_ok 31 rfl))))
  (x_Tok2
  (x_Lok (x_st (I := xI) (xr_iconst (n := 1) (z := 1) (v := 1) (x_dk dl_140_0_ok 32 rfl) (by decide) (by decide))))
  (x_Lok (x_st (I := xI) (xr_isub (x_dk dl_140_0_ok 33 rfl)))))))
  (x_Tok2
  (x_Tok2
  (x_Lok (x_st (I := xI) (xr_istore (i := 5) (x_dk dl_140_0_ok 34 rfl) (by decide +kernel))))
  (x_Lok (x_st (I := xI) (xr_iload (i := 5) (x_dk dl_140_0_ok 35 rfl)))))
  (x_Tok2
  (x_Lok (x_st (I := xI) (xr_iflt (off := 41) (tg := 133) (x_dk dl_140_0_ok 36 rfl) (by decide))))
  (x_Tok2
  (x_Lok (x_st (I := xI) (xr_iload (i := 4) (x_dk dl_140_0_ok 37 rfl))))
  (x_Lok (x_rt (I := xI) (k := 1) ⟨(x_dk dl_140_0_ok 38 rfl), rfl⟩))))))))
def tb_140 : Nat → xE := tb_140_0
theorem tb_140_ok (K : xKx) (hK : x_KP K) : ∀ pc, x_EOq cls K xI m_140 pc (tb_140 pc) := tb_140_0_ok K hK
def dl_141_0 : List (Nat × Instr × Nat) := [(0, .aload_n 0, 1), (1, .iload_n 1, 1), (2, .invokevirtual 305, 3), (5, .ifCond .ne 5, 3), (8, .iconst (-1), 1), (9, .ireturn, 1)]
set_option maxRecDepth 20000 in
theorem dl_141_0_ok : dl_141_0.all (fun q => decide (decode prog_14_method_93_code q.1 = .ok (q.2.1, q.2.2))) = true := by decide +kernel
def tb_141_0 : Nat → xE := (x_T 2 (x_T 0 (x_L 0 (0, xi_load 0 2 1, 0, 0)) (x_T 1 (x_L 1 (0, xi_load 1 0 2, 0, 0)) (x_L 2 (2, x_nof, 107, 2)))) (x_T 5 (x_L 5 (0, xi_if1 1 10 8, 0, 0)) (x_T 8 (x_L 8 (0, xi_push (0, (-1), (-1)) 9, 0, 0)) (x_L 9 (1, x_nof, 1, 0)))))
set_option maxRecDepth 20000 in
set_option maxHeartbeats 4000000 in
theorem tb_141_0_ok (K : xKx) (hK : x_KP K) : ∀ pc, x_EOq cls K xI m_141 pc (tb_141_0 pc) :=
  (x_Tok2
  (x_Tok2
  (x_Lok (x_st (I := xI) (xr_aload_n (i := 0) (x_dk dl_141_0_ok 0 rfl))))
  (x_Tok2
  (x_Lok (x_st (I := xI) (xr_iload_n (i := 1) (x_dk dl_141_0_ok 1 rfl))))
  (x_Lok (x_ca (I := xI) (q' := m_107) rfl (xr_callV (q' := m_107) (ix := 305) (n := 1) (in_t11 (List.mem_of_getElem? (i := 27) rfl) rfl) good_w (in_t1 (List.mem_of_getElem? (i := 14) rfl) rfl) (in_t11 (List.mem_of_getElem? (i := 24) rfl) rfl) (in_t11 (List.mem_of_getElem? (i := 26) rfl) rfl) (in_s8 (List.mem_of_getElem? (i := 2) rfl)) (by decide +kernel) (by decide +kernel) (by decide +kernel) (x_dk dl_141_0_ok 2 rfl))))))
  (x_Tok2
  (x_Lok (x_st (I := xI) (xr_ifne (off := 5) (tg := 10) (x_dk dl_141_0_ok 3 rfl) (by decide))))
  (x_Tok2
  (x_Lok (x_st (I := xI) (xr_iconst (n := (-1)) (z := (-1)) (v := (-1)) (x_dk dl_141_0_ok 4 rfl) (by decide) (by decide))))
  (x_Lok (x_rt (I := xI) (k := 1) ⟨(x_dk dl_141_0_ok 5 rfl), rfl⟩)))))
def tb_141 : Nat → xE := tb_141_0
theorem tb_141_ok (K : xKx) (hK : x_KP K) : ∀ pc, x_EOq cls K xI m_141 pc (tb_141 pc) := tb_141_0_ok K hK
def dl_142_0 : List (Nat × Instr × Nat) := [(0, .aload_n 0, 1), (1, .getfield 639, 3), (4, .ifCond .eq 13, 3), (17, .iconst (-1), 1), (18, .goto 18, 3), (36, .ireturn, 1)]
set_option maxRecDepth 20000 in
theorem dl_142_0_ok : dl_142_0.all (fun q => decide (decode prog_14_method_94_code q.1 = .ok (q.2.1, q.2.2))) = true := by decide +kernel
def tb_142_0 : Nat → xE := (x_T 4 (x_T 0 (x_L 0 (0, xi_load 0 2 1, 0, 0)) (x_T 1 (x_L 1 (0, xi_getf 12 95 4, 0, 0)) (x_L 4 (0, xi_if1 0 17 7, 0, 0)))) (x_T 17 (x_L 17 (0, xi_push (0, (-1), (-1)) 18, 0, 0)) (x_T 18 (x_L 18 (0, xi_goto 36, 0, 0)) (x_L 36 (1, x_nof, 1, 0)))))
set_option maxRecDepth 20000 in
set_option maxHeartbeats 4000000 in
theorem tb_142_0_ok (K : xKx) (hK : x_KP K) : ∀ pc, x_EOq cls K xI m_142 pc (tb_142_0 pc) :=
  (x_Tok2
  (x_Tok2
  (x_Lok (x_st (I := xI) (xr_aload_n (i := 0) (x_dk dl_142_0_ok 0 rfl))))
  (x_Tok2
  (x_Lok (x_st (I := xI) (xr_getf (ci := 12) (k := 95) (ix := 639) (N := 119) (C := RX12) (T := TX12) rfl in_X12 (by decide) (in_t9 (List.mem_of_getElem? (i := 210) rfl) rfl) (x_dk dl_142_0_ok 1 rfl))))
  (x_Lok (x_st (I := xI) (xr_ifeq (off := 13) (tg := 17) (x_dk dl_142_0_ok 2 rfl) (by decide))))))
  (x_Tok2
  (x_Lok (x_st (I := xI) (xr_iconst (n := (-1)) (z := (-1)) (v := (-1)) (x_dk dl_142_0_ok 3 rfl) (by decide) (by decide))))
  (x_Tok2
  (x_Lok (x_st (I := xI) (xr_goto (off := 18) (tg := 36) (x_dk dl_142_0_ok 4 rfl) (by decide))))
  (x_Lok (x_rt (I := xI) (k := 1) ⟨(x_dk dl_142_0_ok 5 rfl), rfl⟩)))))
def tb_142 : Nat → xE := tb_142_0
theorem tb_142_ok (K : xKx) (hK : x_KP K) : ∀ pc, x_EOq cls K xI m_142 pc (tb_142 pc) := tb_142_0_ok K hK
def dl_143_0 : List (Nat × Instr × Nat) := [(0, .sipush 20576, 3), (3, .iconst 4, 1), (4, .iload_n 0, 1), (5, .imul, 1), (6, .iadd, 1), (7, .ireturn, 1)]
set_option maxRecDepth 20000 in
theorem dl_143_0_ok : dl_143_0.all (fun q => decide (decode prog_14_method_128_code q.1 = .ok (q.2.1, q.2.2))) = true := by decide +kernel
def tb_143_0 : Nat → xE := (x_T 4 (x_T 0 (x_L 0 (0, xi_push (0, 20576, 20576) 3, 0, 0)) (x_T 3 (x_L 3 (0, xi_push (0, 4, 4) 4, 0, 0)) (x_L 4 (0, xi_load 0 0 5, 0, 0)))) (x_T 5 (x_L 5 (0, xi_bin xF_mul 6, 0, 0)) (x_T 6 (x_L 6 (0, xi_bin xF_add 7, 0, 0)) (x_L 7 (1, x_nof, 1, 0)))))
set_option maxRecDepth 20000 in
set_option maxHeartbeats 4000000 in
theorem tb_143_0_ok (K : xKx) (hK : x_KP K) : ∀ pc, x_EOq cls K xI m_143 pc (tb_143_0 pc) :=
  (x_Tok2
  (x_Tok2
  (x_Lok (x_st (I := xI) (xr_sipush (n := 20576) (z := 20576) (v := 20576) (x_dk dl_143_0_ok 0 rfl) (by decide) (by decide))))
  (x_Tok2
  (x_Lok (x_st (I := xI) (xr_iconst (n := 4) (z := 4) (v := 4) (x_dk dl_143_0_ok 1 rfl) (by decide) (by decide))))
  (x_Lok (x_st (I := xI) (xr_iload_n (i := 0) (x_dk dl_143_0_ok 2 rfl))))))
  (x_Tok2
  (x_Lok (x_st (I := xI) (xr_imul (x_dk dl_143_0_ok 3 rfl))))
  (x_Tok2
  (x_Lok (x_st (I := xI) (xr_iadd (x_dk dl_143_0_ok 4 rfl))))
  (x_Lok (x_rt (I := xI) (k := 1) ⟨(x_dk dl_143_0_ok 5 rfl), rfl⟩)))))
def tb_143 : Nat → xE := tb_143_0
theorem tb_143_ok (K : xKx) (hK : x_KP K) : ∀ pc, x_EOq cls K xI m_143 pc (tb_143 pc) := tb_143_0_ok K hK
def dl_144_0 : List (Nat × Instr × Nat) := [(0, .aload_n 0, 1), (1, .getfield 8, 3), (4, .iload_n 1, 1), (5, .invokestatic 774, 3), (8, .bipush 8, 2), (10, .iastore, 1), (11, .aload_n 0, 1), (12, .getfield 8, 3), (15, .iload_n 1, 1), (16, .invokestatic 774, 3), (19, .iconst 1, 1), (20, .iadd, 1), (21, .iload_n 2, 1), (22, .iastore, 1), (23, .aload_n 0, 1), (24, .getfield 8, 3), (27, .iload_n 1, 1), (28, .invokestatic 774, 3), (31, .iconst 2, 1), (32, .iadd, 1), (33, .iload_n 3, 1), (34, .iastore, 1), (35, .aload_n 0, 1), (36, .getfield 8, 3), (39, .iload_n 1, 1), (40, .invokestatic 774, 3), (43, .iconst 3, 1), (44, .iadd, 1), (45, .iconst 0, 1), (46, .iastore, 1), (47, .return_, 1)]
set_option maxRecDepth 20000 in
theorem dl_144_0_ok : dl_144_0.all (fun q => decide (decode prog_14_method_130_code q.1 = .ok (q.2.1, q.2.2))) = true := by decide +kernel
def tb_144_0 : Nat → xE := (x_T 23 (x_T 11 (x_T 4 (x_T 0 (x_L 0 (0, xi_load 0 2 1, 0, 0)) (x_T 1 (x_L 1 (0, xi_getf 12 0 4, 0, 0)) (x_L 4 (0, xi_load 1 0 5, 0, 0)))) (x_T 8 (x_T 5 (x_L 5 (2, x_nof, 143, 1)) (x_L 8 (0, xi_push (0, 8, 8) 10, 0, 0))) (x_T 10 (x_L 10 (0, xi_ast false 11, 0, 0)) (x_L 11 (0, xi_load 0 2 12, 0, 0))))) (x_T 19 (x_T 15 (x_T 12 (x_L 12 (0, xi_getf 12 0 15, 0, 0)) (x_L 15 (0, xi_load 1 0 16, 0, 0))) (x_T 16 (x_L 16 (2, x_nof, 143, 1)) (x_L 19 (0, xi_push (0, 1, 1) 20, 0, 0)))) (x_T 21 (x_T 20 (x_L 20 (0, xi_bin xF_add 21, 0, 0)) (x_L 21 (0, xi_load 2 0 22, 0, 0))) (x_T 22 (x_L 22 (0, xi_ast false 23, 0, 0)) (x_L 23 (0, xi_load 0 2 24, 0, 0)))))) (x_T 35 (x_T 31 (x_T 27 (x_T 24 (x_L 24 (0, xi_getf 12 0 27, 0, 0)) (x_L 27 (0, xi_load 1 0 28, 0, 0))) (x_T 28 (x_L 28 (2, x_nof, 143, 1)) (x_L 31 (0, xi_push (0, 2, 2) 32, 0, 0)))) (x_T 33 (x_T 32 (x_L 32 (0, xi_bin xF_add 33, 0, 0)) (x_L 33 (0, xi_load 3 0 34, 0, 0))) (x_T 34 (x_L 34 (0, xi_ast false 35, 0, 0)) (x_L 35 (0, xi_load 0 2 36, 0, 0))))) (x_T 43 (x_T 39 (x_T 36 (x_L 36 (0, xi_getf 12 0 39, 0, 0)) (x_L 39 (0, xi_load 1 0 40, 0, 0))) (x_T 40 (x_L 40 (2, x_nof, 143, 1)) (x_L 43 (0, xi_push (0, 3, 3) 44, 0, 0)))) (x_T 45 (x_T 44 (x_L 44 (0, xi_bin xF_add 45, 0, 0)) (x_L 45 (0, xi_push (0, 0, 0) 46, 0, 0))) (x_T 46 (x_L 46 (0, xi_ast false 47, 0, 0)) (x_L 47 (1, x_nof, 0, 0)))))))
set_option maxRecDepth 20000 in
set_option maxHeartbeats 4000000 in
theorem tb_144_0_ok (K : xKx) (hK : x_KP K) : ∀ pc, x_EOq cls K xI m_144 pc (tb_144_0 pc) :=
  (x_Tok2
  (x_Tok2
  (x_Tok2
  (x_Tok2
  (x_Lok (x_st (I := xI) (xr_aload_n (i := 0) (x_dk dl_144_0_ok 0 rfl))))
  (x_Tok2
  (x_Lok (x_st (I := xI) (xr_getf (ci := 12) (k := 0) (ix := 8) (N := 119) (C := RX12) (T := TX12) rfl in_X12 (by decide) (in_t9 (List.mem_of_getElem? (i := 115) rfl) rfl) (x_dk dl_144_0_ok 1 rfl))))
  (x_Lok (x_st (I := xI) (xr_iload_n (i := 1) (x_dk dl_144_0_ok 2 rfl))))))
  (x_Tok2
  (x_Tok2
  (x_Lok (x_ca (I := xI) (q' := m_143) rfl (xr_callS (q' := m_143) (ix := 774) (n := 1) (in_t11 (List.mem_of_getElem? (i := 92) rfl) rfl) good_w (in_t1 (List.mem_of_getElem? (i := 14) rfl) rfl) (in_t11 (List.mem_of_getElem? (i := 90) rfl) rfl) (in_t11 (List.mem_of_getElem? (i := 91) rfl) rfl) (by decide +kernel) (by decide +kernel) (x_dk dl_144_0_ok 3 rfl))))
  (x_Lok (x_st (I := xI) (xr_bipush (n := 8) (z := 8) (v := 8) (x_dk dl_144_0_ok 4 rfl) (by decide) (by decide)))))
  (x_Tok2
  (x_Lok (x_st (I := xI) (xr_iastore (x_dk dl_144_0_ok 5 rfl))))
  (x_Lok (x_st (I := xI) (xr_aload_n (i := 0) (x_dk dl_144_0_ok 6 rfl)))))))
  (x_Tok2
  (x_Tok2
  (x_Tok2
  (x_Lok (x_st (I := xI) (xr_getf (ci := 12) (k := 0) (ix := 8) (N := 119) (C := RX12) (T := TX12) rfl in_X12 (by decide) (in_t9 (List.mem_of_getElem? (i := 115) rfl) rfl) (x_dk dl_144_0_ok 7 rfl))))
  (x_Lok (x_st (I := xI) (xr_iload_n (i := 1) (x_dk dl_144_0_ok 8 rfl)))))
  (x_Tok2
  (x_Lok (x_ca (I := xI) (q' := m_143) rfl (xr_callS (q' := m_143) (ix := 774) (n := 1) (in_t11 (List.mem_of_getElem? (i := 92) rfl) rfl) good_w (in_t1 (List.mem_of_getElem? (i := 14) rfl) rfl) (in_t11 (List.mem_of_getElem? (i := 90) rfl) rfl) (in_t11 (List.mem_of_getElem? (i := 91) rfl) rfl) (by decide +kernel) (by decide +kernel) (x_dk dl_144_0_ok 9 rfl))))
  (x_Lok (x_st (I := xI) (xr_iconst (n := 1) (z := 1) (v := 1) (x_dk dl_144_0_ok 10 rfl) (by decide) (by decide))))))
  (x_Tok2
  (x_Tok2
  (x_Lok (x_st (I := xI) (xr_iadd (x_dk dl_144_0_ok 11 rfl))))
  (x_Lok (x_st (I := xI) (xr_iload_n (i := 2) (x_dk dl_144_0_ok 12 rfl)))))
  (x_Tok2
  (x_Lok (x_st (I := xI) (xr_iastore (x_dk dl_144_0_ok 13 rfl))))
  (x_Lok (x_st (I := xI) (xr_aload_n (i := 0) (x_dk dl_144_0_ok 14 rfl))))))))
  (x_Tok2
  (x_Tok2
  (x_Tok2
  (x_Tok2
  (x_Lok (x_st (I := xI) (xr_getf (ci := 12) (k := 0) (ix := 8) (N := 119) (C := RX12) (T := TX12) rfl in_X12 (by decide) (in_t9 (List.mem_of_getElem? (i := 115) rfl) rfl) (x_dk dl_144_0_ok 15 rfl))))
  (x_Lok (x_st (I := xI) (xr_iload_n (i := 1) (x_dk dl_144_0_ok 16 rfl)))))
  (x_Tok2
  (x_Lok (x_ca (I := xI) (q' := m_143) rfl (xr_callS (q' := m_143) (ix := 774) (n := 1) (in_t11 (List.mem_of_getElem? (i := 92) rfl) rfl) good_w (in_t1 (List.mem_of_getElem? (i := 14) rfl) rfl) (in_t11 (List.mem_of_getElem? (i := 90) rfl) rfl) (in_t11 (List.mem_of_getElem? (i := 91) rfl) rfl) (by decide +kernel) (by decide +kernel) (x_dk dl_144_0_ok 17 rfl))))
  (x_Lok (x_st (I := xI) (xr_iconst (n := 2) (z := 2) (v := 2) (x_dk dl_144_0_ok 18 rfl) (by decide) (by decide))))))
  (x_Tok2
  (x_Tok2
  (x_Lok (x_st (I := xI) (xr_iadd (x_dk dl_144_0_ok 19 rfl))))
  (x_Lok (x_st (I := xI) (xr_iload_n (i := 3) (x_dk dl_144_0_ok 20 rfl)))))
  (x_Tok2
  (x_Lok (x_st (I := xI) (xr_iastore (x_dk dl_144_0_ok 21 rfl))))
  (x_Lok (x_st (I := xI) (xr_aload_n (i := 0) (x_dk dl_144_0_ok 22 rfl)))))))
  (x_Tok2
  (x_Tok2
  (x_Tok2
  (x_Lok (x_st (I := xI) (xr_getf (ci := 12) (k := 0) (ix := 8) (N := 119) (C := RX12) (T := TX12) rfl in_X12 (by decide) (in_t9 (List.mem_of_getElem? (i := 115) rfl) rfl) (x_dk dl_144_0_ok 23 rfl))))
  (x_Lok (x_st (I := xI) (xr_iload_n (i := 1) (x_dk dl_144_0_ok 24 rfl)))))
  (x_Tok2
  (x_Lok (x_ca (I := xI) (q' := m_143) rfl (xr_callS (q' := m_143) (ix := 774) (n := 1) (in_t11 (List.mem_of_getElem? (i := 92) rfl) rfl) good_w (in_t1 (List.mem_of_getElem? (i := 14) rfl) rfl) (in_t11 (List.mem_of_getElem? (i := 90) rfl) rfl) (in_t11 (List.mem_of_getElem? (i := 91) rfl) rfl) (by decide +kernel) (by decide +kernel) (x_dk dl_144_0_ok 25 rfl))))
  (x_Lok (x_st (I := xI) (xr_iconst (n := 3) (z := 3) (v := 3) (x_dk dl_144_0_ok 26 rfl) (by decide) (by decide))))))
  (x_Tok2
  (x_Tok2
  (x_Lok (x_st (I := xI) (xr_iadd (x_dk dl_144_0_ok 27 rfl))))
  (x_Lok (x_st (I := xI) (xr_iconst (n := 0) (z := 0) (v := 0) (x_dk dl_144_0_ok 28 rfl) (by decide) (by decide)))))
  (x_Tok2
  (x_Lok (x_st (I := xI) (xr_iastore (x_dk dl_144_0_ok 29 rfl))))
  (x_Lok (x_rt (I := xI) (k := 0) ⟨(x_dk dl_144_0_ok 30 rfl), rfl⟩)))))))
def tb_144 : Nat → xE := tb_144_0
theorem tb_144_ok (K : xKx) (hK : x_KP K) : ∀ pc, x_EOq cls K xI m_144 pc (tb_144 pc) := tb_144_0_ok K hK
def dl_145_0 : List (Nat × Instr × Nat) := [(0, .aload_n 0, 1), (1, .iload_n 1, 1), (2, .invokevirtual 305, 3), (5, .ifCond .eq 27, 3), (32, .iconst (-1), 1), (33, .ireturn, 1)]
set_option maxRecDepth 20000 in
theorem dl_145_0_ok : dl_145_0.all (fun q => decide (decode prog_14_method_154_code q.1 = .ok (q.2.1, q.2.2))) = true := by decide +kernel
def tb_145_0 : Nat → xE := (x_T 2 (x_T 0 (x_L 0 (0, xi_load 0 2 1, 0, 0)) (x_T 1 (x_L 1 (0, xi_load 1 0 2, 0, 0)) (x_L 2 (2, x_nof, 107, 2)))) (x_T 5 (x_L 5 (0, xi_if1 0 32 8, 0, 0)) (x_T 32 (x_L 32 (0, xi_push (0, (-1), (-1)) 33, 0, 0)) (x_L 33 (1, x_nof, 1, 0)))))
set_option maxRecDepth 20000 in
set_option maxHeartbeats 4000000 in
theorem tb_145_0_ok (K : xKx) (hK : x_KP K) : ∀ pc, x_EOq cls K xI m_145 pc (tb_145_0 pc) :=
  (x_Tok2
  (x_Tok2
  (x_Lok (x_st (I := xI) (xr_aload_n (i := 0) (x_dk dl_145_0_ok 0 rfl))))
  (x_Tok2
  (x_Lok (x_st (I := xI) (xr_iload_n (i := 1) (x_dk dl_145_0_ok 1 rfl))))
  (x_Lok (x_ca (I := xI) (q' := m_107) rfl (xr_callV (q' := m_107) (ix := 305) (n := 1) (in_t11 (List.mem_of_getElem? (i := 27) rfl) rfl) good_w (in_t1 (List.mem_of_getElem? (i := 14) rfl) rfl) (in_t11 (List.mem_of_getElem? (i := 24) rfl) rfl) (in_t11 (List.mem_of_getElem? (i := 26) rfl) rfl) (in_s8 (List.mem_of_getElem? (i := 2) rfl)) (by decide +kernel) (by decide +kernel) (by decide +kernel) (x_dk dl_145_0_ok 2 rfl))))))
  (x_Tok2
  (x_Lok (x_st (I := xI) (xr_ifeq (off := 27) (tg := 32) (x_dk dl_145_0_ok 3 rfl) (by decide))))
  (x_Tok2
  (x_Lok (x_st (I := xI) (xr_iconst (n := (-1)) (z := (-1)) (v := (-1)) (x_dk dl_145_0_ok 4 rfl) (by decide) (by decide))))
  (x_Lok (x_rt (I := xI) (k := 1) ⟨(x_dk dl_145_0_ok 5 rfl), rfl⟩)))))
def tb_145 : Nat → xE := tb_145_0
theorem tb_145_ok (K : xKx) (hK : x_KP K) : ∀ pc, x_EOq cls K xI m_145 pc (tb_145 pc) := tb_145_0_ok K hK
def dl_146_0 : List (Nat × Instr × Nat) := [(0, .aload_n 0, 1), (1, .iload_n 1, 1), (2, .invokevirtual 305, 3), (5, .ifCond .ne 5, 3), (8, .iconst (-1), 1), (9, .ireturn, 1)]
set_option maxRecDepth 20000 in
theorem dl_146_0_ok : dl_146_0.all (fun q => decide (decode prog_14_method_155_code q.1 = .ok (q.2.1, q.2.2))) = true := by decide +kernel
def tb_146_0 : Nat → xE := (x_T 2 (x_T 0 (x_L 0 (0, xi_load 0 2 1, 0, 0)) (x_T 1 (x_L 1 (0, xi_load 1 0 2, 0, 0)) (x_L 2 (2, x_nof, 107, 2)))) (x_T 5 (x_L 5 (0, xi_if1 1 10 8, 0, 0)) (x_T 8 (x_L 8 (0, xi_push (0, (-1), (-1)) 9, 0, 0)) (x_L 9 (1, x_nof, 1, 0)))))
set_option maxRecDepth 20000 in
set_option maxHeartbeats 4000000 in
theorem tb_146_0_ok (K : xKx) (hK : x_KP K) : ∀ pc, x_EOq cls K xI m_146 pc (tb_146_0 pc) :=
  (x_Tok2
  (x_Tok2
  (x_Lok (x_st (I := xI) (xr_aload_n (i := 0) (x_dk dl_146_0_ok 0 rfl))))
  (x_Tok2
  (x_Lok (x_st (I := xI) (xr_iload_n (i := 1) (x_dk dl_146_0_ok 1 rfl))))
  (x_Lok (x_ca (I := xI) (q' := m_107) rfl (xr_callV (q' := m_107) (ix := 305) (n := 1) (in_t11 (List.mem_of_getElem? (i := 27) rfl) rfl) good_w (in_t1 (List.mem_of_getElem? (i := 14) rfl) rfl) (in_t11 (List.mem_of_getElem? (i := 24) rfl) rfl) (in_t11 (List.mem_of_getElem? (i := 26) rfl) rfl) (in_s8 (List.mem_of_getElem? (i := 2) rfl)) (by decide +kernel) (by decide +kernel) (by decide +kernel) (x_dk dl_146_0_ok 2 rfl))))))
  (x_Tok2
  (x_Lok (x_st (I := xI) (xr_ifne (off := 5) (tg := 10) (x_dk dl_146_0_ok 3 rfl) (by decide))))
  (x_Tok2
  (x_Lok (x_st (I := xI) (xr_iconst (n := (-1)) (z := (-1)) (v := (-1)) (x_dk dl_146_0_ok 4 rfl) (by decide) (by decide))))
  (x_Lok (x_rt (I := xI) (k := 1) ⟨(x_dk dl_146_0_ok 5 rfl), rfl⟩)))))
def tb_146 : Nat → xE := tb_146_0
theorem tb_146_ok (K : xKx) (hK : x_KP K) : ∀ pc, x_EOq cls K xI m_146 pc (tb_146 pc) := tb_146_0_ok K hK
def dl_147_0 : List (Nat × Instr × Nat) := [(0, .iload_n 1, 1), (1, .i2l, 1), (2, .lconst 0, 1), (3, .ldc2_w 352, 3), (6, .invokestatic 301, 3), (9, .ireturn, 1)]
set_option maxRecDepth 20000 in
theorem dl_147_0_ok : dl_147_0.all (fun q => decide (decode prog_14_method_160_code q.1 = .ok (q.2.1, q.2.2))) = true := by decide +kernel
def tb_147_0 : Nat → xE := (x_T 2 (x_T 0 (x_L 0 (0, xi_load 1 0 1, 0, 0)) (x_T 1 (x_L 1 (0, xi_i2l 2, 0, 0)) (x_L 2 (0, xi_push (4, 0, 0) 3, 0, 0)))) (x_T 3 (x_L 3 (0, xi_push (4, 63, 63) 6, 0, 0)) (x_T 6 (x_L 6 (2, x_nof, 103, 3)) (x_L 9 (1, x_nof, 4, 0)))))
set_option maxRecDepth 20000 in
set_option maxHeartbeats 4000000 in
theorem tb_147_0_ok (K : xKx) (hK : x_KP K) : ∀ pc, x_EOq cls K xI m_147 pc (tb_147_0 pc) :=
  (x_Tok2
  (x_Tok2
  (x_Lok (x_st (I := xI) (xr_iload_n (i := 1) (x_dk dl_147_0_ok 0 rfl))))
  (x_Tok2
  (x_Lok (x_st (I := xI) (xr_i2l (x_dk dl_147_0_ok 1 rfl))))
  (x_Lok (x_st (I := xI) (xr_lconst (n := 0) (z := 0) (v := 0) (x_dk dl_147_0_ok 2 rfl) (by decide) (by decide))))))
  (x_Tok2
  (x_Lok (x_st (I := xI) (xr_ldc2 (ix := 352) (z := 63) (v := 63) (x_dk dl_147_0_ok 3 rfl) (in_t11 (List.mem_of_getElem? (i := 81) rfl) rfl) (by decide))))
  (x_Tok2
  (x_Lok (x_ca (I := xI) (q' := m_103) rfl (xr_callS (q' := m_103) (ix := 301) (n := 3) (in_t11 (List.mem_of_getElem? (i := 7) rfl) rfl) good_w (in_t1 (List.mem_of_getElem? (i := 14) rfl) rfl) (in_t11 (List.mem_of_getElem? (i := 5) rfl) rfl) (in_t11 (List.mem_of_getElem? (i := 6) rfl) rfl) (by decide +kernel) (by decide +kernel) (x_dk dl_147_0_ok 4 rfl))))
  (x_Lok (x_rt (I := xI) (k := 4) ⟨(x_dk dl_147_0_ok 5 rfl), rfl⟩)))))
def tb_147 : Nat → xE := tb_147_0
theorem tb_147_ok (K : xKx) (hK : x_KP K) : ∀ pc, x_EOq cls K xI m_147 pc (tb_147 pc) := tb_147_0_ok K hK
def dl_148_0 : List (Nat × Instr × Nat) := [(0, .aload_n 0, 1), (1, .iload_n 1, 1), (2, .invokevirtual 305, 3), (5, .ifCond .eq 21, 3), (26, .iconst (-1), 1), (27, .ireturn, 1)]
set_option maxRecDepth 20000 in
theorem dl_148_0_ok : dl_148_0.all (fun q => decide (decode prog_14_method_161_code q.1 = .ok (q.2.1, q.2.2))) = true := by decide +kernel
def tb_148_0 : Nat → xE := (x_T 2 (x_T 0 (x_L 0 (0, xi_load 0 2 1, 0, 0)) (x_T 1 (x_L 1 (0, xi_load 1 0 2, 0, 0)) (x_L 2 (2, x_nof, 107, 2)))) (x_T 5 (x_L 5 (0, xi_if1 0 26 8, 0, 0)) (x_T 26 (x_L 26 (0, xi_push (0, (-1), (-1)) 27, 0, 0)) (x_L 27 (1, x_nof, 1, 0)))))
set_option maxRecDepth 20000 in
set_option maxHeartbeats 4000000 in
theorem tb_148_0_ok (K : xKx) (hK : x_KP K) : ∀ pc, x_EOq cls K xI m_148 pc (tb_148_0 pc) :=
  (x_Tok2
  (x_Tok2
  (x_Lok (x_st (I := xI) (xr_aload_n (i := 0) (x_dk dl_148_0_ok 0 rfl))))
  (x_Tok2
  (x_Lok (x_st (I := xI) (xr_iload_n (i := 1) (x_dk dl_148_0_ok 1 rfl))))
  (x_Lok (x_ca (I := xI) (q' := m_107) rfl (xr_callV (q' := m_107) (ix := 305) (n := 1) (in_t11 (List.mem_of_getElem? (i := 27) rfl) rfl) good_w (in_t1 (List.mem_of_getElem? (i := 14) rfl) rfl) (in_t11 (List.mem_of_getElem? (i := 24) rfl) rfl) (in_t11 (List.mem_of_getElem? (i := 26) rfl) rfl) (in_s8 (List.mem_of_getElem? (i := 2) rfl)) (by decide +kernel) (by decide +kernel) (by decide +kernel) (x_dk dl_148_0_ok 2 rfl))))))
  (x_Tok2
  (x_Lok (x_st (I := xI) (xr_ifeq (off := 21) (tg := 26) (x_dk dl_148_0_ok 3 rfl) (by decide))))
  (x_Tok2
  (x_Lok (x_st (I := xI) (xr_iconst (n := (-1)) (z := (-1)) (v := (-1)) (x_dk dl_148_0_ok 4 rfl) (by decide) (by decide))))
  (x_Lok (x_rt (I := xI) (k := 1) ⟨(x_dk dl_148_0_ok 5 rfl), rfl⟩)))))
def tb_148 : Nat → xE := tb_148_0
theorem tb_148_ok (K : xKx) (hK : x_KP K) : ∀ pc, x_EOq cls K xI m_148 pc (tb_148 pc) := tb_148_0_ok K hK
def dl_149_0 : List (Nat × Instr × Nat) := [(0, .iload_n 1, 1), (1, .i2l, 1), (2, .lconst 1, 1), (3, .ldc2_w 365, 3), (6, .invokestatic 301, 3), (9, .ifCond .ne 5, 3), (12, .iconst (-1), 1), (13, .ireturn, 1), (14, .aload_n 0, 1), (15, .getfield 265, 3), (18, .ifCond .ne 6, 3), (21, .bipush (-2), 2), (23, .ireturn, 1)]
set_option maxRecDepth 20000 in
theorem dl_149_0_ok : dl_149_0.all (fun q => decide (decode prog_14_method_162_code q.1 = .ok (q.2.1, q.2.2))) = true := by decide +kernel
def tb_149_0 : Nat → xE := (x_T 9 (x_T 2 (x_T 0 (x_L 0 (0, xi_load 1 0 1, 0, 0)) (x_T 1 (x_L 1 (0, xi_i2l 2, 0, 0)) (x_L 2 (0, xi_push (4, 1, 1) 3, 0, 0)))) (x_T 3 (x_L 3 (0, xi_push (4, 1000, 1000) 6, 0, 0)) (x_T 6 (x_L 6 (2, x_nof, 103, 3)) (x_L 9 (0, xi_if1 1 14 12, 0, 0))))) (x_T 14 (x_T 12 (x_L 12 (0, xi_push (0, (-1), (-1)) 13, 0, 0)) (x_T 13 (x_L 13 (1, x_nof, 1, 0)) (x_L 14 (0, xi_load 0 2 15, 0, 0)))) (x_T 18 (x_T 15 (x_L 15 (0, xi_getf 12 3 18, 0, 0)) (x_L 18 (0, xi_if1 1 24 21, 0, 0))) (x_T 21 (x_L 21 (0, xi_push (0, (-2), (-2)) 23, 0, 0)) (x_L 23 (1, x_nof, 1, 0))))))
set_option maxRecDepth 20000 in
set_option maxHeartbeats 4000000 in
theorem tb_149_0_ok (K : xKx) (hK : x_KP K) : ∀ pc, x_EOq cls K xI m_149 pc (tb_149_0 pc) :=
  (x_Tok2
  (x_Tok2
  (x_Tok2
  (x_Lok (x_st (I := xI) (xr_iload_n (i := 1) (x_dk dl_149_0_ok 0 rfl))))
  (x_Tok2
  (x_Lok (x_st (I := xI) (xr_i2l (x_dk dl_149_0_ok 1 rfl))))
  (x_Lok (x_st (I := xI) (xr_lconst (n := 1) (z := 1) (v := 1) (x_dk dl_149_0_ok 2 rfl) (by decide) (by decide))))))
  (x_Tok2
  (x_Lok (x_st (I := xI) (xr_ldc2 (ix := 365) (z := 1000) (v := 1000) (x_dk dl_149_0_ok 3 rfl) (in_t11 (List.mem_of_getElem? (i := 115) rfl) rfl) (by decide))))
  (x_Tok2
  (x_Lok (x_ca (I := xI) (q' := m_103) rfl (xr_callS (q' := m_103) (ix := 301) (n := 3) (in_t11 (List.mem_of_getElem? (i := 7) rfl) rfl) good_w (in_t1 (List.mem_of_getElem? (i := 14) rfl) rfl) (in_t11 (List.mem_of_getElem? (i := 5) rfl) rfl) (in_t11 (List.mem_of_getElem? (i := 6) rfl) rfl) (by decide +kernel) (by decide +kernel) (x_dk dl_149_0_ok 4 rfl))))
  (x_Lok (x_st (I := xI) (xr_ifne (off := 5) (tg := 14) (x_dk dl_149_0_ok 5 rfl) (by decide)))))))
  (x_Tok2
  (x_Tok2
  (x_Lok (x_st (I := xI) (xr_iconst (n := (-1)) (z := (-1)) (v := (-1)) (x_dk dl_149_0_ok 6 rfl) (by decide) (by decide))))
  (x_Tok2
  (x_Lok (x_rt (I := xI) (k := 1) ⟨(x_dk dl_149_0_ok 7 rfl), rfl⟩))
  (x_Lok (x_st (I := xI) (xr_aload_n (i := 0) (x_dk dl_149_0_ok 8 rfl))))))
  (x_Tok2
  (x_Tok2
  (x_Lok (x_st (I := xI) (xr_getf (ci := 12) (k := 3) (ix := 265) (N := 119) (C := RX12) (T := TX12) rfl in_X12 (by decide) (in_t9 (List.mem_of_getElem? (i := 118) rfl) rfl) (x_dk dl_149_0_ok 9 rfl))))
  (x_Lok (x_st (I := xI) (xr_ifne (off := 6) (tg := 24) (x_dk dl_149_0_ok 10 rfl) (by decide)))))
  (x_Tok2
  (x_Lok (x_st (I := xI) (xr_bipush (n := (-2)) (z := (-2)) (v := (-2)) (x_dk dl_149_0_ok 11 rfl) (by decide) (by decide))))
  (x_Lok (x_rt (I := xI) (k := 1) ⟨(x_dk dl_149_0_ok 12 rfl), rfl⟩))))))
def tb_149 : Nat → xE := tb_149_0
theorem tb_149_ok (K : xKx) (hK : x_KP K) : ∀ pc, x_EOq cls K xI m_149 pc (tb_149 pc) := tb_149_0_ok K hK
def dl_150_0 : List (Nat × Instr × Nat) := [(0, .aload_n 0, 1), (1, .iload_n 1, 1), (2, .invokevirtual 876, 3), (5, .ifCond .ne 5, 3), (8, .iconst (-1), 1), (9, .ireturn, 1), (10, .aload_n 0, 1), (11, .getfield 265, 3), (14, .ifCond .ne 6, 3), (17, .bipush (-2), 2), (19, .ireturn, 1)]
set_option maxRecDepth 20000 in
theorem dl_150_0_ok : dl_150_0.all (fun q => decide (decode prog_14_method_163_code q.1 = .ok (q.2.1, q.2.2))) = true := by decide +kernel
def tb_150_0 : Nat → xE := (x_T 8 (x_T 1 (x_T 0 (x_L 0 (0, xi_load 0 2 1, 0, 0)) (x_L 1 (0, xi_load 1 0 2, 0, 0))) (x_T 2 (x_L 2 (2, x_nof, 147, 2)) (x_T 5 (x_L 5 (0, xi_if1 1 10 8, 0, 0)) (x_L 8 (0, xi_push (0, (-1), (-1)) 9, 0, 0))))) (x_T 11 (x_T 9 (x_L 9 (1, x_nof, 1, 0)) (x_T 10 (x_L 10 (0, xi_load 0 2 11, 0, 0)) (x_L 11 (0, xi_getf 12 3 14, 0, 0)))) (x_T 14 (x_L 14 (0, xi_if1 1 20 17, 0, 0)) (x_T 17 (x_L 17 (0, xi_push (0, (-2), (-2)) 19, 0, 0)) (x_L 19 (1, x_nof, 1, 0))))))
set_option maxRecDepth 20000 in
set_option maxHeartbeats 4000000 in
theorem tb_150_0_ok (K : xKx) (hK : x_KP K) : ∀ pc, x_EOq cls K xI m_150 pc (tb_150_0 pc) :=
  (x_Tok2
  (x_Tok2
  (x_Tok2
  (x_Lok (x_st (I := xI) (xr_aload_n (i := 0) (x_dk dl_150_0_ok 0 rfl))))
  (x_Lok (x_st (I := xI) (xr_iload_n (i := 1) (x_dk dl_150_0_ok 1 rfl)))))
  (x_Tok2
  (x_Lok (x_ca (I := xI) (q' := m_147) rfl (xr_callV (q' := m_147) (ix := 876) (n := 1) (in_t13 (List.mem_of_getElem? (i := 154) rfl) rfl) good_w (in_t1 (List.mem_of_getElem? (i := 14) rfl) rfl) (in_t13 (List.mem_of_getElem? (i := 151) rfl) rfl) (in_t13 (List.mem_of_getElem? (i := 153) rfl) rfl) (in_s15 (List.mem_of_getElem? (i := 0) rfl)) (by decide +kernel) (by decide +kernel) (by decide +kernel) (x_dk dl_150_0_ok 2 rfl))))
  (x_Tok2
  (x_Lok (x_st (I := xI) (xr_ifne (off := 5) (tg := 10) (x_dk dl_150_0_ok 3 rfl) (by decide))))
  (x_Lok (x_st (I := xI) (xr_iconst (n := (-1)) (z := (-1)) (v := (-1)) (x_dk dl_150_0_ok 4 rfl) (by decide) (by decide)))))))
  (x_Tok2
  (x_Tok2
  (x_Lok (x_rt (I := xI) (k := 1) ⟨(x_dk dl_150_0_ok 5 rfl), rfl⟩))
  (x_Tok2
  (x_Lok (x_st (I := xI) (xr_aload_n (i := 0) (x_dk dl_150_0_ok 6 rfl))))
  (x_Lok (x_st (I := xI) (xr_getf (ci := 12) (k := 3) (ix := 265) (N := 119) (C := RX12) (T := TX12) rfl in_X12 (by decide) (in_t9 (List.mem_of_getElem? (i := 118) rfl) rfl) (x_dk dl_150_0_ok 7 rfl))))))
  (x_Tok2
  (x_Lok (x_st (I := xI) (xr_ifne (off := 6) (tg := 20) (x_dk dl_150_0_ok 8 rfl) (by decide))))
  (x_Tok2
  (x_Lok (x_st (I := xI) (xr_bipush (n := (-2)) (z := (-2)) (v := (-2)) (x_dk dl_150_0_ok 9 rfl) (by decide) (by decide))))
  (x_Lok (x_rt (I := xI) (k := 1) ⟨(x_dk dl_150_0_ok 10 rfl), rfl⟩))))))
def tb_150 : Nat → xE := tb_150_0
theorem tb_150_ok (K : xKx) (hK : x_KP K) : ∀ pc, x_EOq cls K xI m_150 pc (tb_150 pc) := tb_150_0_ok K hK
def dl_151_0 : List (Nat × Instr × Nat) := [(0, .aload_n 0, 1), (1, .iload_n 1, 1), (2, .invokevirtual 876, 3), (5, .ifCond .ne 5, 3), (8, .iconst (-1), 1), (9, .ireturn, 1), (10, .aload_n 0, 1), (11, .getfield 265, 3), (14, .ifCond .ne 6, 3), (17, .bipush (-2), 2), (19, .ireturn, 1)]
set_option maxRecDepth 20000 in
theorem dl_151_0_ok : dl_151_0.all (fun q => decide (decode prog_14_method_164_code q.1 = .ok (q.2.1, q.2.2))) = true := by decide +kernel
def tb_151_0 : Nat → xE := (x_T 8 (x_T 1 (x_T 0 (x_L 0 (0, xi_load 0 2 1, 0, 0)) (x_L 1 (0, xi_load 1 0 2, 0, 0))) (x_T 2 (x_L 2 (2, x_nof, 147, 2)) (x_T 5 (x_L 5 (0, xi_if1 1 10 8, 0, 0)) (x_L 8 (0, xi_push (0, (-1), (-1)) 9, 0, 0))))) (x_T 11 (x_T 9 (x_L 9 (1, x_nof, 1, 0)) (x_T 10 (x_L 10 (0, xi_load 0 2 11, 0, 0)) (x_L 11 (0, xi_getf 12 3 14, 0, 0)))) (x_T 14 (x_L 14 (0, xi_if1 1 20 17, 0, 0)) (x_T 17 (x_L 17 (0, xi_push (0, (-2), (-2)) 19, 0, 0)) (x_L 19 (1, x_nof, 1, 0))))))
set_option maxRecDepth 20000 in
set_option maxHeartbeats 4000000 in
theorem tb_151_0_ok (K : xKx) (hK : x_KP K) : ∀ pc, x_EOq cls K xI m_151 pc (tb_151_0 pc) :=
  (x_Tok2
  (x_Tok2
  (x_Tok2
  (x_Lok (x_st (I := xI) (xr_aload_n (i := 0) (x_dk dl_151_0_ok 0 rfl))))
  (x_Lok (x_st (I := xI) (xr_iload_n (i := 1) (x_dk dl_151_0_ok 1 rfl)))))
  (x_Tok2
  (x_Lok (x_ca (I := xI) (q' := m_147) rfl (xr_callV (q' := m_147) (ix := 876) (n := 1) (in_t13 (List.mem_of_getElem? (i := 154) rfl) rfl) good_w (in_t1 (List.mem_of_getElem? (i := 14) rfl) rfl) (in_t13 (List.mem_of_getElem? (i := 151) rfl) rfl) (in_t13 (List.mem_of_getElem? (i := 153) rfl) rfl) (in_s15 (List.mem_of_getElem? (i := 0) rfl)) (by decide +kernel) (by decide +kernel) (by decide +kernel) (x_dk dl_151_0_ok 2 rfl))))
  (x_Tok2
  (x_Lok (x_st (I := xI) (xr_ifne (off := 5) (tg := 10) (x_dk dl_151_0_ok 3 rfl) (by decide))))
  (x_Lok (x_st (I := xI) (xr_iconst (n := (-1)) (z := (-1)) (v := (-1)) (x_dk dl_151_0_ok 4 rfl) (by decide) (by decide)))))))
  (x_Tok2
  (x_Tok2
  (x_Lok (x_rt (I := xI) (k := 1) ⟨(x_dk dl_151_0_ok 5 rfl), rfl⟩))
  (x_Tok2
  (x_Lok (x_st (I := xI) (xr_aload_n (i := 0) (x_dk dl_151_0_ok 6 rfl))))
  (x_Lok (x_st (I := xI) (xr_getf (ci := 12) (k := 3) (ix := 265) (N := 119) (C := RX12) (T := TX12) rfl in_X12 (by decide) (in_t9 (List.mem_of_getElem? (i := 118) rfl) rfl) (x_dk dl_151_0_ok 7 rfl))))))
  (x_Tok2
  (x_Lok (x_st (I := xI) (xr_ifne (off := 6) (tg := 20) (x_dk dl_151_0_ok 8 rfl) (by decide))))
  (x_Tok2
  (x_Lok (x_st (I := xI) (xr_bipush (n := (-2)) (z := (-2)) (v := (-2)) (x_dk dl_151_0_ok 9 rfl) (by decide) (by decide))))
  (x_Lok (x_rt (I := xI) (k := 1) ⟨(x_dk dl_151_0_ok 10 rfl), rfl⟩))))))
def tb_151 : Nat → xE := tb_151_0
theorem tb_151_ok (K : xKx) (hK : x_KP K) : ∀ pc, x_EOq cls K xI m_151 pc (tb_151 pc) := tb_151_0_ok K hK
def dl_152_0 : List (Nat × Instr × Nat) := [(0, .iload_n 1, 1), (1, .i2l, 1), (2, .lconst 0, 1), (3, .aload_n 0, 1), (4, .getfield 285, 3), (7, .iconst 1, 1), (8, .isub, 1), (9, .i2l, 1), (10, .invokestatic 301, 3), (13, .ifCond .ne 5, 3), (16, .iconst (-1), 1), (17, .ireturn, 1)]
set_option maxRecDepth 20000 in
theorem dl_152_0_ok : dl_152_0.all (fun q => decide (decode prog_14_method_165_code q.1 = .ok (q.2.1, q.2.2))) = true := by decide +kernel
def tb_152_0 : Nat → xE := (x_T 7 (x_T 2 (x_T 0 (x_L 0 (0, xi_load 1 0 1, 0, 0)) (x_T 1 (x_L 1 (0, xi_i2l 2, 0, 0)) (x_L 2 (0, xi_push (4, 0, 0) 3, 0, 0)))) (x_T 3 (x_L 3 (0, xi_load 0 2 4, 0, 0)) (x_T 4 (x_L 4 (0, xi_getf 12 49 7, 0, 0)) (x_L 7 (0, xi_push (0, 1, 1) 8, 0, 0))))) (x_T 10 (x_T 8 (x_L 8 (0, xi_bin xF_sub 9, 0, 0)) (x_T 9 (x_L 9 (0, xi_i2l 10, 0, 0)) (x_L 10 (2, x_nof, 103, 3)))) (x_T 13 (x_L 13 (0, xi_if1 1 18 16, 0, 0)) (x_T 16 (x_L 16 (0, xi_push (0, (-1), (-1)) 17, 0, 0)) (x_L 17 (1, x_nof, 1, 0))))))
set_option maxRecDepth 20000 in
set_option maxHeartbeats 4000000 in
theorem tb_152_0_ok (K : xKx) (hK : x_KP K) : ∀ pc, x_EOq cls K xI m_152 pc (tb_152_0 pc) :=
  (x_Tok2
  (x_Tok2
  (x_Tok2
  (x_Lok (x_st (I := xI) (xr_iload_n (i := 1) (x_dk dl_152_0_ok 0 rfl))))
  (x_Tok2
  (x_Lok (x_st (I := xI) (xr_i2l (x_dk dl_152_0_ok 1 rfl))))
  (x_Lok (x_st (I := xI) (xr_lconst (n := 0) (z := 0) (v := 0) (x_dk dl_152_0_ok 2 rfl) (by decide) (by decide))))))
  (x_Tok2
  (x_Lok (x_st (I := xI) (xr_aload_n (i := 0) (x_dk dl_152_0_ok 3 rfl))))
  (x_Tok2
  (x_Lok (x_st (I := xI) (xr_getf (ci := 12) (k := 49) (ix := 285) (N := 119) (C := RX12) (T := TX12) rfl in_X12 (by decide) (in_t9 (List.mem_of_getElem? (i := 164) rfl) rfl) (x_dk dl_152_0_ok 4 rfl))))
  (x_Lok (x_st (I := xI) (xr_iconst (n := 1) (z := 1) (v := 1) (x_dk dl_152_0_ok 5 rfl) (by decide) (by decide)))))))
  (x_Tok2
  (x_Tok2
  (x_Lok (x_st (I := xI) (xr_isub (x_dk dl_152_0_ok 6 rfl))))
  (x_Tok2
  (x_Lok (x_st (I := xI) (xr_i2l (x_dk dl_152_0_ok 7 rfl))))
  (x_Lok (x_ca (I := xI) (q' := m_103) rfl (xr_callS (q' := m_103) (ix := 301) (n := 3) (in_t11 (List.mem_of_getElem? (i := 7) rfl) rfl) good_w (in_t1 (List.mem_of_getElem? (i := 14) rfl) rfl) (in_t11 (List.mem_of_getElem? (i := 5) rfl) rfl) (in_t11 (List.mem_of_getElem? (i := 6) rfl) rfl) (by decide +kernel) (by decide +kernel) (x_dk dl_152_0_ok 8 rfl))))))
  (x_Tok2
  (x_Lok (x_st (I := xI) (xr_ifne (off := 5) (tg := 18) (x_dk dl_152_0_ok 9 rfl) (by decide))))
  (x_Tok2
  (x_Lok (x_st (I := xI) (xr_iconst (n := (-1)) (z := (-1)) (v := (-1)) (x_dk dl_152_0_ok 10 rfl) (by decide) (by decide))))
  (x_Lok (x_rt (I := xI) (k := 1) ⟨(x_dk dl_152_0_ok 11 rfl), rfl⟩))))))
def tb_152 : Nat → xE := tb_152_0
theorem tb_152_ok (K : xKx) (hK : x_KP K) : ∀ pc, x_EOq cls K xI m_152 pc (tb_152 pc) := tb_152_0_ok K hK
end
