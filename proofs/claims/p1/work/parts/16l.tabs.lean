noncomputable section
def dl_60a_0 : List (Nat × Instr × Nat) := [(0, .iload_n 1, 1), (1, .invokestatic 178, 3), (4, .ifCond .eq 10, 3), (7, .iload_n 2, 1), (8, .invokestatic 178, 3), (11, .ifCond .ne 5, 3), (14, .iconst (-1), 1), (15, .ireturn, 1), (16, .aload_n 0, 1), (17, .getfield 91, 3), (20, .ifCond .ne 15, 3), (23, .aload_n 0, 1), (24, .getfield 32, 3), (27, .iload_n 1, 1), (28, .iload_n 2, 1), (29, .invokevirtual 214, 3), (32, .ifCond .ne 6, 3), (35, .bipush (-2), 2), (37, .ireturn, 1)]
set_option maxRecDepth 20000 in
theorem dl_60a_0_ok : dl_60a_0.all (fun q => decide (decode prog_1_method_21_code q.1 = .ok (q.2.1, q.2.2))) = true := by decide +kernel
def tb_60a_0 : Nat → xE := (x_T 16 (x_T 7 (x_T 1 (x_T 0 (x_L 0 (0, xi_load 1 0 1, 0, 0)) (x_L 1 (2, x_nof, 96, 1))) (x_T 4 (x_L 4 (0, xi_if1 0 14 7, 0, 0)) (x_L 7 (0, xi_load 2 0 8, 0, 0)))) (x_T 11 (x_T 8 (x_L 8 (2, x_nof, 96, 1)) (x_L 11 (0, xi_if1 1 16 14, 0, 0))) (x_T 14 (x_L 14 (0, xi_push (0, (-1), (-1)) 15, 0, 0)) (x_T 15 (x_L 15 (1, x_nof, 1, 0)) (x_L 16 (0, xi_load 0 2 17, 0, 0)))))) (x_T 27 (x_T 20 (x_T 17 (x_L 17 (0, xi_getf 11 13 20, 0, 0)) (x_L 20 (0, xi_if1 1 35 23, 0, 0))) (x_T 23 (x_L 23 (0, xi_load 0 2 24, 0, 0)) (x_T 24 (x_L 24 (0, xi_getf 11 3 27, 0, 0)) (x_L 27 (0, xi_load 1 0 28, 0, 0))))) (x_T 29 (x_T 28 (x_L 28 (0, xi_load 2 0 29, 0, 0)) (x_L 29 (2, x_nof, 27, 3))) (x_T 32 (x_L 32 (0, xi_if1 1 38 35, 0, 0)) (x_T 35 (x_L 35 (0, xi_push (0, (-2), (-2)) 37, 0, 0)) (x_L 37 (1, x_nof, 1, 0)))))))
set_option maxRecDepth 20000 in
set_option maxHeartbeats 4000000 in
theorem tb_60a_0_ok (K : xKx) (hK : x_KP K) : ∀ pc, x_EOq cls K xI m_60 pc (tb_60a_0 pc) :=
  (x_Tok2
  (x_Tok2
  (x_Tok2
  (x_Tok2
  (x_Lok (x_st (I := xI) (xr_iload_n (i := 1) (x_dk dl_60a_0_ok 0 rfl))))
  (x_Lok (x_ca (I := xI) (q' := m_96) rfl (xr_callS (q' := m_96) (ix := 178) (n := 1) (in_t5 (List.mem_of_getElem? (i := 22) rfl) rfl) good_w (in_t1 (List.mem_of_getElem? (i := 1) rfl) rfl) (in_t5 (List.mem_of_getElem? (i := 20) rfl) rfl) (in_t5 (List.mem_of_getElem? (i := 21) rfl) rfl) (by decide +kernel) (by decide +kernel) (x_dk dl_60a_0_ok 1 rfl)))))
  (x_Tok2
  (x_Lok (x_st (I := xI) (xr_ifeq (off := 10) (tg := 14) (x_dk dl_60a_0_ok 2 rfl) (by decide))))
  (x_Lok (x_st (I := xI) (xr_iload_n (i := 2) (x_dk dl_60a_0_ok 3 rfl))))))
  (x_Tok2
  (x_Tok2
  (x_Lok (x_ca (I := xI) (q' := m_96) rfl (xr_callS (q' := m_96) (ix := 178) (n := 1) (in_t5 (List.mem_of_getElem? (i := 22) rfl) rfl) good_w (in_t1 (List.mem_of_getElem? (i := 1) rfl) rfl) (in_t5 (List.mem_of_getElem? (i := 20) rfl) rfl) (in_t5 (List.mem_of_getElem? (i := 21) rfl) rfl) (by decide +kernel) (by decide +kernel) (x_dk dl_60a_0_ok 4 rfl))))
  (x_Lok (x_st (I := xI) (xr_ifne (off := 5) (tg := 16) (x_dk dl_60a_0_ok 5 rfl) (by decide)))))
  (x_Tok2
  (x_Lok (x_st (I := xI) (xr_iconst (n := (-1)) (z := (-1)) (v := (-1)) (x_dk dl_60a_0_ok 6 rfl) (by decide) (by decide))))
  (x_Tok2
  (x_Lok (x_rt (I := xI) (k := 1) ⟨(x_dk dl_60a_0_ok 7 rfl), rfl⟩))
  (x_Lok (x_st (I := xI) (xr_aload_n (i := 0) (x_dk dl_60a_0_ok 8 rfl))))))))
  (x_Tok2
  (x_Tok2
  (x_Tok2
  (x_Lok (x_st (I := xI) (xr_getf (ci := 11) (k := 13) (ix := 91) (N := 15) (C := RX11) (T := TX11) rfl in_X11 (by decide) (in_t4 (List.mem_of_getElem? (i := 121) rfl) rfl) (x_dk dl_60a_0_ok 9 rfl))))
  (x_Lok (x_st (I := xI) (xr_ifne (off := 15) (tg := 35) (x_dk dl_60a_0_ok 10 rfl) (by decide)))))
  (x_Tok2
  (x_Lok (x_st (I := xI) (xr_aload_n (i := 0) (x_dk dl_60a_0_ok 11 rfl))))
  (x_Tok2
  (x_Lok (x_st (I := xI) (xr_getf (ci := 11) (k := 3) (ix := 32) (N := 15) (C := RX11) (T := TX11) rfl in_X11 (by decide) (in_t4 (List.mem_of_getElem? (i := 111) rfl) rfl) (x_dk dl_60a_0_ok 12 rfl))))
  (x_Lok (x_st (I := xI) (xr_iload_n (i := 1) (x_dk dl_60a_0_ok 13 rfl)))))))
  (x_Tok2
  (x_Tok2
  (x_Lok (x_st (I := xI) (xr_iload_n (i := 2) (x_dk dl_60a_0_ok 14 rfl))))
  (x_Lok (x_ca (I := xI) (q' := m_27) rfl (xr_callV (q' := m_27) (ix := 214) (n := 2) (in_t5 (List.mem_of_getElem? (i := 62) rfl) rfl) good_w (in_t1 (List.mem_of_getElem? (i := 5) rfl) rfl) (in_t5 (List.mem_of_getElem? (i := 59) rfl) rfl) (in_t5 (List.mem_of_getElem? (i := 60) rfl) rfl) (in_t5 (List.mem_of_getElem? (i := 61) rfl) rfl) (by decide +kernel) (by decide +kernel) (by decide +kernel) (x_dk dl_60a_0_ok 15 rfl)))))
  (x_Tok2
  (x_Lok (x_st (I := xI) (xr_ifne (off := 6) (tg := 38) (x_dk dl_60a_0_ok 16 rfl) (by decide))))
  (x_Tok2
  (x_Lok (x_st (I := xI) (xr_bipush (n := (-2)) (z := (-2)) (v := (-2)) (x_dk dl_60a_0_ok 17 rfl) (by decide) (by decide))))
  (x_Lok (x_rt (I := xI) (k := 1) ⟨(x_dk dl_60a_0_ok 18 rfl), rfl⟩)))))))
def tb_60a : Nat → xE := tb_60a_0
theorem tb_60a_ok (K : xKx) (hK : x_KP K) : ∀ pc, x_EOq cls K xI m_60 pc (tb_60a pc) := tb_60a_0_ok K hK
def dl_27a_0 : List (Nat × Instr × Nat) := [(0, .aload_n 0, 1), (1, .getfield 24, 3), (4, .iload_n 2, 1), (5, .iaload, 1), (6, .ifCond .lt 5, 3), (11, .iload_n 1, 1), (12, .istore_n 3, 1), (13, .iconst 0, 1), (14, .istore 4, 2), (16, .iload 4, 2), (18, .bipush 64, 2), (20, .if_icmp .ge 27, 3), (23, .iload_n 3, 1), (24, .ifCond .lt 23, 3), (27, .iload_n 3, 1), (28, .iload_n 2, 1), (29, .if_icmp .ne 5, 3), (32, .iconst 0, 1), (33, .ireturn, 1)]
set_option maxRecDepth 20000 in
theorem dl_27a_0_ok : dl_27a_0.all (fun q => decide (decode prog_9_method_4_code q.1 = .ok (q.2.1, q.2.2))) = true := by decide +kernel
def tb_27a_0 : Nat → xE := (x_T 14 (x_T 5 (x_T 1 (x_T 0 (x_L 0 (0, xi_load 0 2 1, 0, 0)) (x_L 1 (0, xi_getf 7 4 4, 0, 0))) (x_T 4 (x_L 4 (0, xi_load 2 0 5, 0, 0)) (x_L 5 (0, xi_ald false 6, 0, 0)))) (x_T 11 (x_T 6 (x_L 6 (0, xi_if1 2 11 9, 0, 0)) (x_L 11 (0, xi_load 1 0 12, 0, 0))) (x_T 12 (x_L 12 (0, xi_stor 3 0 13, 0, 0)) (x_T 13 (x_L 13 (0, xi_push (0, 0, 0) 14, 0, 0)) (x_L 14 (0, xi_stor 4 0 16, 0, 0)))))) (x_T 24 (x_T 18 (x_T 16 (x_L 16 (0, xi_load 4 0 18, 0, 0)) (x_L 18 (0, xi_push (0, 64, 64) 20, 0, 0))) (x_T 20 (x_L 20 (0, xi_if2 3 47 23, 0, 0)) (x_T 23 (x_L 23 (0, xi_load 3 0 24, 0, 0)) (x_L 24 (0, xi_if1 2 47 27, 0, 0))))) (x_T 28 (x_T 27 (x_L 27 (0, xi_load 3 0 28, 0, 0)) (x_L 28 (0, xi_load 2 0 29, 0, 0))) (x_T 29 (x_L 29 (0, xi_if2K 1 (3, 1, 0) (3, 2, 0) false 34 32, 0, 0)) (x_T 32 (x_L 32 (0, xi_push (0, 0, 0) 33, 0, 0)) (x_L 33 (1, x_nof, 4, 0)))))))
set_option maxRecDepth 20000 in
set_option maxHeartbeats 4000000 in
theorem tb_27a_0_ok (K : xKx) (hK : x_KP K) (hE : x_KE false K) : ∀ pc, x_EOq cls K xI m_27 pc (tb_27a_0 pc) :=
  (x_Tok2
  (x_Tok2
  (x_Tok2
  (x_Tok2
  (x_Lok (x_st (I := xI) (xr_aload_n (i := 0) (x_dk dl_27a_0_ok 0 rfl))))
  (x_Lok (x_st (I := xI) (xr_getf (ci := 7) (k := 4) (ix := 24) (N := 8) (C := RX7) (T := TX7) rfl in_X7 (by decide) (in_t1 (List.mem_of_getElem? (i := 145) rfl) rfl) (x_dk dl_27a_0_ok 1 rfl)))))
  (x_Tok2
  (x_Lok (x_st (I := xI) (xr_iload_n (i := 2) (x_dk dl_27a_0_ok 2 rfl))))
  (x_Lok (x_st (I := xI) (xr_iaload (x_dk dl_27a_0_ok 3 rfl))))))
  (x_Tok2
  (x_Tok2
  (x_Lok (x_st (I := xI) (xr_iflt (off := 5) (tg := 11) (x_dk dl_27a_0_ok 4 rfl) (by decide))))
  (x_Lok (x_st (I := xI) (xr_iload_n (i := 1) (x_dk dl_27a_0_ok 5 rfl)))))
  (x_Tok2
  (x_Lok (x_st (I := xI) (xr_istore_n (i := 3) (x_dk dl_27a_0_ok 6 rfl) (by decide +kernel))))
  (x_Tok2
  (x_Lok (x_st (I := xI) (xr_iconst (n := 0) (z := 0) (v := 0) (x_dk dl_27a_0_ok 7 rfl) (by decide) (by decide))))
  (x_Lok (x_st (I := xI) (xr_istore (i := 4) (x_dk dl_27a_0_ok 8 rfl) (by decide +kernel))))))))
  (x_Tok2
  (x_Tok2
  (x_Tok2
  (x_Lok (x_st (I := xI) (xr_iload (i := 4) (x_dk dl_27a_0_ok 9 rfl))))
  (x_Lok (x_st (I := xI) (xr_bipush (n := 64) (z := 64) (v := 64) (x_dk dl_27a_0_ok 10 rfl) (by decide) (by decide)))))
  (x_Tok2
  (x_Lok (x_st (I := xI) (xr_icmpge (off := 27) (tg := 47) (x_dk dl_27a_0_ok 11 rfl) (by decide))))
  (x_Tok2
  (x_Lok (x_st (I := xI) (xr_iload_n (i := 3) (x_dk dl_27a_0_ok 12 rfl))))
  (x_Lok (x_st (I := xI) (xr_iflt (off := 23) (tg := 47) (x_dk dl_27a_0_ok 13 rfl) (by decide)))))))
  (x_Tok2
  (x_Tok2
  (x_Lok (x_st (I := xI) (xr_iload_n (i := 3) (x_dk dl_27a_0_ok 14 rfl))))
  (x_Lok (x_st (I := xI) (xr_iload_n (i := 2) (x_dk dl_27a_0_ok 15 rfl)))))
  (x_Tok2
  (x_Lok (x_st (I := xI) (xi_if2K_ok (k := 1) (b := false) (xw_icmpne (off := 5) (tg := 34) (x_dk dl_27a_0_ok 16 rfl) (by decide)) hE (Or.inr rfl) (Or.inr rfl))))
  (x_Tok2
  (x_Lok (x_st (I := xI) (xr_iconst (n := 0) (z := 0) (v := 0) (x_dk dl_27a_0_ok 17 rfl) (by decide) (by decide))))
  (x_Lok (x_rt (I := xI) (k := 4) ⟨(x_dk dl_27a_0_ok 18 rfl), rfl⟩)))))))
def tb_27a : Nat → xE := tb_27a_0
theorem tb_27a_ok (K : xKx) (hK : x_KP K) (hE : x_KE false K) : ∀ pc, x_EOq cls K xI m_27 pc (tb_27a pc) := tb_27a_0_ok K hK hE
def dl_132a_0 : List (Nat × Instr × Nat) := [(0, .iload_n 1, 1), (1, .i2l, 1), (2, .lconst 0, 1), (3, .ldc2_w 352, 3), (6, .invokestatic 301, 3), (9, .ifCond .eq 15, 3), (12, .iload_n 2, 1), (13, .i2l, 1), (14, .lconst 0, 1), (15, .ldc2_w 352, 3), (18, .invokestatic 301, 3), (21, .ifCond .ne 5, 3), (24, .iconst (-1), 1), (25, .ireturn, 1), (26, .iconst 0, 1), (27, .istore 4, 2), (29, .iload_n 1, 1), (30, .istore 5, 2), (32, .iload 5, 2), (34, .ifCond .lt 33, 3), (37, .iload 4, 2), (39, .ifCond .ne 28, 3), (42, .iload 5, 2), (44, .iload_n 2, 1), (45, .if_icmp .ne 7, 3), (48, .iconst 1, 1), (49, .goto 4, 3), (53, .istore 4, 2), (55, .aload_n 0, 1), (56, .getfield 140, 3), (59, .iload 5, 2), (61, .iaload, 1), (62, .istore 5, 2), (64, .goto (-32), 3), (67, .aload_n 0, 1), (68, .getfield 265, 3), (71, .ifCond .ne 17, 3), (74, .aload_n 0, 1), (75, .getfield 140, 3), (78, .iload_n 2, 1), (79, .iaload, 1), (80, .ifCond .ge 8, 3), (83, .iload 4, 2), (85, .ifCond .eq 6, 3), (88, .bipush (-2), 2), (90, .ireturn, 1)]
set_option maxRecDepth 20000 in
theorem dl_132a_0_ok : dl_132a_0.all (fun q => decide (decode prog_14_method_31_code q.1 = .ok (q.2.1, q.2.2))) = true := by decide +kernel
def tb_132a_0 : Nat → xE := (x_T 18 (x_T 6 (x_T 1 (x_T 0 (x_L 0 (0, xi_load 1 0 1, 0, 0)) (x_L 1 (0, xi_i2l 2, 0, 0))) (x_T 2 (x_L 2 (0, xi_push (4, 0, 0) 3, 0, 0)) (x_T 3 (x_L 3 (0, xi_push (4, 63, 63) 6, 0, 0)) (x_L 6 (2, x_nof, 103, 3))))) (x_T 13 (x_T 9 (x_L 9 (0, xi_if1 0 24 12, 0, 0)) (x_T 12 (x_L 12 (0, xi_load 2 0 13, 0, 0)) (x_L 13 (0, xi_i2l 14, 0, 0)))) (x_T 14 (x_L 14 (0, xi_push (4, 0, 0) 15, 0, 0)) (x_T 15 (x_L 15 (0, xi_push (4, 63, 63) 18, 0, 0)) (x_L 18 (2, x_nof, 103, 3)))))) (x_T 29 (x_T 25 (x_T 21 (x_L 21 (0, xi_if1 1 26 24, 0, 0)) (x_T 24 (x_L 24 (0, xi_push (0, (-1), (-1)) 25, 0, 0)) (x_L 25 (1, x_nof, 1, 0)))) (x_T 26 (x_L 26 (0, xi_push (0, 0, 0) 27, 0, 0)) (x_T 27 (x_L 27 (0, xi_stor 4 0 29, 0, 0)) (x_L 29 (0, xi_load 1 0 30, 0, 0))))) (x_T 34 (x_T 30 (x_L 30 (0, xi_stor 5 0 32, 0, 0)) (x_T 32 (x_L 32 (0, xi_load 5 0 34, 0, 0)) (x_L 34 (0, xi_if1 2 67 37, 0, 0)))) (x_T 37 (x_L 37 (0, xi_load 4 0 39, 0, 0)) (x_T 39 (x_L 39 (0, xi_if1 1 67 42, 0, 0)) (x_L 42 (0, xi_load 5 0 44, 0, 0)))))))
set_option maxRecDepth 20000 in
set_option maxHeartbeats 4000000 in
theorem tb_132a_0_ok (K : xKx) (hK : x_KP K) (hE : x_KE false K) : ∀ pc, x_EOq cls K xI m_132 pc (tb_132a_0 pc) :=
  (x_Tok2
  (x_Tok2
  (x_Tok2
  (x_Tok2
  (x_Lok (x_st (I := xI) (xr_iload_n (i := 1) (x_dk dl_132a_0_ok 0 rfl))))
  (x_Lok (x_st (I := xI) (xr_i2l (x_dk dl_132a_0_ok 1 rfl)))))
  (x_Tok2
  (x_Lok (x_st (I := xI) (xr_lconst (n := 0) (z := 0) (v := 0) (x_dk dl_132a_0_ok 2 rfl) (by decide) (by decide))))
  (x_Tok2
  (x_Lok (x_st (I := xI) (xr_ldc2 (ix := 352) (z := 63) (v := 63) (x_dk dl_132a_0_ok 3 rfl) (in_t11 (List.mem_of_getElem? (i := 81) rfl) rfl) (by decide))))
  (x_Lok (x_ca (I := xI) (q' := m_103) rfl (xr_callS (q' := m_103) (ix := 301) (n := 3) (in_t11 (List.mem_of_getElem? (i := 7) rfl) rfl) good_w (in_t1 (List.mem_of_getElem? (i := 14) rfl) rfl) (in_t11 (List.mem_of_getElem? (i := 5) rfl) rfl) (in_t11 (List.mem_of_getElem? (i := 6) rfl) rfl) (by decide +kernel) (by decide +kernel) (x_dk dl_132a_0_ok 4 rfl)))))))
  (x_Tok2
  (x_Tok2
  (x_Lok (x_st (I := xI) (xr_ifeq (off := 15) (tg := 24) (x_dk dl_132a_0_ok 5 rfl) (by decide))))
  (x_Tok2
  (x_Lok (x_st (I := xI) (xr_iload_n (i := 2) (x_dk dl_132a_0_ok 6 rfl))))
  (x_Lok (x_st (I := xI) (xr_i2l (x_dk dl_132a_0_ok 7 rfl))))))
  (x_Tok2
  (x_Lok (x_st (I := xI) (xr_lconst (n := 0) (z := 0) (v := 0) (x_dk dl_132a_0_ok 8 rfl) (by decide) (by decide))))
  (x_Tok2
  (x_Lok (x_st (I := xI) (xr_ldc2 (ix := 352) (z := 63) (v := 63) (x_dk dl_132a_0_ok 9 rfl) (in_t11 (List.mem_of_getElem? (i := 81) rfl) rfl) (by decide))))
  (x_Lok (x_ca (I := xI) (q' := m_103) rfl (xr_callS (q' := m_103) (ix := 301) (n := 3) (in_t11 (List.mem_of_getElem? (i := 7) rfl) rfl) good_w (in_t1 (List.mem_of_getElem? (i := 14) rfl) rfl) (in_t11 (List.mem_of_getElem? (i := 5) rfl) rfl) (in_t11 (List.mem_of_getElem? (i := 6) rfl) rfl) (by decide +kernel) (by decide +kernel) (x_dk dl_132a_0_ok 10 rfl))))))))
  (x_Tok2
  (x_Tok2
  (x_Tok2
  (x_Lok (x_st (I := xI) (xr_ifne (off := 5) (tg := 26) (x_dk dl_132a_0_ok 11 rfl) (by decide))))
  (x_Tok2
  (x_Lok (x_st (I := xI) (xr_iconst (n := (-1)) (z := (-1)) (v := (-1)) (x_dk dl_132a_0_ok 12 rfl) (by decide) (by decide))))
  (x_Lok (x_rt (I := xI) (k := 1) ⟨(x_dk dl_132a_0_ok 13 rfl), rfl⟩))))
  (x_Tok2
  (x_Lok (x_st (I := xI) (xr_iconst (n := 0) (z := 0) (v := 0) (x_dk dl_132a_0_ok 14 rfl) (by decide) (by decide))))
  (x_Tok2
  (x_Lok (x_st (I := xI) (xr_istore (i := 4) (x_dk dl_132a_0_ok 15 rfl) (by decide +kernel))))
  (x_Lok (x_st (I := xI) (xr_iload_n (i := 1) (x_dk dl_132a_0_ok 16 rfl)))))))
  (x_Tok2
  (x_Tok2
  (x_Lok (x_st (I := xI) (xr_istore (i := 5) (x_dk dl_132a_0_ok 17 rfl) (by decide +kernel))))
  (x_Tok2
  (x_Lok (x_st (I := xI) (xr_iload (i := 5) (x_dk dl_132a_0_ok 18 rfl))))
  (x_Lok (x_st (I := xI) (xr_iflt (off := 33) (tg := 67) (x_dk dl_132a_0_ok 19 rfl) (by decide))))))
  (x_Tok2
  (x_Lok (x_st (I := xI) (xr_iload (i := 4) (x_dk dl_132a_0_ok 20 rfl))))
  (x_Tok2
  (x_Lok (x_st (I := xI) (xr_ifne (off := 28) (tg := 67) (x_dk dl_132a_0_ok 21 rfl) (by decide))))
  (x_Lok (x_st (I := xI) (xr_iload (i := 5) (x_dk dl_132a_0_ok 22 rfl)))))))))
def tb_132a_23 : Nat → xE := (x_T 64 (x_T 53 (x_T 45 (x_T 44 (x_L 44 (0, xi_load 2 0 45, 0, 0)) (x_L 45 (0, xi_if2K 1 (3, 1, 0) (3, 2, 0) false 52 48, 0, 0))) (x_T 48 (x_L 48 (0, xi_push (0, 1, 1) 49, 0, 0)) (x_T 49 (x_L 49 (0, xi_goto 53, 0, 0)) (x_L 53 (0, xi_stor 4 0 55, 0, 0))))) (x_T 59 (x_T 55 (x_L 55 (0, xi_load 0 2 56, 0, 0)) (x_T 56 (x_L 56 (0, xi_getf 12 52 59, 0, 0)) (x_L 59 (0, xi_load 5 0 61, 0, 0)))) (x_T 61 (x_L 61 (0, xi_ald false 62, 0, 0)) (x_T 62 (x_L 62 (0, xi_stor 5 0 64, 0, 0)) (x_L 64 (0, xi_goto 32, 0, 0)))))) (x_T 78 (x_T 71 (x_T 67 (x_L 67 (0, xi_load 0 2 68, 0, 0)) (x_T 68 (x_L 68 (0, xi_getf 12 3 71, 0, 0)) (x_L 71 (0, xi_if1 1 88 74, 0, 0)))) (x_T 74 (x_L 74 (0, xi_load 0 2 75, 0, 0)) (x_T 75 (x_L 75 (0, xi_getf 12 52 78, 0, 0)) (x_L 78 (0, xi_load 2 0 79, 0, 0))))) (x_T 83 (x_T 79 (x_L 79 (0, xi_ald false 80, 0, 0)) (x_T 80 (x_L 80 (0, xi_if1 3 88 83, 0, 0)) (x_L 83 (0, xi_load 4 0 85, 0, 0)))) (x_T 85 (x_L 85 (0, xi_if1 0 91 88, 0, 0)) (x_T 88 (x_L 88 (0, xi_push (0, (-2), (-2)) 90, 0, 0)) (x_L 90 (1, x_nof, 1, 0)))))))
set_option maxRecDepth 20000 in
set_option maxHeartbeats 4000000 in
theorem tb_132a_23_ok (K : xKx) (hK : x_KP K) (hE : x_KE false K) : ∀ pc, x_EOq cls K xI m_132 pc (tb_132a_23 pc) :=
  (x_Tok2
  (x_Tok2
  (x_Tok2
  (x_Tok2
  (x_Lok (x_st (I := xI) (xr_iload_n (i := 2) (x_dk dl_132a_0_ok 23 rfl))))
  (x_Lok (x_st (I := xI) (xi_if2K_ok (k := 1) (b := false) (xw_icmpne (off := 7) (tg := 52) (x_dk dl_132a_0_ok 24 rfl) (by decide)) hE (Or.inr rfl) (Or.inr rfl)))))
  (x_Tok2
  (x_Lok (x_st (I := xI) (xr_iconst (n := 1) (z := 1) (v := 1) (x_dk dl_132a_0_ok 25 rfl) (by decide) (by decide))))
  (x_Tok2
  (x_Lok (x_st (I := xI) (xr_goto (off := 4) (tg := 53) (x_dk dl_132a_0_ok 26 rfl) (by decide))))
  (x_Lok (x_st (I := xI) (xr_istore (i := 4) (x_dk dl_132a_0_ok 27 rfl) (by decide +kernel)))))))
  (x_Tok2
  (x_Tok2
  (x_Lok (x_st (I := xI) (xr_aload_n (i := 0) (x_dk dl_132a_0_ok 28 rfl))))
  (x_Tok2
  (x_Lok (x_st (I := xI) (xr_getf (ci := 12) (k := 52) (ix := 140) (N := 119) (C := RX12) (T := TX12) rfl in_X12 (by decide) (in_t9 (List.mem_of_getElem? (i := 167) rfl) rfl) (x_dk dl_132a_0_ok 29 rfl))))
  (x_Lok (x_st (I := xI) (xr_iload (i := 5) (x_dk dl_132a_0_ok 30 rfl))))))
  (x_Tok2
  (x_Lok (x_st (I := xI) (xr_iaload (x_dk dl_132a_0_ok 31 rfl))))
  (x_Tok2
  (x_Lok (x_st (I := xI) (xr_istore (i := 5) (x_dk dl_132a_0_ok 32 rfl) (by decide +kernel))))
  (x_Lok (x_st (I := xI) (xr_goto (off := (-32)) (tg := 32) (x_dk dl_132a_0_ok 33 rfl) (by decide))))))))
  (x_Tok2
  (x_Tok2
  (x_Tok2
  (x_Lok (x_st (I := xI) (xr_aload_n (i := 0) (x_dk dl_132a_0_ok 34 rfl))))
  (x_Tok2
  (x_Lok (x_st (I := xI) (xr_getf (ci := 12) (k := 3) (ix := 265) (N := 119) (C := RX12) (T := TX12) rfl in_X12 (by decide) (in_t9 (List.mem_of_getElem? (i := 118) rfl) rfl) (x_dk dl_132a_0_ok 35 rfl))))
  (x_Lok (x_st (I := xI) (xr_ifne (off := 17) (tg := 88) (x_dk dl_132a_0_ok 36 rfl) (by decide))))))
  (x_Tok2
  (x_Lok (x_st (I := xI) (xr_aload_n (i := 0) (x_dk dl_132a_0_ok 37 rfl))))
  (x_Tok2
  (x_Lok (x_st (I := xI) (xr_getf (ci := 12) (k := 52) (ix := 140) (N := 119) (C := RX12) (T := TX12) rfl in_X12 (by decide) (in_t9 (List.mem_of_getElem? (i := 167) rfl) rfl) (x_dk dl_132a_0_ok 38 rfl))))
  (x_Lok (x_st (I := xI) (xr_iload_n (i := 2) (x_dk dl_132a_0_ok 39 rfl)))))))
  (x_Tok2
  (x_Tok2
  (x_Lok (x_st (I := xI) (xr_iaload (x_dk dl_132a_0_ok 40 rfl))))
  (x_Tok2
  (x_Lok (x_st (I := xI) (xr_ifge (off := 8) (tg := 88) (x_dk dl_132a_0_ok 41 rfl) (by decide))))
  (x_Lok (x_st (I := xI) (xr_iload (i := 4) (x_dk dl_132a_0_ok 42 rfl))))))
  (x_Tok2
  (x_Lok (x_st (I := xI) (xr_ifeq (off := 6) (tg := 91) (x_dk dl_132a_0_ok 43 rfl) (by decide))))
  (x_Tok2
  (x_Lok (x_st (I := xI) (xr_bipush (n := (-2)) (z := (-2)) (v := (-2)) (x_dk dl_132a_0_ok 44 rfl) (by decide) (by decide))))
  (x_Lok (x_rt (I := xI) (k := 1) ⟨(x_dk dl_132a_0_ok 45 rfl), rfl⟩)))))))
def tb_132a : Nat → xE := (x_T 42 tb_132a_0 tb_132a_23)
theorem tb_132a_ok (K : xKx) (hK : x_KP K) (hE : x_KE false K) : ∀ pc, x_EOq cls K xI m_132 pc (tb_132a pc) := (x_Tok2 (tb_132a_0_ok K hK hE) (tb_132a_23_ok K hK hE))
def dl_60b_0 : List (Nat × Instr × Nat) := [(0, .iload_n 1, 1), (1, .invokestatic 178, 3), (4, .ifCond .eq 10, 3), (7, .iload_n 2, 1), (8, .invokestatic 178, 3), (11, .ifCond .ne 5, 3), (14, .iconst (-1), 1), (15, .ireturn, 1), (16, .aload_n 0, 1), (17, .getfield 91, 3), (20, .ifCond .ne 15, 3), (23, .aload_n 0, 1), (24, .getfield 32, 3), (27, .iload_n 1, 1), (28, .iload_n 2, 1), (29, .invokevirtual 214, 3), (32, .ifCond .ne 6, 3), (38, .aload_n 0, 1), (39, .getfield 32, 3), (42, .iload_n 1, 1), (43, .iload_n 2, 1), (44, .iload_n 3, 1), (45, .invokevirtual 219, 3), (48, .iconst 0, 1), (49, .ireturn, 1)]
set_option maxRecDepth 20000 in
theorem dl_60b_0_ok : dl_60b_0.all (fun q => decide (decode prog_1_method_21_code q.1 = .ok (q.2.1, q.2.2))) = true := by decide +kernel
def tb_60b_0 : Nat → xE := (x_T 23 (x_T 11 (x_T 4 (x_T 0 (x_L 0 (0, xi_load 1 0 1, 0, 0)) (x_T 1 (x_L 1 (2, x_nof, 96, 1)) (x_L 4 (0, xi_if1 0 14 7, 0, 0)))) (x_T 7 (x_L 7 (0, xi_load 2 0 8, 0, 0)) (x_T 8 (x_L 8 (2, x_nof, 96, 1)) (x_L 11 (0, xi_if1 1 16 14, 0, 0))))) (x_T 16 (x_T 14 (x_L 14 (0, xi_push (0, (-1), (-1)) 15, 0, 0)) (x_T 15 (x_L 15 (1, x_nof, 1, 0)) (x_L 16 (0, xi_load 0 2 17, 0, 0)))) (x_T 17 (x_L 17 (0, xi_getf 11 13 20, 0, 0)) (x_T 20 (x_L 20 (0, xi_if1 1 35 23, 0, 0)) (x_L 23 (0, xi_load 0 2 24, 0, 0)))))) (x_T 38 (x_T 28 (x_T 24 (x_L 24 (0, xi_getf 11 3 27, 0, 0)) (x_T 27 (x_L 27 (0, xi_load 1 0 28, 0, 0)) (x_L 28 (0, xi_load 2 0 29, 0, 0)))) (x_T 29 (x_L 29 (2, x_nof, 27, 3)) (x_T 32 (x_L 32 (0, xi_if1 1 38 35, 0, 0)) (x_L 38 (0, xi_load 0 2 39, 0, 0))))) (x_T 43 (x_T 39 (x_L 39 (0, xi_getf 11 3 42, 0, 0)) (x_T 42 (x_L 42 (0, xi_load 1 0 43, 0, 0)) (x_L 43 (0, xi_load 2 0 44, 0, 0)))) (x_T 45 (x_T 44 (x_L 44 (0, xi_load 3 0 45, 0, 0)) (x_L 45 (2, x_nof, 28, 4))) (x_T 48 (x_L 48 (0, xi_push (0, 0, 0) 49, 0, 0)) (x_L 49 (1, x_nof, 1, 0)))))))
set_option maxRecDepth 20000 in
set_option maxHeartbeats 4000000 in
theorem tb_60b_0_ok (K : xKx) (hK : x_KP K) : ∀ pc, x_EOq cls K xI m_60 pc (tb_60b_0 pc) :=
  (x_Tok2
  (x_Tok2
  (x_Tok2
  (x_Tok2
  (x_Lok (x_st (I := xI) (xr_iload_n (i := 1) (x_dk dl_60b_0_ok 0 rfl))))
  (x_Tok2
  (x_Lok (x_ca (I := xI) (q' := m_96) rfl (xr_callS (q' := m_96) (ix := 178) (n := 1) (in_t5 (List.mem_of_getElem? (i := 22) rfl) rfl) good_w (in_t1 (List.mem_of_getElem? (i := 1) rfl) rfl) (in_t5 (List.mem_of_getElem? (i := 20) rfl) rfl) (in_t5 (List.mem_of_getElem? (i := 21) rfl) rfl) (by decide +kernel) (by decide +kernel) (x_dk dl_60b_0_ok 1 rfl))))
  (x_Lok (x_st (I := xI) (xr_ifeq (off := 10) (tg := 14) (x_dk dl_60b_0_ok 2 rfl) (by decide))))))
  (x_Tok2
  (x_Lok (x_st (I := xI) (xr_iload_n (i := 2) (x_dk dl_60b_0_ok 3 rfl))))
  (x_Tok2
  (x_Lok (x_ca (I := xI) (q' := m_96) rfl (xr_callS (q' := m_96) (ix := 178) (n := 1) (in_t5 (List.mem_of_getElem? (i := 22) rfl) rfl) good_w (in_t1 (List.mem_of_getElem? (i := 1) rfl) rfl) (in_t5 (List.mem_of_getElem? (i := 20) rfl) rfl) (in_t5 (List.mem_of_getElem? (i := 21) rfl) rfl) (by decide +kernel) (by decide +kernel) (x_dk dl_60b_0_ok 4 rfl))))
  (x_Lok (x_st (I := xI) (xr_ifne (off := 5) (tg := 16) (x_dk dl_60b_0_ok 5 rfl) (by decide)))))))
  (x_Tok2
  (x_Tok2
  (x_Lok (x_st (I := xI) (xr_iconst (n := (-1)) (z := (-1)) (v := (-1)) (x_dk dl_60b_0_ok 6 rfl) (by decide) (by decide))))
  (x_Tok2
  (x_Lok (x_rt (I := xI) (k := 1) ⟨(x_dk dl_60b_0_ok 7 rfl), rfl⟩))
  (x_Lok (x_st (I := xI) (xr_aload_n (i := 0) (x_dk dl_60b_0_ok 8 rfl))))))
  (x_Tok2
  (x_Lok (x_st (I := xI) (xr_getf (ci := 11) (k := 13) (ix := 91) (N := 15) (C := RX11) (T := TX11) rfl in_X11 (by decide) (in_t4 (List.mem_of_getElem? (i := 121) rfl) rfl) (x_dk dl_60b_0_ok 9 rfl))))
  (x_Tok2
  (x_Lok (x_st (I := xI) (xr_ifne (off := 15) (tg := 35) (x_dk dl_60b_0_ok 10 rfl) (by decide))))
  (x_Lok (x_st (I := xI) (xr_aload_n (i := 0) (x_dk dl_60b_0_ok 11 rfl))))))))
  (x_Tok2
  (x_Tok2
  (x_Tok2
  (x_Lok (x_st (I := xI) (xr_getf (ci := 11) (k := 3) (ix := 32) (N := 15) (C := RX11) (T := TX11) rfl in_X11 (by decide) (in_t4 (List.mem_of_getElem? (i := 111) rfl) rfl) (x_dk dl_60b_0_ok 12 rfl))))
  (x_Tok2
  (x_Lok (x_st (I := xI) (xr_iload_n (i := 1) (x_dk dl_60b_0_ok 13 rfl))))
  (x_Lok (x_st (I := xI) (xr_iload_n (i := 2) (x_dk dl_60b_0_ok 14 rfl))))))
  (x_Tok2
  (x_Lok (x_ca (I := xI) (q' := m_27) rfl (xr_callV (q' := m_27) (ix := 214) (n := 2) (in_t5 (List.mem_of_getElem? (i := 62) rfl) rfl) good_w (in_t1 (List.mem_of_getElem? (i := 5) rfl) rfl) (in_t5 (List.mem_of_getElem? (i := 59) rfl) rfl) (in_t5 (List.mem_of_getElem? (i := 60) rfl) rfl) (in_t5 (List.mem_of_getElem? (i := 61) rfl) rfl) (by decide +kernel) (by decide +kernel) (by decide +kernel) (x_dk dl_60b_0_ok 15 rfl))))
  (x_Tok2
  (x_Lok (x_st (I := xI) (xr_ifne (off := 6) (tg := 38) (x_dk dl_60b_0_ok 16 rfl) (by decide))))
  (x_Lok (x_st (I := xI) (xr_aload_n (i := 0) (x_dk dl_60b_0_ok 17 rfl)))))))
  (x_Tok2
  (x_Tok2
  (x_Lok (x_st (I := xI) (xr_getf (ci := 11) (k := 3) (ix := 32) (N := 15) (C := RX11) (T := TX11) rfl in_X11 (by decide) (in_t4 (List.mem_of_getElem? (i := 111) rfl) rfl) (x_dk dl_60b_0_ok 18 rfl))))
  (x_Tok2
  (x_Lok (x_st (I := xI) (xr_iload_n (i := 1) (x_dk dl_60b_0_ok 19 rfl))))
  (x_Lok (x_st (I := xI) (xr_iload_n (i := 2) (x_dk dl_60b_0_ok 20 rfl))))))
  (x_Tok2
  (x_Tok2
  (x_Lok (x_st (I := xI) (xr_iload_n (i := 3) (x_dk dl_60b_0_ok 21 rfl))))
  (x_Lok (x_ca (I := xI) (q' := m_28) rfl (xr_callV (q' := m_28) (ix := 219) (n := 3) (in_t5 (List.mem_of_getElem? (i := 66) rfl) rfl) good_w (in_t1 (List.mem_of_getElem? (i := 5) rfl) rfl) (in_t5 (List.mem_of_getElem? (i := 63) rfl) rfl) (in_t5 (List.mem_of_getElem? (i := 64) rfl) rfl) (in_t5 (List.mem_of_getElem? (i := 65) rfl) rfl) (by decide +kernel) (by decide +kernel) (by decide +kernel) (x_dk dl_60b_0_ok 22 rfl)))))
  (x_Tok2
  (x_Lok (x_st (I := xI) (xr_iconst (n := 0) (z := 0) (v := 0) (x_dk dl_60b_0_ok 23 rfl) (by decide) (by decide))))
  (x_Lok (x_rt (I := xI) (k := 1) ⟨(x_dk dl_60b_0_ok 24 rfl), rfl⟩)))))))
def tb_60b : Nat → xE := tb_60b_0
theorem tb_60b_ok (K : xKx) (hK : x_KP K) : ∀ pc, x_EOq cls K xI m_60 pc (tb_60b pc) := tb_60b_0_ok K hK
def dl_29b_0 : List (Nat × Instr × Nat) := [(0, .iconst 0, 1), (1, .istore_n 1, 1), (2, .iconst 0, 1), (3, .istore_n 2, 1), (4, .iload_n 2, 1), (5, .bipush 64, 2), (7, .if_icmp .ge 28, 3), (10, .aload_n 0, 1), (11, .getfield 24, 3), (14, .iload_n 2, 1), (15, .iaload, 1), (16, .ifCond .ge 13, 3), (19, .aload_n 0, 1), (20, .getfield 34, 3), (23, .iload_n 1, 1), (24, .iload_n 2, 1), (25, .iastore, 1), (26, .iinc 1 1, 3), (29, .iinc 2 1, 3), (32, .goto (-28), 3), (35, .iconst 0, 1), (36, .istore_n 2, 1), (37, .iload_n 2, 1), (38, .iload_n 1, 1), (39, .if_icmp .ge 60, 3), (42, .iload_n 1, 1), (43, .bipush 64, 2), (45, .if_icmp .ge 54, 3), (48, .iconst 0, 1), (49, .istore_n 3, 1), (50, .iload_n 3, 1), (51, .bipush 64, 2), (53, .if_icmp .ge 40, 3), (56, .aload_n 0, 1), (57, .getfield 24, 3), (60, .iload_n 3, 1), (61, .iaload, 1), (62, .aload_n 0, 1), (63, .getfield 34, 3), (66, .iload_n 2, 1), (67, .iaload, 1), (68, .if_icmp .ne 19, 3), (71, .iload_n 1, 1), (72, .bipush 64, 2), (74, .if_icmp .ge 13, 3), (77, .aload_n 0, 1), (78, .getfield 34, 3), (81, .iload_n 1, 1), (82, .iload_n 3, 1), (83, .iastore, 1), (84, .iinc 1 1, 3), (87, .iinc 3 1, 3), (90, .goto (-40), 3), (93, .iinc 2 1, 3), (96, .goto (-59), 3), (99, .return_, 1)]
set_option maxRecDepth 20000 in
theorem dl_29b_0_ok : dl_29b_0.all (fun q => decide (decode prog_9_method_8_code q.1 = .ok (q.2.1, q.2.2))) = true := by decide +kernel
def tb_29b_0 : Nat → xE := (x_T 20 (x_T 7 (x_T 2 (x_T 0 (x_L 0 (0, xi_push (0, 0, 0) 1, 0, 0)) (x_T 1 (x_L 1 (0, xi_stor 1 0 2, 0, 0)) (x_L 2 (0, xi_push (0, 0, 0) 3, 0, 0)))) (x_T 4 (x_T 3 (x_L 3 (0, xi_stor 2 0 4, 0, 0)) (x_L 4 (3, xi_load 2 0 5, 5, 0))) (x_T 5 (x_L 5 (0, xi_push (0, 64, 64) 7, 0, 0)) (x_L 7 (0, xi_if2 3 35 10, 0, 0))))) (x_T 14 (x_T 10 (x_L 10 (0, xi_load 0 2 11, 0, 0)) (x_T 11 (x_L 11 (0, xi_getf 7 4 14, 0, 0)) (x_L 14 (0, xi_load 2 0 15, 0, 0)))) (x_T 16 (x_T 15 (x_L 15 (0, xi_aldH false 16, 0, 0)) (x_L 16 (0, xi_if1 3 29 19, 0, 0))) (x_T 19 (x_L 19 (0, xi_load 0 2 20, 0, 0)) (x_L 20 (0, xi_getf 7 7 23, 0, 0)))))) (x_T 35 (x_T 25 (x_T 23 (x_L 23 (0, xi_load 1 0 24, 0, 0)) (x_T 24 (x_L 24 (0, xi_load 2 0 25, 0, 0)) (x_L 25 (0, xi_rel (xi_ast false 26), 0, 0)))) (x_T 29 (x_T 26 (x_L 26 (0, xi_incT 1 29, 0, 0)) (x_L 29 (0, xi_incT 2 32, 0, 0))) (x_T 32 (x_L 32 (0, xi_goto 4, 0, 0)) (x_L 35 (0, xi_push (0, 0, 0) 36, 0, 0))))) (x_T 38 (x_T 36 (x_L 36 (0, xi_stor 2 0 37, 0, 0)) (x_T 37 (x_L 37 (3, xi_load 2 0 38, 6, 0)) (x_L 38 (0, xi_load 1 0 39, 0, 0)))) (x_T 42 (x_T 39 (x_L 39 (0, xi_if2 3 99 42, 0, 0)) (x_L 42 (0, xi_load 1 0 43, 0, 0))) (x_T 43 (x_L 43 (0, xi_push (0, 64, 64) 45, 0, 0)) (x_L 45 (0, xi_if2 3 99 48, 0, 0)))))))
set_option maxRecDepth 20000 in
set_option maxHeartbeats 4000000 in
theorem tb_29b_0_ok (K : xKx) (hK : x_KP K) : ∀ pc, x_EOq cls K xI m_29 pc (tb_29b_0 pc) :=
  (x_Tok2
  (x_Tok2
  (x_Tok2
  (x_Tok2
  (x_Lok (x_st (I := xI) (xr_iconst (n := 0) (z := 0) (v := 0) (x_dk dl_29b_0_ok 0 rfl) (by decide) (by decide))))
  (x_Tok2
  (x_Lok (x_st (I := xI) (xr_istore_n (i := 1) (x_dk dl_29b_0_ok 1 rfl) (by decide +kernel))))
  (x_Lok (x_st (I := xI) (xr_iconst (n := 0) (z := 0) (v := 0) (x_dk dl_29b_0_ok 2 rfl) (by decide) (by decide))))))
  (x_Tok2
  (x_Tok2
  (x_Lok (x_st (I := xI) (xr_istore_n (i := 2) (x_dk dl_29b_0_ok 3 rfl) (by decide +kernel))))
  (x_Lok (x_lo (I := xI) (L := 5) (xr_iload_n (i := 2) (x_dk dl_29b_0_ok 4 rfl)))))
  (x_Tok2
  (x_Lok (x_st (I := xI) (xr_bipush (n := 64) (z := 64) (v := 64) (x_dk dl_29b_0_ok 5 rfl) (by decide) (by decide))))
  (x_Lok (x_st (I := xI) (xr_icmpge (off := 28) (tg := 35) (x_dk dl_29b_0_ok 6 rfl) (by decide)))))))
  (x_Tok2
  (x_Tok2
  (x_Lok (x_st (I := xI) (xr_aload_n (i := 0) (x_dk dl_29b_0_ok 7 rfl))))
  (x_Tok2
  (x_Lok (x_st (I := xI) (xr_getf (ci := 7) (k := 4) (ix := 24) (N := 8) (C := RX7) (T := TX7) rfl in_X7 (by decide) (in_t1 (List.mem_of_getElem? (i := 145) rfl) rfl) (x_dk dl_29b_0_ok 8 rfl))))
  (x_Lok (x_st (I := xI) (xr_iload_n (i := 2) (x_dk dl_29b_0_ok 9 rfl))))))
  (x_Tok2
  (x_Tok2
  (x_Lok (x_st (I := xI) (xr_ialdH (x_dk dl_29b_0_ok 10 rfl))))
  (x_Lok (x_st (I := xI) (xr_ifge (off := 13) (tg := 29) (x_dk dl_29b_0_ok 11 rfl) (by decide)))))
  (x_Tok2
  (x_Lok (x_st (I := xI) (xr_aload_n (i := 0) (x_dk dl_29b_0_ok 12 rfl))))
  (x_Lok (x_st (I := xI) (xr_getf (ci := 7) (k := 7) (ix := 34) (N := 8) (C := RX7) (T := TX7) rfl in_X7 (by decide) (in_t1 (List.mem_of_getElem? (i := 148) rfl) rfl) (x_dk dl_29b_0_ok 13 rfl))))))))
  (x_Tok2
  (x_Tok2
  (x_Tok2
  (x_Lok (x_st (I := xI) (xr_iload_n (i := 1) (x_dk dl_29b_0_ok 14 rfl))))
  (x_Tok2
  (x_Lok (x_st (I := xI) (xr_iload_n (i := 2) (x_dk dl_29b_0_ok 15 rfl))))
  (x_Lok (x_st (I := xI) (xi_rel_ok (x_hrel hK) (xr_iastore (x_dk dl_29b_0_ok 16 rfl)))))))
  (x_Tok2
  (x_Tok2
  (x_Lok (x_st (I := xI) (xr_iincT (i := 1) (x_hev hK) (x_dk dl_29b_0_ok 17 rfl) (by decide +kernel))))
  (x_Lok (x_st (I := xI) (xr_iincT (i := 2) (x_hev hK) (x_dk dl_29b_0_ok 18 rfl) (by decide +kernel)))))
  (x_Tok2
  (x_Lok (x_st (I := xI) (xr_goto (off := (-28)) (tg := 4) (x_dk dl_29b_0_ok 19 rfl) (by decide))))
  (x_Lok (x_st (I := xI) (xr_iconst (n := 0) (z := 0) (v := 0) (x_dk dl_29b_0_ok 20 rfl) (by decide) (by decide)))))))
  (x_Tok2
  (x_Tok2
  (x_Lok (x_st (I := xI) (xr_istore_n (i := 2) (x_dk dl_29b_0_ok 21 rfl) (by decide +kernel))))
  (x_Tok2
  (x_Lok (x_lo (I := xI) (L := 6) (xr_iload_n (i := 2) (x_dk dl_29b_0_ok 22 rfl))))
  (x_Lok (x_st (I := xI) (xr_iload_n (i := 1) (x_dk dl_29b_0_ok 23 rfl))))))
  (x_Tok2
  (x_Tok2
  (x_Lok (x_st (I := xI) (xr_icmpge (off := 60) (tg := 99) (x_dk dl_29b_0_ok 24 rfl) (by decide))))
  (x_Lok (x_st (I := xI) (xr_iload_n (i := 1) (x_dk dl_29b_0_ok 25 rfl)))))
  (x_Tok2
  (x_Lok (x_st (I := xI) (xr_bipush (n := 64) (z := 64) (v := 64) (x_dk dl_29b_0_ok 26 rfl) (by decide) (by decide))))
  (x_Lok (x_st (I := xI) (xr_icmpge (off := 54) (tg := 99) (x_dk dl_29b_0_ok 27 rfl) (by decide)))))))))
def tb_29b_28 : Nat → xE := (x_T 68 (x_T 57 (x_T 50 (x_T 48 (x_L 48 (0, xi_push (0, 0, 0) 49, 0, 0)) (x_T 49 (x_L 49 (0, xi_stor 3 0 50, 0, 0)) (x_L 50 (3, xi_load 3 0 51, 7, 0)))) (x_T 53 (x_T 51 (x_L 51 (0, xi_push (0, 64, 64) 53, 0, 0)) (x_L 53 (0, xi_if2 3 93 56, 0, 0))) (x_T 56 (x_L 56 (0, xi_load 0 2 57, 0, 0)) (x_L 57 (0, xi_getf 7 4 60, 0, 0))))) (x_T 62 (x_T 60 (x_L 60 (0, xi_load 3 0 61, 0, 0)) (x_T 61 (x_L 61 (0, xi_aldH false 62, 0, 0)) (x_L 62 (0, xi_load 0 2 63, 0, 0)))) (x_T 66 (x_T 63 (x_L 63 (0, xi_getf 7 7 66, 0, 0)) (x_L 66 (0, xi_load 2 0 67, 0, 0))) (x_T 67 (x_L 67 (0, xi_aldH false 68, 0, 0)) (x_L 68 (0, xi_if2 1 87 71, 0, 0)))))) (x_T 82 (x_T 74 (x_T 71 (x_L 71 (0, xi_load 1 0 72, 0, 0)) (x_T 72 (x_L 72 (0, xi_push (0, 64, 64) 74, 0, 0)) (x_L 74 (0, xi_if2 3 87 77, 0, 0)))) (x_T 78 (x_T 77 (x_L 77 (0, xi_load 0 2 78, 0, 0)) (x_L 78 (0, xi_getf 7 7 81, 0, 0))) (x_T 81 (x_L 81 (0, xi_load 1 0 82, 0, 0)) (x_L 82 (0, xi_load 3 0 83, 0, 0))))) (x_T 87 (x_T 83 (x_L 83 (0, xi_ast false 84, 0, 0)) (x_T 84 (x_L 84 (0, xi_incT 1 87, 0, 0)) (x_L 87 (0, xi_incT 3 90, 0, 0)))) (x_T 93 (x_T 90 (x_L 90 (0, xi_goto 50, 0, 0)) (x_L 93 (0, xi_incT 2 96, 0, 0))) (x_T 96 (x_L 96 (0, xi_goto 37, 0, 0)) (x_L 99 (1, x_nof, 0, 0)))))))
set_option maxRecDepth 20000 in
set_option maxHeartbeats 4000000 in
theorem tb_29b_28_ok (K : xKx) (hK : x_KP K) : ∀ pc, x_EOq cls K xI m_29 pc (tb_29b_28 pc) :=
  (x_Tok2
  (x_Tok2
  (x_Tok2
  (x_Tok2
  (x_Lok (x_st (I := xI) (xr_iconst (n := 0) (z := 0) (v := 0) (x_dk dl_29b_0_ok 28 rfl) (by decide) (by decide))))
  (x_Tok2
  (x_Lok (x_st (I := xI) (xr_istore_n (i := 3) (x_dk dl_29b_0_ok 29 rfl) (by decide +kernel))))
  (x_Lok (x_lo (I := xI) (L := 7) (xr_iload_n (i := 3) (x_dk dl_29b_0_ok 30 rfl))))))
  (x_Tok2
  (x_Tok2
  (x_Lok (x_st (I := xI) (xr_bipush (n := 64) (z := 64) (v := 64) (x_dk dl_29b_0_ok 31 rfl) (by decide) (by decide))))
  (x_Lok (x_st (I := xI) (xr_icmpge (off := 40) (tg := 93) (x_dk dl_29b_0_ok 32 rfl) (by decide)))))
  (x_Tok2
  (x_Lok (x_st (I := xI) (xr_aload_n (i := 0) (x_dk dl_29b_0_ok 33 rfl))))
  (x_Lok (x_st (I := xI) (xr_getf (ci := 7) (k := 4) (ix := 24) (N := 8) (C := RX7) (T := TX7) rfl in_X7 (by decide) (in_t1 (List.mem_of_getElem? (i := 145) rfl) rfl) (x_dk dl_29b_0_ok 34 rfl)))))))
  (x_Tok2
  (x_Tok2
  (x_Lok (x_st (I := xI) (xr_iload_n (i := 3) (x_dk dl_29b_0_ok 35 rfl))))
  (x_Tok2
  (x_Lok (x_st (I := xI) (xr_ialdH (x_dk dl_29b_0_ok 36 rfl))))
  (x_Lok (x_st (I := xI) (xr_aload_n (i := 0) (x_dk dl_29b_0_ok 37 rfl))))))
  (x_Tok2
  (x_Tok2
  (x_Lok (x_st (I := xI) (xr_getf (ci := 7) (k := 7) (ix := 34) (N := 8) (C := RX7) (T := TX7) rfl in_X7 (by decide) (in_t1 (List.mem_of_getElem? (i := 148) rfl) rfl) (x_dk dl_29b_0_ok 38 rfl))))
  (x_Lok (x_st (I := xI) (xr_iload_n (i := 2) (x_dk dl_29b_0_ok 39 rfl)))))
  (x_Tok2
  (x_Lok (x_st (I := xI) (xr_ialdH (x_dk dl_29b_0_ok 40 rfl))))
  (x_Lok (x_st (I := xI) (xr_icmpne (off := 19) (tg := 87) (x_dk dl_29b_0_ok 41 rfl) (by decide))))))))
  (x_Tok2
  (x_Tok2
  (x_Tok2
  (x_Lok (x_st (I := xI) (xr_iload_n (i := 1) (x_dk dl_29b_0_ok 42 rfl))))
  (x_Tok2
  (x_Lok (x_st (I := xI) (xr_bipush (n := 64) (z := 64) (v := 64) (x_dk dl_29b_0_ok 43 rfl) (by decide) (by decide))))
  (x_Lok (x_st (I := xI) (xr_icmpge (off := 13) (tg := 87) (x_dk dl_29b_0_ok 44 rfl) (by decide))))))
  (x_Tok2
  (x_Tok2
  (x_Lok (x_st (I := xI) (xr_aload_n (i := 0) (x_dk dl_29b_0_ok 45 rfl))))
  (x_Lok (x_st (I := xI) (xr_getf (ci := 7) (k := 7) (ix := 34) (N := 8) (C := RX7) (T := TX7) rfl in_X7 (by decide) (in_t1 (List.mem_of_getElem? (i := 148) rfl) rfl) (x_dk dl_29b_0_ok 46 rfl)))))
  (x_Tok2
  (x_Lok (x_st (I := xI) (xr_iload_n (i := 1) (x_dk dl_29b_0_ok 47 rfl))))
  (x_Lok (x_st (I := xI) (xr_iload_n (i := 3) (x_dk dl_29b_0_ok 48 rfl)))))))
  (x_Tok2
  (x_Tok2
  (x_Lok (x_st (I := xI) (xr_iastore (x_dk dl_29b_0_ok 49 rfl))))
  (x_Tok2
  (x_Lok (x_st (I := xI) (xr_iincT (i := 1) (x_hev hK) (x_dk dl_29b_0_ok 50 rfl) (by decide +kernel))))
  (x_Lok (x_st (I := xI) (xr_iincT (i := 3) (x_hev hK) (x_dk dl_29b_0_ok 51 rfl) (by decide +kernel))))))
  (x_Tok2
  (x_Tok2
  (x_Lok (x_st (I := xI) (xr_goto (off := (-40)) (tg := 50) (x_dk dl_29b_0_ok 52 rfl) (by decide))))
  (x_Lok (x_st (I := xI) (xr_iincT (i := 2) (x_hev hK) (x_dk dl_29b_0_ok 53 rfl) (by decide +kernel)))))
  (x_Tok2
  (x_Lok (x_st (I := xI) (xr_goto (off := (-59)) (tg := 37) (x_dk dl_29b_0_ok 54 rfl) (by decide))))
  (x_Lok (x_rt (I := xI) (k := 0) ⟨(x_dk dl_29b_0_ok 55 rfl), rfl⟩)))))))
def tb_29b : Nat → xE := (x_T 45 tb_29b_0 tb_29b_28)
theorem tb_29b_ok (K : xKx) (hK : x_KP K) : ∀ pc, x_EOq cls K xI m_29 pc (tb_29b pc) := (x_Tok2 (tb_29b_0_ok K hK) (tb_29b_28_ok K hK))
def dl_27b_0 : List (Nat × Instr × Nat) := [(0, .aload_n 0, 1), (1, .getfield 24, 3), (4, .iload_n 2, 1), (5, .iaload, 1), (6, .ifCond .lt 5, 3), (11, .iload_n 1, 1), (12, .istore_n 3, 1), (13, .iconst 0, 1), (14, .istore 4, 2), (16, .iload 4, 2), (18, .bipush 64, 2), (20, .if_icmp .ge 27, 3), (23, .iload_n 3, 1), (24, .ifCond .lt 23, 3), (27, .iload_n 3, 1), (28, .iload_n 2, 1), (29, .if_icmp .ne 5, 3), (34, .aload_n 0, 1), (35, .getfield 24, 3), (38, .iload_n 3, 1), (39, .iaload, 1), (40, .istore_n 3, 1), (41, .iinc 4 1, 3), (44, .goto (-28), 3), (47, .iconst 1, 1), (48, .ireturn, 1)]
set_option maxRecDepth 20000 in
theorem dl_27b_0_ok : dl_27b_0.all (fun q => decide (decode prog_9_method_4_code q.1 = .ok (q.2.1, q.2.2))) = true := by decide +kernel
def tb_27b_0 : Nat → xE := (x_T 23 (x_T 11 (x_T 4 (x_T 0 (x_L 0 (0, xi_load 0 2 1, 0, 0)) (x_T 1 (x_L 1 (0, xi_getf 7 4 4, 0, 0)) (x_L 4 (0, xi_load 2 0 5, 0, 0)))) (x_T 5 (x_L 5 (0, xi_ald false 6, 0, 0)) (x_T 6 (x_L 6 (0, xi_if1 2 11 9, 0, 0)) (x_L 11 (0, xi_load 1 0 12, 0, 0))))) (x_T 14 (x_T 12 (x_L 12 (0, xi_stor 3 0 13, 0, 0)) (x_T 13 (x_L 13 (0, xi_push (0, 0, 0) 14, 0, 0)) (x_L 14 (0, xi_stor 4 0 16, 0, 0)))) (x_T 18 (x_T 16 (x_L 16 (0, xi_load 4 0 18, 0, 0)) (x_L 18 (0, xi_push (0, 64, 64) 20, 0, 0))) (x_T 20 (x_L 20 (0, xi_if2 3 47 23, 0, 0)) (x_L 23 (0, xi_load 3 0 24, 0, 0)))))) (x_T 35 (x_T 28 (x_T 24 (x_L 24 (0, xi_if1 2 47 27, 0, 0)) (x_T 27 (x_L 27 (0, xi_load 3 0 28, 0, 0)) (x_L 28 (0, xi_load 2 0 29, 0, 0)))) (x_T 29 (x_L 29 (0, xi_if2K 1 (3, 1, 0) (3, 2, 0) true 34 32, 0, 0)) (x_T 34 (x_L 34 (0, xi_load 0 2 35, 0, 0)) (x_L 35 (0, xi_getf 7 4 38, 0, 0))))) (x_T 40 (x_T 38 (x_L 38 (0, xi_load 3 0 39, 0, 0)) (x_T 39 (x_L 39 (0, xi_ald false 40, 0, 0)) (x_L 40 (0, xi_stor 3 0 41, 0, 0)))) (x_T 44 (x_T 41 (x_L 41 (0, xi_inc 4 1 44, 0, 0)) (x_L 44 (0, xi_goto 16, 0, 0))) (x_T 47 (x_L 47 (0, xi_push (0, 1, 1) 48, 0, 0)) (x_L 48 (1, x_nof, 4, 0)))))))
set_option maxRecDepth 20000 in
set_option maxHeartbeats 4000000 in
theorem tb_27b_0_ok (K : xKx) (hK : x_KP K) (hE : x_KE true K) : ∀ pc, x_EOq cls K xI m_27 pc (tb_27b_0 pc) :=
  (x_Tok2
  (x_Tok2
  (x_Tok2
  (x_Tok2
  (x_Lok (x_st (I := xI) (xr_aload_n (i := 0) (x_dk dl_27b_0_ok 0 rfl))))
  (x_Tok2
  (x_Lok (x_st (I := xI) (xr_getf (ci := 7) (k := 4) (ix := 24) (N := 8) (C := RX7) (T := TX7) rfl in_X7 (by decide) (in_t1 (List.mem_of_getElem? (i := 145) rfl) rfl) (x_dk dl_27b_0_ok 1 rfl))))
  (x_Lok (x_st (I := xI) (xr_iload_n (i := 2) (x_dk dl_27b_0_ok 2 rfl))))))
  (x_Tok2
  (x_Lok (x_st (I := xI) (xr_iaload (x_dk dl_27b_0_ok 3 rfl))))
  (x_Tok2
  (x_Lok (x_st (I := xI) (xr_iflt (off := 5) (tg := 11) (x_dk dl_27b_0_ok 4 rfl) (by decide))))
  (x_Lok (x_st (I := xI) (xr_iload_n (i := 1) (x_dk dl_27b_0_ok 5 rfl)))))))
  (x_Tok2
  (x_Tok2
  (x_Lok (x_st (I := xI) (xr_istore_n (i := 3) (x_dk dl_27b_0_ok 6 rfl) (by decide +kernel))))
  (x_Tok2
  (x_Lok (x_st (I := xI) (xr_iconst (n := 0) (z := 0) (v := 0) (x_dk dl_27b_0_ok 7 rfl) (by decide) (by decide))))
  (x_Lok (x_st (I := xI) (xr_istore (i := 4) (x_dk dl_27b_0_ok 8 rfl) (by decide +kernel))))))
  (x_Tok2
  (x_Tok2
  (x_Lok (x_st (I := xI) (xr_iload (i := 4) (x_dk dl_27b_0_ok 9 rfl))))
  (x_Lok (x_st (I := xI) (xr_bipush (n := 64) (z := 64) (v := 64) (x_dk dl_27b_0_ok 10 rfl) (by decide) (by decide)))))
  (x_Tok2
  (x_Lok (x_st (I := xI) (xr_icmpge (off := 27) (tg := 47) (x_dk dl_27b_0_ok 11 rfl) (by decide))))
  (x_Lok (x_st (I := xI) (xr_iload_n (i := 3) (x_dk dl_27b_0_ok 12 rfl))))))))
  (x_Tok2
  (x_Tok2
  (x_Tok2
  (x_Lok (x_st (I := xI) (xr_iflt (off := 23) (tg := 47) (x_dk dl_27b_0_ok 13 rfl) (by decide))))
  (x_Tok2
  (x_Lok (x_st (I := xI) (xr_iload_n (i := 3) (x_dk dl_27b_0_ok 14 rfl))))
  (x_Lok (x_st (I := xI) (xr_iload_n (i := 2) (x_dk dl_27b_0_ok 15 rfl))))))
  (x_Tok2
  (x_Lok (x_st (I := xI) (xi_if2K_ok (k := 1) (b := true) (xw_icmpne (off := 5) (tg := 34) (x_dk dl_27b_0_ok 16 rfl) (by decide)) hE (Or.inr rfl) (Or.inr rfl))))
  (x_Tok2
  (x_Lok (x_st (I := xI) (xr_aload_n (i := 0) (x_dk dl_27b_0_ok 17 rfl))))
  (x_Lok (x_st (I := xI) (xr_getf (ci := 7) (k := 4) (ix := 24) (N := 8) (C := RX7) (T := TX7) rfl in_X7 (by decide) (in_t1 (List.mem_of_getElem? (i := 145) rfl) rfl) (x_dk dl_27b_0_ok 18 rfl)))))))
  (x_Tok2
  (x_Tok2
  (x_Lok (x_st (I := xI) (xr_iload_n (i := 3) (x_dk dl_27b_0_ok 19 rfl))))
  (x_Tok2
  (x_Lok (x_st (I := xI) (xr_iaload (x_dk dl_27b_0_ok 20 rfl))))
  (x_Lok (x_st (I := xI) (xr_istore_n (i := 3) (x_dk dl_27b_0_ok 21 rfl) (by decide +kernel))))))
  (x_Tok2
  (x_Tok2
  (x_Lok (x_st (I := xI) (xr_iinc (i := 4) (n := 1) (x_dk dl_27b_0_ok 22 rfl) (by decide +kernel) (by decide))))
  (x_Lok (x_st (I := xI) (xr_goto (off := (-28)) (tg := 16) (x_dk dl_27b_0_ok 23 rfl) (by decide)))))
  (x_Tok2
  (x_Lok (x_st (I := xI) (xr_iconst (n := 1) (z := 1) (v := 1) (x_dk dl_27b_0_ok 24 rfl) (by decide) (by decide))))
  (x_Lok (x_rt (I := xI) (k := 4) ⟨(x_dk dl_27b_0_ok 25 rfl), rfl⟩)))))))
def tb_27b : Nat → xE := tb_27b_0
theorem tb_27b_ok (K : xKx) (hK : x_KP K) (hE : x_KE true K) : ∀ pc, x_EOq cls K xI m_27 pc (tb_27b pc) := tb_27b_0_ok K hK hE
def dl_28b_0 : List (Nat × Instr × Nat) := [(0, .aload_n 0, 1), (1, .getfield 24, 3), (4, .iload_n 2, 1), (5, .iload_n 1, 1), (6, .iastore, 1), (7, .aload_n 0, 1), (8, .getfield 31, 3), (11, .iload_n 2, 1), (12, .iload_n 3, 1), (13, .bastore, 1), (14, .aload_n 0, 1), (15, .invokevirtual 43, 3), (18, .aload_n 0, 1), (19, .invokevirtual 49, 3), (22, .return_, 1)]
set_option maxRecDepth 20000 in
theorem dl_28b_0_ok : dl_28b_0.all (fun q => decide (decode prog_9_method_5_code q.1 = .ok (q.2.1, q.2.2))) = true := by decide +kernel
def tb_28b_0 : Nat → xE := (x_T 8 (x_T 4 (x_T 0 (x_L 0 (0, xi_load 0 2 1, 0, 0)) (x_T 1 (x_L 1 (0, xi_getf 7 4 4, 0, 0)) (x_L 4 (0, xi_load 2 0 5, 0, 0)))) (x_T 6 (x_T 5 (x_L 5 (0, xi_load 1 0 6, 0, 0)) (x_L 6 (0, xi_ast false 7, 0, 0))) (x_T 7 (x_L 7 (0, xi_load 0 2 8, 0, 0)) (x_L 8 (0, xi_getf 7 6 11, 0, 0))))) (x_T 14 (x_T 12 (x_T 11 (x_L 11 (0, xi_load 2 0 12, 0, 0)) (x_L 12 (0, xi_load 3 0 13, 0, 0))) (x_T 13 (x_L 13 (0, xi_ast true 14, 0, 0)) (x_L 14 (0, xi_load 0 2 15, 0, 0)))) (x_T 18 (x_T 15 (x_L 15 (2, x_nof, 29, 1)) (x_L 18 (0, xi_load 0 2 19, 0, 0))) (x_T 19 (x_L 19 (2, x_nof, 26, 1)) (x_L 22 (1, x_nof, 0, 0))))))
set_option maxRecDepth 20000 in
set_option maxHeartbeats 4000000 in
theorem tb_28b_0_ok (K : xKx) (hK : x_KP K) : ∀ pc, x_EOq cls K xI m_28 pc (tb_28b_0 pc) :=
  (x_Tok2
  (x_Tok2
  (x_Tok2
  (x_Lok (x_st (I := xI) (xr_aload_n (i := 0) (x_dk dl_28b_0_ok 0 rfl))))
  (x_Tok2
  (x_Lok (x_st (I := xI) (xr_getf (ci := 7) (k := 4) (ix := 24) (N := 8) (C := RX7) (T := TX7) rfl in_X7 (by decide) (in_t1 (List.mem_of_getElem? (i := 145) rfl) rfl) (x_dk dl_28b_0_ok 1 rfl))))
  (x_Lok (x_st (I := xI) (xr_iload_n (i := 2) (x_dk dl_28b_0_ok 2 rfl))))))
  (x_Tok2
  (x_Tok2
  (x_Lok (x_st (I := xI) (xr_iload_n (i := 1) (x_dk dl_28b_0_ok 3 rfl))))
  (x_Lok (x_st (I := xI) (xr_iastore (x_dk dl_28b_0_ok 4 rfl)))))
  (x_Tok2
  (x_Lok (x_st (I := xI) (xr_aload_n (i := 0) (x_dk dl_28b_0_ok 5 rfl))))
  (x_Lok (x_st (I := xI) (xr_getf (ci := 7) (k := 6) (ix := 31) (N := 8) (C := RX7) (T := TX7) rfl in_X7 (by decide) (in_t1 (List.mem_of_getElem? (i := 147) rfl) rfl) (x_dk dl_28b_0_ok 6 rfl)))))))
  (x_Tok2
  (x_Tok2
  (x_Tok2
  (x_Lok (x_st (I := xI) (xr_iload_n (i := 2) (x_dk dl_28b_0_ok 7 rfl))))
  (x_Lok (x_st (I := xI) (xr_iload_n (i := 3) (x_dk dl_28b_0_ok 8 rfl)))))
  (x_Tok2
  (x_Lok (x_st (I := xI) (xr_bastore (x_dk dl_28b_0_ok 9 rfl))))
  (x_Lok (x_st (I := xI) (xr_aload_n (i := 0) (x_dk dl_28b_0_ok 10 rfl))))))
  (x_Tok2
  (x_Tok2
  (x_Lok (x_ca (I := xI) (q' := m_29) rfl (xr_callV (q' := m_29) (ix := 43) (n := 0) (in_t4 (List.mem_of_getElem? (i := 48) rfl) rfl) good_w (in_t1 (List.mem_of_getElem? (i := 5) rfl) rfl) (in_t4 (List.mem_of_getElem? (i := 45) rfl) rfl) (in_t4 (List.mem_of_getElem? (i := 47) rfl) rfl) (in_s1 (List.mem_of_getElem? (i := 1) rfl)) (by decide +kernel) (by decide +kernel) (by decide +kernel) (x_dk dl_28b_0_ok 11 rfl))))
  (x_Lok (x_st (I := xI) (xr_aload_n (i := 0) (x_dk dl_28b_0_ok 12 rfl)))))
  (x_Tok2
  (x_Lok (x_ca (I := xI) (q' := m_26) rfl (xr_callV (q' := m_26) (ix := 49) (n := 0) (in_t4 (List.mem_of_getElem? (i := 62) rfl) rfl) good_w (in_t1 (List.mem_of_getElem? (i := 5) rfl) rfl) (in_t5 (List.mem_of_getElem? (i := 67) rfl) rfl) (in_t4 (List.mem_of_getElem? (i := 60) rfl) rfl) (in_t4 (List.mem_of_getElem? (i := 61) rfl) rfl) (by decide +kernel) (by decide +kernel) (by decide +kernel) (x_dk dl_28b_0_ok 13 rfl))))
  (x_Lok (x_rt (I := xI) (k := 0) ⟨(x_dk dl_28b_0_ok 14 rfl), rfl⟩))))))
def tb_28b : Nat → xE := tb_28b_0
theorem tb_28b_ok (K : xKx) (hK : x_KP K) : ∀ pc, x_EOq cls K xI m_28 pc (tb_28b pc) := tb_28b_0_ok K hK
def dl_31b_0 : List (Nat × Instr × Nat) := [(0, .aload_n 0, 1), (1, .getfield 27, 3), (4, .iload_n 1, 1), (5, .baload, 1), (6, .ifCond .eq 10, 3), (16, .aload_n 0, 1), (17, .getfield 24, 3), (20, .iload_n 1, 1), (21, .iaload, 1), (22, .ifCond .ge 10, 3), (25, .aload_n 0, 1), (26, .getfield 9, 3), (29, .iload_n 1, 1), (30, .iaload, 1), (31, .ireturn, 1), (32, .aload_n 0, 1), (33, .getfield 15, 3), (36, .aload_n 0, 1), (37, .getfield 24, 3), (40, .iload_n 1, 1), (41, .iaload, 1), (42, .iaload, 1), (43, .istore_n 2, 1), (44, .aload_n 0, 1), (45, .getfield 31, 3), (48, .iload_n 1, 1), (49, .baload, 1), (50, .ifCond .ne 5, 3), (53, .iload_n 2, 1), (54, .ireturn, 1), (55, .iload_n 2, 1), (56, .ifCond .ne 7, 3), (59, .iconst 1, 1), (60, .goto 4, 3), (63, .iconst 0, 1), (64, .ireturn, 1)]
set_option maxRecDepth 20000 in
theorem dl_31b_0_ok : dl_31b_0.all (fun q => decide (decode prog_9_method_10_code q.1 = .ok (q.2.1, q.2.2))) = true := by decide +kernel
def tb_31b_0 : Nat → xE := (x_T 43 (x_T 16 (x_T 4 (x_T 0 (x_L 0 (0, xi_load 0 2 1, 0, 0)) (x_T 1 (x_L 1 (0, xi_getf 7 5 4, 0, 0)) (x_L 4 (0, xi_load 1 0 5, 0, 0)))) (x_T 5 (x_L 5 (0, xi_ald true 6, 0, 0)) (x_T 6 (x_L 6 (0, xi_if1 0 16 9, 0, 0)) (x_L 16 (0, xi_reck 7 4 1 25 43, 0, 0))))) (x_T 29 (x_T 25 (x_L 25 (0, xi_load 0 2 26, 0, 0)) (x_T 26 (x_L 26 (0, xi_getf 7 0 29, 0, 0)) (x_L 29 (0, xi_load 1 0 30, 0, 0)))) (x_T 30 (x_L 30 (0, xi_ald false 31, 0, 0)) (x_T 31 (x_L 31 (1, x_nof, 1, 0)) (x_L 43 (0, xi_stor 2 0 44, 0, 0)))))) (x_T 53 (x_T 48 (x_T 44 (x_L 44 (0, xi_load 0 2 45, 0, 0)) (x_T 45 (x_L 45 (0, xi_getf 7 6 48, 0, 0)) (x_L 48 (0, xi_load 1 0 49, 0, 0)))) (x_T 49 (x_L 49 (0, xi_ald true 50, 0, 0)) (x_T 50 (x_L 50 (0, xi_if1 1 55 53, 0, 0)) (x_L 53 (0, xi_load 2 0 54, 0, 0))))) (x_T 56 (x_T 54 (x_L 54 (1, x_nof, 1, 0)) (x_T 55 (x_L 55 (0, xi_load 2 0 56, 0, 0)) (x_L 56 (0, xi_if1 1 63 59, 0, 0)))) (x_T 60 (x_T 59 (x_L 59 (0, xi_push (0, 1, 1) 60, 0, 0)) (x_L 60 (0, xi_goto 64, 0, 0))) (x_T 63 (x_L 63 (0, xi_push (0, 0, 0) 64, 0, 0)) (x_L 64 (1, x_nof, 1, 0)))))))
set_option maxRecDepth 20000 in
set_option maxHeartbeats 4000000 in
theorem tb_31b_0_ok (K : xKx) (hK : x_KP K) : ∀ pc, x_EOq cls K xI m_31 pc (tb_31b_0 pc) :=
  (x_Tok2
  (x_Tok2
  (x_Tok2
  (x_Tok2
  (x_Lok (x_st (I := xI) (xr_aload_n (i := 0) (x_dk dl_31b_0_ok 0 rfl))))
  (x_Tok2
  (x_Lok (x_st (I := xI) (xr_getf (ci := 7) (k := 5) (ix := 27) (N := 8) (C := RX7) (T := TX7) rfl in_X7 (by decide) (in_t1 (List.mem_of_getElem? (i := 146) rfl) rfl) (x_dk dl_31b_0_ok 1 rfl))))
  (x_Lok (x_st (I := xI) (xr_iload_n (i := 1) (x_dk dl_31b_0_ok 2 rfl))))))
  (x_Tok2
  (x_Lok (x_st (I := xI) (xr_baload (x_dk dl_31b_0_ok 3 rfl))))
  (x_Tok2
  (x_Lok (x_st (I := xI) (xr_ifeq (off := 10) (tg := 16) (x_dk dl_31b_0_ok 4 rfl) (by decide))))
  (x_Lok (x_st (I := xI) (xi_reck_ok (xw_aload0 (x_dk dl_31b_0_ok 5 rfl)) (xw_getf (ci := 7) (k := 4) (ix := 24) (N := 8) (C := RX7) (T := TX7) rfl in_X7 (by decide) (in_t1 (List.mem_of_getElem? (i := 145) rfl) rfl) (x_dk dl_31b_0_ok 6 rfl)) (xw_iload1 (x_dk dl_31b_0_ok 7 rfl)) (xw_iald (x_dk dl_31b_0_ok 8 rfl)) (xw_ifge (off := 10) (tg := 32) (x_dk dl_31b_0_ok 9 rfl) (by decide)) (xw_aload0 (x_dk dl_31b_0_ok 15 rfl)) (xw_getf (ci := 7) (k := 1) (ix := 15) (N := 8) (C := RX7) (T := TX7) rfl in_X7 (by decide) (in_t1 (List.mem_of_getElem? (i := 138) rfl) rfl) (x_dk dl_31b_0_ok 16 rfl)) (xw_aload0 (x_dk dl_31b_0_ok 17 rfl)) (xw_getf (ci := 7) (k := 4) (ix := 24) (N := 8) (C := RX7) (T := TX7) rfl in_X7 (by decide) (in_t1 (List.mem_of_getElem? (i := 145) rfl) rfl) (x_dk dl_31b_0_ok 18 rfl)) (xw_iload1 (x_dk dl_31b_0_ok 19 rfl)) (xw_iald (x_dk dl_31b_0_ok 20 rfl)) (xw_iald (x_dk dl_31b_0_ok 21 rfl))))))))
  (x_Tok2
  (x_Tok2
  (x_Lok (x_st (I := xI) (xr_aload_n (i := 0) (x_dk dl_31b_0_ok 10 rfl))))
  (x_Tok2
  (x_Lok (x_st (I := xI) (xr_getf (ci := 7) (k := 0) (ix := 9) (N := 8) (C := RX7) (T := TX7) rfl in_X7 (by decide) (in_t1 (List.mem_of_getElem? (i := 136) rfl) rfl) (x_dk dl_31b_0_ok 11 rfl))))
  (x_Lok (x_st (I := xI) (xr_iload_n (i := 1) (x_dk dl_31b_0_ok 12 rfl))))))
  (x_Tok2
  (x_Lok (x_st (I := xI) (xr_iaload (x_dk dl_31b_0_ok 13 rfl))))
  (x_Tok2
  (x_Lok (x_rt (I := xI) (k := 1) ⟨(x_dk dl_31b_0_ok 14 rfl), rfl⟩))
  (x_Lok (x_st (I := xI) (xr_istore_n (i := 2) (x_dk dl_31b_0_ok 22 rfl) (by decide +kernel))))))))
  (x_Tok2
  (x_Tok2
  (x_Tok2
  (x_Lok (x_st (I := xI) (xr_aload_n (i := 0) (x_dk dl_31b_0_ok 23 rfl))))
  (x_Tok2
  (x_Lok (x_st (I := xI) (xr_getf (ci := 7) (k := 6) (ix := 31) (N := 8) (C := RX7) (T := TX7) rfl in_X7 (by decide) (in_t1 (List.mem_of_getElem? (i := 147) rfl) rfl) (x_dk dl_31b_0_ok 24 rfl))))
  (x_Lok (x_st (I := xI) (xr_iload_n (i := 1) (x_dk dl_31b_0_ok 25 rfl))))))
  (x_Tok2
  (x_Lok (x_st (I := xI) (xr_baload (x_dk dl_31b_0_ok 26 rfl))))
  (x_Tok2
  (x_Lok (x_st (I := xI) (xr_ifne (off := 5) (tg := 55) (x_dk dl_31b_0_ok 27 rfl) (by decide))))
  (x_Lok (x_st (I := xI) (xr_iload_n (i := 2) (x_dk dl_31b_0_ok 28 rfl)))))))
  (x_Tok2
  (x_Tok2
  (x_Lok (x_rt (I := xI) (k := 1) ⟨(x_dk dl_31b_0_ok 29 rfl), rfl⟩))
  (x_Tok2
  (x_Lok (x_st (I := xI) (xr_iload_n (i := 2) (x_dk dl_31b_0_ok 30 rfl))))
  (x_Lok (x_st (I := xI) (xr_ifne (off := 7) (tg := 63) (x_dk dl_31b_0_ok 31 rfl) (by decide))))))
  (x_Tok2
  (x_Tok2
  (x_Lok (x_st (I := xI) (xr_iconst (n := 1) (z := 1) (v := 1) (x_dk dl_31b_0_ok 32 rfl) (by decide) (by decide))))
  (x_Lok (x_st (I := xI) (xr_goto (off := 4) (tg := 64) (x_dk dl_31b_0_ok 33 rfl) (by decide)))))
  (x_Tok2
  (x_Lok (x_st (I := xI) (xr_iconst (n := 0) (z := 0) (v := 0) (x_dk dl_31b_0_ok 34 rfl) (by decide) (by decide))))
  (x_Lok (x_rt (I := xI) (k := 1) ⟨(x_dk dl_31b_0_ok 35 rfl), rfl⟩)))))))
def tb_31b : Nat → xE := tb_31b_0
theorem tb_31b_ok (K : xKx) (hK : x_KP K) : ∀ pc, x_EOq cls K xI m_31 pc (tb_31b pc) := tb_31b_0_ok K hK
def dl_30b_0 : List (Nat × Instr × Nat) := [(0, .iconst 0, 1), (1, .istore_n 1, 1), (2, .iload_n 1, 1), (3, .bipush 64, 2), (5, .if_icmp .ge 52, 3), (8, .aload_n 0, 1), (9, .getfield 34, 3), (12, .iload_n 1, 1), (13, .iaload, 1), (14, .istore_n 2, 1), (15, .aload_n 0, 1), (16, .iload_n 2, 1), (17, .invokevirtual 52, 3), (20, .istore_n 3, 1), (21, .aload_n 0, 1), (22, .getfield 15, 3), (25, .iload_n 2, 1), (26, .iaload, 1), (27, .ifCond .ne 17, 3), (30, .iload_n 3, 1), (31, .ifCond .eq 13, 3), (34, .aload_n 0, 1), (35, .getfield 18, 3), (38, .iload_n 2, 1), (39, .dup2, 1), (40, .iaload, 1), (41, .iconst 1, 1), (42, .iadd, 1), (43, .iastore, 1), (44, .aload_n 0, 1), (45, .getfield 15, 3), (48, .iload_n 2, 1), (49, .iload_n 3, 1), (50, .iastore, 1), (51, .iinc 1 1, 3), (54, .goto (-52), 3), (57, .return_, 1)]
set_option maxRecDepth 20000 in
theorem dl_30b_0_ok : dl_30b_0.all (fun q => decide (decode prog_9_method_9_code q.1 = .ok (q.2.1, q.2.2))) = true := by decide +kernel
def tb_30b_0 : Nat → xE := (x_T 26 (x_T 13 (x_T 3 (x_T 1 (x_T 0 (x_L 0 (0, xi_push (0, 0, 0) 1, 0, 0)) (x_L 1 (0, xi_stor 1 0 2, 0, 0))) (x_T 2 (x_L 2 (3, xi_load 1 0 3, 8, 0)) (x_L 3 (0, xi_push (0, 64, 64) 5, 0, 0)))) (x_T 8 (x_T 5 (x_L 5 (0, xi_if2 3 57 8, 0, 0)) (x_L 8 (0, xi_load 0 2 9, 0, 0))) (x_T 9 (x_L 9 (0, xi_getf 7 7 12, 0, 0)) (x_T 12 (x_L 12 (0, xi_load 1 0 13, 0, 0)) (x_L 13 (0, xi_aldH false 14, 0, 0)))))) (x_T 17 (x_T 15 (x_T 14 (x_L 14 (0, xi_stor 2 0 15, 0, 0)) (x_L 15 (0, xi_load 0 2 16, 0, 0))) (x_T 16 (x_L 16 (0, xi_load 2 0 17, 0, 0)) (x_L 17 (2, x_nof, 31, 2)))) (x_T 21 (x_T 20 (x_L 20 (0, xi_stor 3 0 21, 0, 0)) (x_L 21 (0, xi_load 0 2 22, 0, 0))) (x_T 22 (x_L 22 (0, xi_getf 7 1 25, 0, 0)) (x_T 25 (x_L 25 (0, xi_load 2 0 26, 0, 0)) (x_L 26 (0, xi_ald false 27, 0, 0))))))) (x_T 41 (x_T 34 (x_T 30 (x_T 27 (x_L 27 (0, xi_if1 1 44 30, 0, 0)) (x_L 30 (0, xi_load 3 0 31, 0, 0))) (x_T 31 (x_L 31 (0, xi_if1 0 44 34, 0, 0)) (x_L 34 (0, xi_load 0 2 35, 0, 0)))) (x_T 38 (x_T 35 (x_L 35 (0, xi_getf 7 2 38, 0, 0)) (x_L 38 (0, xi_load 2 0 39, 0, 0))) (x_T 39 (x_L 39 (0, xi_stk xf_dup2 40, 0, 0)) (x_T 40 (x_L 40 (0, xi_ald false 41, 0, 0)) (x_L 41 (0, xi_push (0, 1, 1) 42, 0, 0)))))) (x_T 48 (x_T 43 (x_T 42 (x_L 42 (0, xi_bin xF_add 43, 0, 0)) (x_L 43 (0, xi_ast false 44, 0, 0))) (x_T 44 (x_L 44 (0, xi_load 0 2 45, 0, 0)) (x_T 45 (x_L 45 (0, xi_getf 7 1 48, 0, 0)) (x_L 48 (0, xi_load 2 0 49, 0, 0))))) (x_T 50 (x_T 49 (x_L 49 (0, xi_load 3 0 50, 0, 0)) (x_L 50 (0, xi_ast false 51, 0, 0))) (x_T 51 (x_L 51 (0, xi_incT 1 54, 0, 0)) (x_T 54 (x_L 54 (0, xi_goto 2, 0, 0)) (x_L 57 (1, x_nof, 0, 0))))))))
set_option maxRecDepth 20000 in
set_option maxHeartbeats 4000000 in
theorem tb_30b_0_ok (K : xKx) (hK : x_KP K) : ∀ pc, x_EOq cls K xI m_30 pc (tb_30b_0 pc) :=
  (x_Tok2
  (x_Tok2
  (x_Tok2
  (x_Tok2
  (x_Tok2
  (x_Lok (x_st (I := xI) (xr_iconst (n := 0) (z := 0) (v := 0) (x_dk dl_30b_0_ok 0 rfl) (by decide) (by decide))))
  (x_Lok (x_st (I := xI) (xr_istore_n (i := 1) (x_dk dl_30b_0_ok 1 rfl) (by decide +kernel)))))
  (x_Tok2
  (x_Lok (x_lo (I := xI) (L := 8) (xr_iload_n (i := 1) (x_dk dl_30b_0_ok 2 rfl))))
  (x_Lok (x_st (I := xI) (xr_bipush (n := 64) (z := 64) (v := 64) (x_dk dl_30b_0_ok 3 rfl) (by decide) (by decide))))))
  (x_Tok2
  (x_Tok2
  (x_Lok (x_st (I := xI) (xr_icmpge (off := 52) (tg := 57) (x_dk dl_30b_0_ok 4 rfl) (by decide))))
  (x_Lok (x_st (I := xI) (xr_aload_n (i := 0) (x_dk dl_30b_0_ok 5 rfl)))))
  (x_Tok2
  (x_Lok (x_st (I := xI) (xr_getf (ci := 7) (k := 7) (ix := 34) (N := 8) (C := RX7) (T := TX7) rfl in_X7 (by decide) (in_t1 (List.mem_of_getElem? (i := 148) rfl) rfl) (x_dk dl_30b_0_ok 6 rfl))))
  (x_Tok2
  (x_Lok (x_st (I := xI) (xr_iload_n (i := 1) (x_dk dl_30b_0_ok 7 rfl))))
  (x_Lok (x_st (I := xI) (xr_ialdH (x_dk dl_30b_0_ok 8 rfl))))))))
  (x_Tok2
  (x_Tok2
  (x_Tok2
  (x_Lok (x_st (I := xI) (xr_istore_n (i := 2) (x_dk dl_30b_0_ok 9 rfl) (by decide +kernel))))
  (x_Lok (x_st (I := xI) (xr_aload_n (i := 0) (x_dk dl_30b_0_ok 10 rfl)))))
  (x_Tok2
  (x_Lok (x_st (I := xI) (xr_iload_n (i := 2) (x_dk dl_30b_0_ok 11 rfl))))
  (x_Lok (x_ca (I := xI) (q' := m_31) rfl (xr_callV (q' := m_31) (ix := 52) (n := 1) (in_t4 (List.mem_of_getElem? (i := 70) rfl) rfl) good_w (in_t1 (List.mem_of_getElem? (i := 5) rfl) rfl) (in_t4 (List.mem_of_getElem? (i := 67) rfl) rfl) (in_t4 (List.mem_of_getElem? (i := 69) rfl) rfl) (in_s1 (List.mem_of_getElem? (i := 4) rfl)) (by decide +kernel) (by decide +kernel) (by decide +kernel) (x_dk dl_30b_0_ok 12 rfl))))))
  (x_Tok2
  (x_Tok2
  (x_Lok (x_st (I := xI) (xr_istore_n (i := 3) (x_dk dl_30b_0_ok 13 rfl) (by decide +kernel))))
  (x_Lok (x_st (I := xI) (xr_aload_n (i := 0) (x_dk dl_30b_0_ok 14 rfl)))))
  (x_Tok2
  (x_Lok (x_st (I := xI) (xr_getf (ci := 7) (k := 1) (ix := 15) (N := 8) (C := RX7) (T := TX7) rfl in_X7 (by decide) (in_t1 (List.mem_of_getElem? (i := 138) rfl) rfl) (x_dk dl_30b_0_ok 15 rfl))))
  (x_Tok2
  (x_Lok (x_st (I := xI) (xr_iload_n (i := 2) (x_dk dl_30b_0_ok 16 rfl))))
  (x_Lok (x_st (I := xI) (xr_iaload (x_dk dl_30b_0_ok 17 rfl)))))))))
  (x_Tok2
  (x_Tok2
  (x_Tok2
  (x_Tok2
  (x_Lok (x_st (I := xI) (xr_ifne (off := 17) (tg := 44) (x_dk dl_30b_0_ok 18 rfl) (by decide))))
  (x_Lok (x_st (I := xI) (xr_iload_n (i := 3) (x_dk dl_30b_0_ok 19 rfl)))))
  (x_Tok2
  (x_Lok (x_st (I := xI) (xr_ifeq (off := 13) (tg := 44) (x_dk dl_30b_0_ok 20 rfl) (by decide))))
  (x_Lok (x_st (I := xI) (xr_aload_n (i := 0) (x_dk dl_30b_0_ok 21 rfl))))))
  (x_Tok2
  (x_Tok2
  (x_Lok (x_st (I := xI) (xr_getf (ci := 7) (k := 2) (ix := 18) (N := 8) (C := RX7) (T := TX7) rfl in_X7 (by decide) (in_t1 (List.mem_of_getElem? (i := 141) rfl) rfl) (x_dk dl_30b_0_ok 22 rfl))))
  (x_Lok (x_st (I := xI) (xr_iload_n (i := 2) (x_dk dl_30b_0_ok 23 rfl)))))
  (x_Tok2
  (x_Lok (x_st (I := xI) (xr_dup2 (x_dk dl_30b_0_ok 24 rfl))))
  (x_Tok2
  (x_Lok (x_st (I := xI) (xr_iaload (x_dk dl_30b_0_ok 25 rfl))))
  (x_Lok (x_st (I := xI) (xr_iconst (n := 1) (z := 1) (v := 1) (x_dk dl_30b_0_ok 26 rfl) (by decide) (by decide))))))))
  (x_Tok2
  (x_Tok2
  (x_Tok2
  (x_Lok (x_st (I := xI) (xr_iadd (x_dk dl_30b_0_ok 27 rfl))))
  (x_Lok (x_st (I := xI) (xr_iastore (x_dk dl_30b_0_ok 28 rfl)))))
  (x_Tok2
  (x_Lok (x_st (I := xI) (xr_aload_n (i := 0) (x_dk dl_30b_0_ok 29 rfl))))
  (x_Tok2
  (x_Lok (x_st (I := xI) (xr_getf (ci := 7) (k := 1) (ix := 15) (N := 8) (C := RX7) (T := TX7) rfl in_X7 (by decide) (in_t1 (List.mem_of_getElem? (i := 138) rfl) rfl) (x_dk dl_30b_0_ok 30 rfl))))
  (x_Lok (x_st (I := xI) (xr_iload_n (i := 2) (x_dk dl_30b_0_ok 31 rfl)))))))
  (x_Tok2
  (x_Tok2
  (x_Lok (x_st (I := xI) (xr_iload_n (i := 3) (x_dk dl_30b_0_ok 32 rfl))))
  (x_Lok (x_st (I := xI) (xr_iastore (x_dk dl_30b_0_ok 33 rfl)))))
  (x_Tok2
  (x_Lok (x_st (I := xI) (xr_iincT (i := 1) (x_hev hK) (x_dk dl_30b_0_ok 34 rfl) (by decide +kernel))))
  (x_Tok2
  (x_Lok (x_st (I := xI) (xr_goto (off := (-52)) (tg := 2) (x_dk dl_30b_0_ok 35 rfl) (by decide))))
  (x_Lok (x_rt (I := xI) (k := 0) ⟨(x_dk dl_30b_0_ok 36 rfl), rfl⟩))))))))
def tb_30b : Nat → xE := tb_30b_0
theorem tb_30b_ok (K : xKx) (hK : x_KP K) : ∀ pc, x_EOq cls K xI m_30 pc (tb_30b pc) := tb_30b_0_ok K hK
def dl_132b_0 : List (Nat × Instr × Nat) := [(0, .iload_n 1, 1), (1, .i2l, 1), (2, .lconst 0, 1), (3, .ldc2_w 352, 3), (6, .invokestatic 301, 3), (9, .ifCond .eq 15, 3), (12, .iload_n 2, 1), (13, .i2l, 1), (14, .lconst 0, 1), (15, .ldc2_w 352, 3), (18, .invokestatic 301, 3), (21, .ifCond .ne 5, 3), (24, .iconst (-1), 1), (25, .ireturn, 1), (26, .iconst 0, 1), (27, .istore 4, 2), (29, .iload_n 1, 1), (30, .istore 5, 2), (32, .iload 5, 2), (34, .ifCond .lt 33, 3), (37, .iload 4, 2), (39, .ifCond .ne 28, 3), (42, .iload 5, 2), (44, .iload_n 2, 1), (45, .if_icmp .ne 7, 3), (52, .iconst 0, 1), (53, .istore 4, 2), (55, .aload_n 0, 1), (56, .getfield 140, 3), (59, .iload 5, 2), (61, .iaload, 1), (62, .istore 5, 2), (64, .goto (-32), 3), (67, .aload_n 0, 1), (68, .getfield 265, 3), (71, .ifCond .ne 17, 3), (74, .aload_n 0, 1), (75, .getfield 140, 3), (78, .iload_n 2, 1), (79, .iaload, 1), (80, .ifCond .ge 8, 3), (83, .iload 4, 2), (85, .ifCond .eq 6, 3), (91, .aload_n 0, 1), (92, .getfield 140, 3), (95, .iload_n 2, 1), (96, .iload_n 1, 1), (97, .iastore, 1), (98, .aload_n 0, 1), (99, .getfield 143, 3), (102, .iload_n 2, 1), (103, .iload_n 3, 1), (104, .bastore, 1), (105, .iconst 0, 1), (106, .ireturn, 1)]
set_option maxRecDepth 20000 in
theorem dl_132b_0_ok : dl_132b_0.all (fun q => decide (decode prog_14_method_31_code q.1 = .ok (q.2.1, q.2.2))) = true := by decide +kernel
def tb_132b_0 : Nat → xE := (x_T 24 (x_T 9 (x_T 2 (x_T 0 (x_L 0 (0, xi_load 1 0 1, 0, 0)) (x_T 1 (x_L 1 (0, xi_i2l 2, 0, 0)) (x_L 2 (0, xi_push (4, 0, 0) 3, 0, 0)))) (x_T 3 (x_L 3 (0, xi_push (4, 63, 63) 6, 0, 0)) (x_T 6 (x_L 6 (2, x_nof, 103, 3)) (x_L 9 (0, xi_if1 0 24 12, 0, 0))))) (x_T 14 (x_T 12 (x_L 12 (0, xi_load 2 0 13, 0, 0)) (x_T 13 (x_L 13 (0, xi_i2l 14, 0, 0)) (x_L 14 (0, xi_push (4, 0, 0) 15, 0, 0)))) (x_T 18 (x_T 15 (x_L 15 (0, xi_push (4, 63, 63) 18, 0, 0)) (x_L 18 (2, x_nof, 103, 3))) (x_T 21 (x_L 21 (0, xi_if1 1 26 24, 0, 0)) (x_L 24 (0, xi_push (0, (-1), (-1)) 25, 0, 0)))))) (x_T 34 (x_T 27 (x_T 25 (x_L 25 (1, x_nof, 1, 0)) (x_T 26 (x_L 26 (0, xi_push (0, 0, 0) 27, 0, 0)) (x_L 27 (0, xi_stor 4 0 29, 0, 0)))) (x_T 30 (x_T 29 (x_L 29 (0, xi_load 1 0 30, 0, 0)) (x_L 30 (0, xi_stor 5 0 32, 0, 0))) (x_T 32 (x_L 32 (0, xi_load 5 0 34, 0, 0)) (x_L 34 (0, xi_if1 2 67 37, 0, 0))))) (x_T 42 (x_T 37 (x_L 37 (0, xi_load 4 0 39, 0, 0)) (x_T 39 (x_L 39 (0, xi_if1 1 67 42, 0, 0)) (x_L 42 (0, xi_load 5 0 44, 0, 0)))) (x_T 45 (x_T 44 (x_L 44 (0, xi_load 2 0 45, 0, 0)) (x_L 45 (0, xi_if2K 1 (3, 1, 0) (3, 2, 0) true 52 48, 0, 0))) (x_T 52 (x_L 52 (0, xi_push (0, 0, 0) 53, 0, 0)) (x_L 53 (0, xi_stor 4 0 55, 0, 0)))))))
set_option maxRecDepth 20000 in
set_option maxHeartbeats 4000000 in
theorem tb_132b_0_ok (K : xKx) (hK : x_KP K) (hE : x_KE true K) : ∀ pc, x_EOq cls K xI m_132 pc (tb_132b_0 pc) :=
  (x_Tok2
  (x_Tok2
  (x_Tok2
  (x_Tok2
  (x_Lok (x_st (I := xI) (xr_iload_n (i := 1) (x_dk dl_132b_0_ok 0 rfl))))
  (x_Tok2
  (x_Lok (x_st (I := xI) (xr_i2l (x_dk dl_132b_0_ok 1 rfl))))
  (x_Lok (x_st (I := xI) (xr_lconst (n := 0) (z := 0) (v := 0) (x_dk dl_132b_0_ok 2 rfl) (by decide) (by decide))))))
  (x_Tok2
  (x_Lok (x_st (I := xI) (xr_ldc2 (ix := 352) (z := 63) (v := 63) (x_dk dl_132b_0_ok 3 rfl) (in_t11 (List.mem_of_getElem? (i := 81) rfl) rfl) (by decide))))
  (x_Tok2
  (x_Lok (x_ca (I := xI) (q' := m_103) rfl (xr_callS (q' := m_103) (ix := 301) (n := 3) (in_t11 (List.mem_of_getElem? (i := 7) rfl) rfl) good_w (in_t1 (List.mem_of_getElem? (i := 14) rfl) rfl) (in_t11 (List.mem_of_getElem? (i := 5) rfl) rfl) (in_t11 (List.mem_of_getElem? (i := 6) rfl) rfl) (by decide +kernel) (by decide +kernel) (x_dk dl_132b_0_ok 4 rfl))))
  (x_Lok (x_st (I := xI) (xr_ifeq (off := 15) (tg := 24) (x_dk dl_132b_0_ok 5 rfl) (by decide)))))))
  (x_Tok2
  (x_Tok2
  (x_Lok (x_st (I := xI) (xr_iload_n (i := 2) (x_dk dl_132b_0_ok 6 rfl))))
  (x_Tok2
  (x_Lok (x_st (I := xI) (xr_i2l (x_dk dl_132b_0_ok 7 rfl))))
  (x_Lok (x_st (I := xI) (xr_lconst (n := 0) (z := 0) (v := 0) (x_dk dl_132b_0_ok 8 rfl) (by decide) (by decide))))))
  (x_Tok2
  (x_Tok2
  (x_Lok (x_st (I := xI) (xr_ldc2 (ix := 352) (z := 63) (v := 63) (x_dk dl_132b_0_ok 9 rfl) (in_t11 (List.mem_of_getElem? (i := 81) rfl) rfl) (by decide))))
  (x_Lok (x_ca (I := xI) (q' := m_103) rfl (xr_callS (q' := m_103) (ix := 301) (n := 3) (in_t11 (List.mem_of_getElem? (i := 7) rfl) rfl) good_w (in_t1 (List.mem_of_getElem? (i := 14) rfl) rfl) (in_t11 (List.mem_of_getElem? (i := 5) rfl) rfl) (in_t11 (List.mem_of_getElem? (i := 6) rfl) rfl) (by decide +kernel) (by decide +kernel) (x_dk dl_132b_0_ok 10 rfl)))))
  (x_Tok2
  (x_Lok (x_st (I := xI) (xr_ifne (off := 5) (tg := 26) (x_dk dl_132b_0_ok 11 rfl) (by decide))))
  (x_Lok (x_st (I := xI) (xr_iconst (n := (-1)) (z := (-1)) (v := (-1)) (x_dk dl_132b_0_ok 12 rfl) (by decide) (by decide))))))))
  (x_Tok2
  (x_Tok2
  (x_Tok2
  (x_Lok (x_rt (I := xI) (k := 1) ⟨(x_dk dl_132b_0_ok 13 rfl), rfl⟩))
  (x_Tok2
  (x_Lok (x_st (I := xI) (xr_iconst (n := 0) (z := 0) (v := 0) (x_dk dl_132b_0_ok 14 rfl) (by decide) (by decide))))
  (x_Lok (x_st (I := xI) (xr_istore (i := 4) (x_dk dl_132b_0_ok 15 rfl) (by decide +kernel))))))
  (x_Tok2
  (x_Tok2
  (x_Lok (x_st (I := xI) (xr_iload_n (i := 1) (x_dk dl_132b_0_ok 16 rfl))))
  (x_Lok (x_st (I := xI) (xr_istore (i := 5) (x_dk dl_132b_0_ok 17 rfl) (by decide +kernel)))))
  (x_Tok2
  (x_Lok (x_st (I := xI) (xr_iload (i := 5) (x_dk dl_132b_0_ok 18 rfl))))
  (x_Lok (x_st (I := xI) (xr_iflt (off := 33) (tg := 67) (x_dk dl_132b_0_ok 19 rfl) (by decide)))))))
  (x_Tok2
  (x_Tok2
  (x_Lok (x_st (I := xI) (xr_iload (i := 4) (x_dk dl_132b_0_ok 20 rfl))))
  (x_Tok2
  (x_Lok (x_st (I := xI) (xr_ifne (off := 28) (tg := 67) (x_dk dl_132b_0_ok 21 rfl) (by decide))))
  (x_Lok (x_st (I := xI) (xr_iload (i := 5) (x_dk dl_132b_0_ok 22 rfl))))))
  (x_Tok2
  (x_Tok2
  (x_Lok (x_st (I := xI) (xr_iload_n (i := 2) (x_dk dl_132b_0_ok 23 rfl))))
  (x_Lok (x_st (I := xI) (xi_if2K_ok (k := 1) (b := true) (xw_icmpne (off := 7) (tg := 52) (x_dk dl_132b_0_ok 24 rfl) (by decide)) hE (Or.inr rfl) (Or.inr rfl)))))
  (x_Tok2
  (x_Lok (x_st (I := xI) (xr_iconst (n := 0) (z := 0) (v := 0) (x_dk dl_132b_0_ok 25 rfl) (by decide) (by decide))))
  (x_Lok (x_st (I := xI) (xr_istore (i := 4) (x_dk dl_132b_0_ok 26 rfl) (by decide +kernel)))))))))
def tb_132b_27 : Nat → xE := (x_T 80 (x_T 67 (x_T 59 (x_T 55 (x_L 55 (0, xi_load 0 2 56, 0, 0)) (x_T 56 (x_L 56 (0, xi_getf 12 52 59, 0, 0)) (x_L 59 (0, xi_load 5 0 61, 0, 0)))) (x_T 62 (x_T 61 (x_L 61 (0, xi_ald false 62, 0, 0)) (x_L 62 (0, xi_stor 5 0 64, 0, 0))) (x_T 64 (x_L 64 (0, xi_goto 32, 0, 0)) (x_L 67 (0, xi_load 0 2 68, 0, 0))))) (x_T 74 (x_T 68 (x_L 68 (0, xi_getf 12 3 71, 0, 0)) (x_T 71 (x_L 71 (0, xi_if1 1 88 74, 0, 0)) (x_L 74 (0, xi_load 0 2 75, 0, 0)))) (x_T 78 (x_T 75 (x_L 75 (0, xi_getf 12 52 78, 0, 0)) (x_L 78 (0, xi_load 2 0 79, 0, 0))) (x_T 79 (x_L 79 (0, xi_ald false 80, 0, 0)) (x_L 80 (0, xi_if1 3 88 83, 0, 0)))))) (x_T 97 (x_T 91 (x_T 83 (x_L 83 (0, xi_load 4 0 85, 0, 0)) (x_T 85 (x_L 85 (0, xi_if1 0 91 88, 0, 0)) (x_L 91 (0, xi_load 0 2 92, 0, 0)))) (x_T 95 (x_T 92 (x_L 92 (0, xi_getf 12 52 95, 0, 0)) (x_L 95 (0, xi_load 2 0 96, 0, 0))) (x_T 96 (x_L 96 (0, xi_load 1 0 97, 0, 0)) (x_L 97 (0, xi_ast false 98, 0, 0))))) (x_T 102 (x_T 98 (x_L 98 (0, xi_load 0 2 99, 0, 0)) (x_T 99 (x_L 99 (0, xi_getf 12 53 102, 0, 0)) (x_L 102 (0, xi_load 2 0 103, 0, 0)))) (x_T 104 (x_T 103 (x_L 103 (0, xi_load 3 0 104, 0, 0)) (x_L 104 (0, xi_ast true 105, 0, 0))) (x_T 105 (x_L 105 (0, xi_push (0, 0, 0) 106, 0, 0)) (x_L 106 (1, x_nof, 1, 0)))))))
set_option maxRecDepth 20000 in
set_option maxHeartbeats 4000000 in
theorem tb_132b_27_ok (K : xKx) (hK : x_KP K) (hE : x_KE true K) : ∀ pc, x_EOq cls K xI m_132 pc (tb_132b_27 pc) :=
  (x_Tok2
  (x_Tok2
  (x_Tok2
  (x_Tok2
  (x_Lok (x_st (I := xI) (xr_aload_n (i := 0) (x_dk dl_132b_0_ok 27 rfl))))
  (x_Tok2
  (x_Lok (x_st (I := xI) (xr_getf (ci := 12) (k := 52) (ix := 140) (N := 119) (C := RX12) (T := TX12) rfl in_X12 (by decide) (in_t9 (List.mem_of_getElem? (i := 167) rfl) rfl) (x_dk dl_132b_0_ok 28 rfl))))
  (x_Lok (x_st (I := xI) (xr_iload (i := 5) (x_dk dl_132b_0_ok 29 rfl))))))
  (x_Tok2
  (x_Tok2
  (x_Lok (x_st (I := xI) (xr_iaload (x_dk dl_132b_0_ok 30 rfl))))
  (x_Lok (x_st (I := xI) (xr_istore (i := 5) (x_dk dl_132b_0_ok 31 rfl) (by decide +kernel)))))
  (x_Tok2
  (x_Lok (x_st (I := xI) (xr_goto (off := (-32)) (tg := 32) (x_dk dl_132b_0_ok 32 rfl) (by decide))))
  (x_Lok (x_st (I := xI) (xr_aload_n (i := 0) (x_dk dl_132b_0_ok 33 rfl)))))))
  (x_Tok2
  (x_Tok2
  (x_Lok (x_st (I := xI) (xr_getf (ci := 12) (k := 3) (ix := 265) (N := 119) (C := RX12) (T := TX12) rfl in_X12 (by decide) (in_t9 (List.mem_of_getElem? (i := 118) rfl) rfl) (x_dk dl_132b_0_ok 34 rfl))))
  (x_Tok2
  (x_Lok (x_st (I := xI) (xr_ifne (off := 17) (tg := 88) (x_dk dl_132b_0_ok 35 rfl) (by decide))))
  (x_Lok (x_st (I := xI) (xr_aload_n (i := 0) (x_dk dl_132b_0_ok 36 rfl))))))
  (x_Tok2
  (x_Tok2
  (x_Lok (x_st (I := xI) (xr_getf (ci := 12) (k := 52) (ix := 140) (N := 119) (C := RX12) (T := TX12) rfl in_X12 (by decide) (in_t9 (List.mem_of_getElem? (i := 167) rfl) rfl) (x_dk dl_132b_0_ok 37 rfl))))
  (x_Lok (x_st (I := xI) (xr_iload_n (i := 2) (x_dk dl_132b_0_ok 38 rfl)))))
  (x_Tok2
  (x_Lok (x_st (I := xI) (xr_iaload (x_dk dl_132b_0_ok 39 rfl))))
  (x_Lok (x_st (I := xI) (xr_ifge (off := 8) (tg := 88) (x_dk dl_132b_0_ok 40 rfl) (by decide))))))))
  (x_Tok2
  (x_Tok2
  (x_Tok2
  (x_Lok (x_st (I := xI) (xr_iload (i := 4) (x_dk dl_132b_0_ok 41 rfl))))
  (x_Tok2
  (x_Lok (x_st (I := xI) (xr_ifeq (off := 6) (tg := 91) (x_dk dl_132b_0_ok 42 rfl) (by decide))))
  (x_Lok (x_st (I := xI) (xr_aload_n (i := 0) (x_dk dl_132b_0_ok 43 rfl))))))
  (x_Tok2
  (x_Tok2
  (x_Lok (x_st (I := xI) (xr_getf (ci := 12) (k := 52) (ix := 140) (N := 119) (C := RX12) (T := TX12) rfl in_X12 (by decide) (in_t9 (List.mem_of_getElem? (i := 167) rfl) rfl) (x_dk dl_132b_0_ok 44 rfl))))
  (x_Lok (x_st (I := xI) (xr_iload_n (i := 2) (x_dk dl_132b_0_ok 45 rfl)))))
  (x_Tok2
  (x_Lok (x_st (I := xI) (xr_iload_n (i := 1) (x_dk dl_132b_0_ok 46 rfl))))
  (x_Lok (x_st (I := xI) (xr_iastore (x_dk dl_132b_0_ok 47 rfl)))))))
  (x_Tok2
  (x_Tok2
  (x_Lok (x_st (I := xI) (xr_aload_n (i := 0) (x_dk dl_132b_0_ok 48 rfl))))
  (x_Tok2
  (x_Lok (x_st (I := xI) (xr_getf (ci := 12) (k := 53) (ix := 143) (N := 119) (C := RX12) (T := TX12) rfl in_X12 (by decide) (in_t9 (List.mem_of_getElem? (i := 168) rfl) rfl) (x_dk dl_132b_0_ok 49 rfl))))
  (x_Lok (x_st (I := xI) (xr_iload_n (i := 2) (x_dk dl_132b_0_ok 50 rfl))))))
  (x_Tok2
  (x_Tok2
  (x_Lok (x_st (I := xI) (xr_iload_n (i := 3) (x_dk dl_132b_0_ok 51 rfl))))
  (x_Lok (x_st (I := xI) (xr_bastore (x_dk dl_132b_0_ok 52 rfl)))))
  (x_Tok2
  (x_Lok (x_st (I := xI) (xr_iconst (n := 0) (z := 0) (v := 0) (x_dk dl_132b_0_ok 53 rfl) (by decide) (by decide))))
  (x_Lok (x_rt (I := xI) (k := 1) ⟨(x_dk dl_132b_0_ok 54 rfl), rfl⟩)))))))
def tb_132b : Nat → xE := (x_T 53 tb_132b_0 tb_132b_27)
theorem tb_132b_ok (K : xKx) (hK : x_KP K) (hE : x_KE true K) : ∀ pc, x_EOq cls K xI m_132 pc (tb_132b pc) := (x_Tok2 (tb_132b_0_ok K hK hE) (tb_132b_27_ok K hK hE))
end
