noncomputable section
def dl_116_0 : List (Nat × Instr × Nat) := [(0, .aload_n 0, 1), (1, .iload_n 1, 1), (2, .invokevirtual 305, 3), (5, .ifCond .eq 13, 3), (18, .iconst (-1), 1), (19, .ireturn, 1)]
set_option maxRecDepth 20000 in
theorem dl_116_0_ok : dl_116_0.all (fun q => decide (decode prog_14_method_15_code q.1 = .ok (q.2.1, q.2.2))) = true := by decide +kernel
def tb_116_0 : Nat → xE := (x_T 2 (x_T 0 (x_L 0 (0, xi_load 0 2 1, 0, 0)) (x_T 1 (x_L 1 (0, xi_load 1 0 2, 0, 0)) (x_L 2 (2, x_nof, 107, 2)))) (x_T 5 (x_L 5 (0, xi_if1 0 18 8, 0, 0)) (x_T 18 (x_L 18 (0, xi_push (0, (-1), (-1)) 19, 0, 0)) (x_L 19 (1, x_nof, 1, 0)))))
set_option maxRecDepth 20000 in
set_option maxHeartbeats 4000000 in
theorem tb_116_0_ok (K : xKx) (hK : x_KP K) : ∀ pc, x_EOq cls K xI m_116 pc (tb_116_0 pc) :=
  (x_Tok2
  (x_Tok2
  (x_Lok (x_st (I := xI) (xr_aload_n (i := 0) (x_dk dl_116_0_ok 0 rfl))))
  (x_Tok2
  (x_Lok (x_st (I := xI) (xr_iload_n (i := 1) (x_dk dl_116_0_ok 1 rfl))))
  (x_Lok (x_ca (I := xI) (q' := m_107) rfl (xr_callV (q' := m_107) (ix := 305) (n := 1) (in_t11 (List.mem_of_getElem? (i := 27) rfl) rfl) good_w (in_t1 (List.mem_of_getElem? (i := 14) rfl) rfl) (in_t11 (List.mem_of_getElem? (i := 24) rfl) rfl) (in_t11 (List.mem_of_getElem? (i := 26) rfl) rfl) (in_s8 (List.mem_of_getElem? (i := 2) rfl)) (by decide +kernel) (by decide +kernel) (by decide +kernel) (x_dk dl_116_0_ok 2 rfl))))))
  (x_Tok2
  (x_Lok (x_st (I := xI) (xr_ifeq (off := 13) (tg := 18) (x_dk dl_116_0_ok 3 rfl) (by decide))))
  (x_Tok2
  (x_Lok (x_st (I := xI) (xr_iconst (n := (-1)) (z := (-1)) (v := (-1)) (x_dk dl_116_0_ok 4 rfl) (by decide) (by decide))))
  (x_Lok (x_rt (I := xI) (k := 1) ⟨(x_dk dl_116_0_ok 5 rfl), rfl⟩)))))
def tb_116 : Nat → xE := tb_116_0
theorem tb_116_ok (K : xKx) (hK : x_KP K) : ∀ pc, x_EOq cls K xI m_116 pc (tb_116 pc) := tb_116_0_ok K hK
def dl_117_0 : List (Nat × Instr × Nat) := [(0, .aload_n 0, 1), (1, .iload_n 1, 1), (2, .iload_n 2, 1), (3, .invokevirtual 333, 3), (6, .ifCond .eq 15, 3), (21, .iconst (-1), 1), (22, .ireturn, 1)]
set_option maxRecDepth 20000 in
theorem dl_117_0_ok : dl_117_0.all (fun q => decide (decode prog_14_method_16_code q.1 = .ok (q.2.1, q.2.2))) = true := by decide +kernel
def tb_117_0 : Nat → xE := (x_T 2 (x_T 0 (x_L 0 (0, xi_load 0 2 1, 0, 0)) (x_T 1 (x_L 1 (0, xi_load 1 0 2, 0, 0)) (x_L 2 (0, xi_load 2 0 3, 0, 0)))) (x_T 6 (x_T 3 (x_L 3 (2, x_nof, 108, 3)) (x_L 6 (0, xi_if1 0 21 9, 0, 0))) (x_T 21 (x_L 21 (0, xi_push (0, (-1), (-1)) 22, 0, 0)) (x_L 22 (1, x_nof, 1, 0)))))
set_option maxRecDepth 20000 in
set_option maxHeartbeats 4000000 in
theorem tb_117_0_ok (K : xKx) (hK : x_KP K) : ∀ pc, x_EOq cls K xI m_117 pc (tb_117_0 pc) :=
  (x_Tok2
  (x_Tok2
  (x_Lok (x_st (I := xI) (xr_aload_n (i := 0) (x_dk dl_117_0_ok 0 rfl))))
  (x_Tok2
  (x_Lok (x_st (I := xI) (xr_iload_n (i := 1) (x_dk dl_117_0_ok 1 rfl))))
  (x_Lok (x_st (I := xI) (xr_iload_n (i := 2) (x_dk dl_117_0_ok 2 rfl))))))
  (x_Tok2
  (x_Tok2
  (x_Lok (x_ca (I := xI) (q' := m_108) rfl (xr_callV (q' := m_108) (ix := 333) (n := 2) (in_t11 (List.mem_of_getElem? (i := 36) rfl) rfl) good_w (in_t1 (List.mem_of_getElem? (i := 14) rfl) rfl) (in_t11 (List.mem_of_getElem? (i := 33) rfl) rfl) (in_t11 (List.mem_of_getElem? (i := 35) rfl) rfl) (in_s8 (List.mem_of_getElem? (i := 3) rfl)) (by decide +kernel) (by decide +kernel) (by decide +kernel) (x_dk dl_117_0_ok 3 rfl))))
  (x_Lok (x_st (I := xI) (xr_ifeq (off := 15) (tg := 21) (x_dk dl_117_0_ok 4 rfl) (by decide)))))
  (x_Tok2
  (x_Lok (x_st (I := xI) (xr_iconst (n := (-1)) (z := (-1)) (v := (-1)) (x_dk dl_117_0_ok 5 rfl) (by decide) (by decide))))
  (x_Lok (x_rt (I := xI) (k := 1) ⟨(x_dk dl_117_0_ok 6 rfl), rfl⟩)))))
def tb_117 : Nat → xE := tb_117_0
theorem tb_117_ok (K : xKx) (hK : x_KP K) : ∀ pc, x_EOq cls K xI m_117 pc (tb_117 pc) := tb_117_0_ok K hK
def dl_118_0 : List (Nat × Instr × Nat) := [(0, .aload_n 0, 1), (1, .iload_n 1, 1), (2, .iload_n 2, 1), (3, .invokevirtual 333, 3), (6, .ifCond .eq 28, 3), (34, .iconst (-1), 1), (35, .ireturn, 1)]
set_option maxRecDepth 20000 in
theorem dl_118_0_ok : dl_118_0.all (fun q => decide (decode prog_14_method_17_code q.1 = .ok (q.2.1, q.2.2))) = true := by decide +kernel
def tb_118_0 : Nat → xE := (x_T 2 (x_T 0 (x_L 0 (0, xi_load 0 2 1, 0, 0)) (x_T 1 (x_L 1 (0, xi_load 1 0 2, 0, 0)) (x_L 2 (0, xi_load 2 0 3, 0, 0)))) (x_T 6 (x_T 3 (x_L 3 (2, x_nof, 108, 3)) (x_L 6 (0, xi_if1 0 34 9, 0, 0))) (x_T 34 (x_L 34 (0, xi_push (0, (-1), (-1)) 35, 0, 0)) (x_L 35 (1, x_nof, 1, 0)))))
set_option maxRecDepth 20000 in
set_option maxHeartbeats 4000000 in
theorem tb_118_0_ok (K : xKx) (hK : x_KP K) : ∀ pc, x_EOq cls K xI m_118 pc (tb_118_0 pc) :=
  (x_Tok2
  (x_Tok2
  (x_Lok (x_st (I := xI) (xr_aload_n (i := 0) (x_dk dl_118_0_ok 0 rfl))))
  (x_Tok2
  (x_Lok (x_st (I := xI) (xr_iload_n (i := 1) (x_dk dl_118_0_ok 1 rfl))))
  (x_Lok (x_st (I := xI) (xr_iload_n (i := 2) (x_dk dl_118_0_ok 2 rfl))))))
  (x_Tok2
  (x_Tok2
  (x_Lok (x_ca (I := xI) (q' := m_108) rfl (xr_callV (q' := m_108) (ix := 333) (n := 2) (in_t11 (List.mem_of_getElem? (i := 36) rfl) rfl) good_w (in_t1 (List.mem_of_getElem? (i := 14) rfl) rfl) (in_t11 (List.mem_of_getElem? (i := 33) rfl) rfl) (in_t11 (List.mem_of_getElem? (i := 35) rfl) rfl) (in_s8 (List.mem_of_getElem? (i := 3) rfl)) (by decide +kernel) (by decide +kernel) (by decide +kernel) (x_dk dl_118_0_ok 3 rfl))))
  (x_Lok (x_st (I := xI) (xr_ifeq (off := 28) (tg := 34) (x_dk dl_118_0_ok 4 rfl) (by decide)))))
  (x_Tok2
  (x_Lok (x_st (I := xI) (xr_iconst (n := (-1)) (z := (-1)) (v := (-1)) (x_dk dl_118_0_ok 5 rfl) (by decide) (by decide))))
  (x_Lok (x_rt (I := xI) (k := 1) ⟨(x_dk dl_118_0_ok 6 rfl), rfl⟩)))))
def tb_118 : Nat → xE := tb_118_0
theorem tb_118_ok (K : xKx) (hK : x_KP K) : ∀ pc, x_EOq cls K xI m_118 pc (tb_118 pc) := tb_118_0_ok K hK
def dl_119_0 : List (Nat × Instr × Nat) := [(0, .aload_n 0, 1), (1, .getfield 265, 3), (4, .ifCond .eq 6, 3), (10, .aload_n 0, 1), (11, .getfield 273, 3), (14, .bipush 16, 2), (16, .if_icmp .ne 6, 3), (22, .aload_n 0, 1), (23, .getfield 67, 3), (26, .aload_n 0, 1), (27, .getfield 273, 3), (30, .iload_n 1, 1), (31, .bastore, 1), (32, .aload_n 0, 1), (33, .getfield 71, 3), (36, .aload_n 0, 1), (37, .getfield 273, 3), (40, .iload_n 2, 1), (41, .iastore, 1), (42, .aload_n 0, 1), (43, .getfield 74, 3), (46, .aload_n 0, 1), (47, .getfield 273, 3), (50, .iload_n 3, 1), (51, .iastore, 1), (52, .aload_n 0, 1), (53, .getfield 77, 3), (56, .aload_n 0, 1), (57, .getfield 273, 3), (60, .iload 4, 2), (62, .iastore, 1), (63, .aload_n 0, 1), (64, .getfield 80, 3), (67, .aload_n 0, 1), (68, .getfield 273, 3), (71, .iload 5, 2), (73, .iastore, 1), (74, .aload_n 0, 1), (75, .dup, 1), (76, .getfield 273, 3), (79, .iconst 1, 1), (80, .iadd, 1), (81, .putfield 273, 3), (84, .aload_n 0, 1), (85, .getfield 273, 3), (88, .iconst 1, 1), (89, .isub, 1), (90, .ireturn, 1)]
set_option maxRecDepth 20000 in
theorem dl_119_0_ok : dl_119_0.all (fun q => decide (decode prog_14_method_18_code q.1 = .ok (q.2.1, q.2.2))) = true := by decide +kernel
def tb_119_0 : Nat → xE := (x_T 30 (x_T 14 (x_T 4 (x_T 0 (x_L 0 (0, xi_load 0 2 1, 0, 0)) (x_T 1 (x_L 1 (0, xi_getf 12 3 4, 0, 0)) (x_L 4 (0, xi_if1 0 10 7, 0, 0)))) (x_T 10 (x_L 10 (0, xi_load 0 2 11, 0, 0)) (x_T 11 (x_L 11 (0, xi_getf 12 23 14, 0, 0)) (x_L 14 (0, xi_push (0, 16, 16) 16, 0, 0))))) (x_T 23 (x_T 16 (x_L 16 (0, xi_if2 1 22 19, 0, 0)) (x_T 22 (x_L 22 (0, xi_load 0 2 23, 0, 0)) (x_L 23 (0, xi_getf 12 24 26, 0, 0)))) (x_T 26 (x_L 26 (0, xi_load 0 2 27, 0, 0)) (x_T 27 (x_L 27 (0, xi_getf 12 23 30, 0, 0)) (x_L 30 (0, xi_load 1 0 31, 0, 0)))))) (x_T 40 (x_T 33 (x_T 31 (x_L 31 (0, xi_ast true 32, 0, 0)) (x_T 32 (x_L 32 (0, xi_load 0 2 33, 0, 0)) (x_L 33 (0, xi_getf 12 25 36, 0, 0)))) (x_T 36 (x_L 36 (0, xi_load 0 2 37, 0, 0)) (x_T 37 (x_L 37 (0, xi_getf 12 23 40, 0, 0)) (x_L 40 (0, xi_load 2 0 41, 0, 0))))) (x_T 43 (x_T 41 (x_L 41 (0, xi_ast false 42, 0, 0)) (x_T 42 (x_L 42 (0, xi_load 0 2 43, 0, 0)) (x_L 43 (0, xi_getf 12 26 46, 0, 0)))) (x_T 46 (x_L 46 (0, xi_load 0 2 47, 0, 0)) (x_T 47 (x_L 47 (0, xi_getf 12 23 50, 0, 0)) (x_L 50 (0, xi_load 3 0 51, 0, 0)))))))
set_option maxRecDepth 20000 in
set_option maxHeartbeats 4000000 in
theorem tb_119_0_ok (K : xKx) (hK : x_KP K) : ∀ pc, x_EOq cls K xI m_119 pc (tb_119_0 pc) :=
  (x_Tok2
  (x_Tok2
  (x_Tok2
  (x_Tok2
  (x_Lok (x_st (I := xI) (xr_aload_n (i := 0) (x_dk dl_119_0_ok 0 rfl))))
  (x_Tok2
  (x_Lok (x_st (I := xI) (xr_getf (ci := 12) (k := 3) (ix := 265) (N := 119) (C := RX12) (T := TX12) rfl in_X12 (by decide) (in_t9 (List.mem_of_getElem? (i := 118) rfl) rfl) (x_dk dl_119_0_ok 1 rfl))))
  (x_Lok (x_st (I := xI) (xr_ifeq (off := 6) (tg := 10) (x_dk dl_119_0_ok 2 rfl) (by decide))))))
  (x_Tok2
  (x_Lok (x_st (I := xI) (xr_aload_n (i := 0) (x_dk dl_119_0_ok 3 rfl))))
  (x_Tok2
  (x_Lok (x_st (I := xI) (xr_getf (ci := 12) (k := 23) (ix := 273) (N := 119) (C := RX12) (T := TX12) rfl in_X12 (by decide) (in_t9 (List.mem_of_getElem? (i := 138) rfl) rfl) (x_dk dl_119_0_ok 4 rfl))))
  (x_Lok (x_st (I := xI) (xr_bipush (n := 16) (z := 16) (v := 16) (x_dk dl_119_0_ok 5 rfl) (by decide) (by decide)))))))
  (x_Tok2
  (x_Tok2
  (x_Lok (x_st (I := xI) (xr_icmpne (off := 6) (tg := 22) (x_dk dl_119_0_ok 6 rfl) (by decide))))
  (x_Tok2
  (x_Lok (x_st (I := xI) (xr_aload_n (i := 0) (x_dk dl_119_0_ok 7 rfl))))
  (x_Lok (x_st (I := xI) (xr_getf (ci := 12) (k := 24) (ix := 67) (N := 119) (C := RX12) (T := TX12) rfl in_X12 (by decide) (in_t9 (List.mem_of_getElem? (i := 139) rfl) rfl) (x_dk dl_119_0_ok 8 rfl))))))
  (x_Tok2
  (x_Lok (x_st (I := xI) (xr_aload_n (i := 0) (x_dk dl_119_0_ok 9 rfl))))
  (x_Tok2
  (x_Lok (x_st (I := xI) (xr_getf (ci := 12) (k := 23) (ix := 273) (N := 119) (C := RX12) (T := TX12) rfl in_X12 (by decide) (in_t9 (List.mem_of_getElem? (i := 138) rfl) rfl) (x_dk dl_119_0_ok 10 rfl))))
  (x_Lok (x_st (I := xI) (xr_iload_n (i := 1) (x_dk dl_119_0_ok 11 rfl))))))))
  (x_Tok2
  (x_Tok2
  (x_Tok2
  (x_Lok (x_st (I := xI) (xr_bastore (x_dk dl_119_0_ok 12 rfl))))
  (x_Tok2
  (x_Lok (x_st (I := xI) (xr_aload_n (i := 0) (x_dk dl_119_0_ok 13 rfl))))
  (x_Lok (x_st (I := xI) (xr_getf (ci := 12) (k := 25) (ix := 71) (N := 119) (C := RX12) (T := TX12) rfl in_X12 (by decide) (in_t9 (List.mem_of_getElem? (i := 140) rfl) rfl) (x_dk dl_119_0_ok 14 rfl))))))
  (x_Tok2
  (x_Lok (x_st (I := xI) (xr_aload_n (i := 0) (x_dk dl_119_0_ok 15 rfl))))
  (x_Tok2
  (x_Lok (x_st (I := xI) (xr_getf (ci := 12) (k := 23) (ix := 273) (N := 119) (C := RX12) (T := TX12) rfl in_X12 (by decide) (in_t9 (List.mem_of_getElem? (i := 138) rfl) rfl) (x_dk dl_119_0_ok 16 rfl))))
  (x_Lok (x_st (I := xI) (xr_iload_n (i := 2) (x_dk dl_119_0_ok 17 rfl)))))))
  (x_Tok2
  (x_Tok2
  (x_Lok (x_st (I := xI) (xr_iastore (x_dk dl_119_0_ok 18 rfl))))
  (x_Tok2
  (x_Lok (x_st (I := xI) (xr_aload_n (i := 0) (x_dk dl_119_0_ok 19 rfl))))
  (x_Lok (x_st (I := xI) (xr_getf (ci := 12) (k := 26) (ix := 74) (N := 119) (C := RX12) (T := TX12) rfl in_X12 (by decide) (in_t9 (List.mem_of_getElem? (i := 141) rfl) rfl) (x_dk dl_119_0_ok 20 rfl))))))
  (x_Tok2
  (x_Lok (x_st (I := xI) (xr_aload_n (i := 0) (x_dk dl_119_0_ok 21 rfl))))
  (x_Tok2
  (x_Lok (x_st (I := xI) (xr_getf (ci := 12) (k := 23) (ix := 273) (N := 119) (C := RX12) (T := TX12) rfl in_X12 (by decide) (in_t9 (List.mem_of_getElem? (i := 138) rfl) rfl) (x_dk dl_119_0_ok 22 rfl))))
  (x_Lok (x_st (I := xI) (xr_iload_n (i := 3) (x_dk dl_119_0_ok 23 rfl)))))))))
def tb_119_24 : Nat → xE := (x_T 71 (x_T 60 (x_T 53 (x_T 51 (x_L 51 (0, xi_ast false 52, 0, 0)) (x_T 52 (x_L 52 (0, xi_load 0 2 53, 0, 0)) (x_L 53 (0, xi_getf 12 27 56, 0, 0)))) (x_T 56 (x_L 56 (0, xi_load 0 2 57, 0, 0)) (x_T 57 (x_L 57 (0, xi_getf 12 23 60, 0, 0)) (x_L 60 (0, xi_load 4 0 62, 0, 0))))) (x_T 64 (x_T 62 (x_L 62 (0, xi_ast false 63, 0, 0)) (x_T 63 (x_L 63 (0, xi_load 0 2 64, 0, 0)) (x_L 64 (0, xi_getf 12 28 67, 0, 0)))) (x_T 67 (x_L 67 (0, xi_load 0 2 68, 0, 0)) (x_T 68 (x_L 68 (0, xi_getf 12 23 71, 0, 0)) (x_L 71 (0, xi_load 5 0 73, 0, 0)))))) (x_T 80 (x_T 75 (x_T 73 (x_L 73 (0, xi_ast false 74, 0, 0)) (x_T 74 (x_L 74 (0, xi_load 0 2 75, 0, 0)) (x_L 75 (0, xi_stk xf_dup 76, 0, 0)))) (x_T 76 (x_L 76 (0, xi_getf 12 23 79, 0, 0)) (x_T 79 (x_L 79 (0, xi_push (0, 1, 1) 80, 0, 0)) (x_L 80 (0, xi_bin xF_add 81, 0, 0))))) (x_T 85 (x_T 81 (x_L 81 (0, xi_putf 12 23 0 84, 0, 0)) (x_T 84 (x_L 84 (0, xi_load 0 2 85, 0, 0)) (x_L 85 (0, xi_getf 12 23 88, 0, 0)))) (x_T 88 (x_L 88 (0, xi_push (0, 1, 1) 89, 0, 0)) (x_T 89 (x_L 89 (0, xi_bin xF_sub 90, 0, 0)) (x_L 90 (1, x_nof, 1, 0)))))))
set_option maxRecDepth 20000 in
set_option maxHeartbeats 4000000 in
theorem tb_119_24_ok (K : xKx) (hK : x_KP K) : ∀ pc, x_EOq cls K xI m_119 pc (tb_119_24 pc) :=
  (x_Tok2
  (x_Tok2
  (x_Tok2
  (x_Tok2
  (x_Lok (x_st (I := xI) (xr_iastore (x_dk dl_119_0_ok 24 rfl))))
  (x_Tok2
  (x_Lok (x_st (I := xI) (xr_aload_n (i := 0) (x_dk dl_119_0_ok 25 rfl))))
  (x_Lok (x_st (I := xI) (xr_getf (ci := 12) (k := 27) (ix := 77) (N := 119) (C := RX12) (T := TX12) rfl in_X12 (by decide) (in_t9 (List.mem_of_getElem? (i := 142) rfl) rfl) (x_dk dl_119_0_ok 26 rfl))))))
  (x_Tok2
  (x_Lok (x_st (I := xI) (xr_aload_n (i := 0) (x_dk dl_119_0_ok 27 rfl))))
  (x_Tok2
  (x_Lok (x_st (I := xI) (xr_getf (ci := 12) (k := 23) (ix := 273) (N := 119) (C := RX12) (T := TX12) rfl in_X12 (by decide) (in_t9 (List.mem_of_getElem? (i := 138) rfl) rfl) (x_dk dl_119_0_ok 28 rfl))))
  (x_Lok (x_st (I := xI) (xr_iload (i := 4) (x_dk dl_119_0_ok 29 rfl)))))))
  (x_Tok2
  (x_Tok2
  (x_Lok (x_st (I := xI) (xr_iastore (x_dk dl_119_0_ok 30 rfl))))
  (x_Tok2
  (x_Lok (x_st (I := xI) (xr_aload_n (i := 0) (x_dk dl_119_0_ok 31 rfl))))
  (x_Lok (x_st (I := xI) (xr_getf (ci := 12) (k := 28) (ix := 80) (N := 119) (C := RX12) (T := TX12) rfl in_X12 (by decide) (in_t9 (List.mem_of_getElem? (i := 143) rfl) rfl) (x_dk dl_119_0_ok 32 rfl))))))
  (x_Tok2
  (x_Lok (x_st (I := xI) (xr_aload_n (i := 0) (x_dk dl_119_0_ok 33 rfl))))
  (x_Tok2
  (x_Lok (x_st (I := xI) (xr_getf (ci := 12) (k := 23) (ix := 273) (N := 119) (C := RX12) (T := TX12) rfl in_X12 (by decide) (in_t9 (List.mem_of_getElem? (i := 138) rfl) rfl) (x_dk dl_119_0_ok 34 rfl))))
  (x_Lok (x_st (I := xI) (xr_iload (i := 5) (x_dk dl_119_0_ok 35 rfl))))))))
  (x_Tok2
  (x_Tok2
  (x_Tok2
  (x_Lok (x_st (I := xI) (xr_iastore (x_dk dl_119_0_ok 36 rfl))))
  (x_Tok2
  (x_Lok (x_st (I := xI) (xr_aload_n (i := 0) (x_dk dl_119_0_ok 37 rfl))))
  (x_Lok (x_st (I := xI) (xr_dup (x_dk dl_119_0_ok 38 rfl))))))
  (x_Tok2
  (x_Lok (x_st (I := xI) (xr_getf (ci := 12) (k := 23) (ix := 273) (N := 119) (C := RX12) (T := TX12) rfl in_X12 (by decide) (in_t9 (List.mem_of_getElem? (i := 138) rfl) rfl) (x_dk dl_119_0_ok 39 rfl))))
  (x_Tok2
  (x_Lok (x_st (I := xI) (xr_iconst (n := 1) (z := 1) (v := 1) (x_dk dl_119_0_ok 40 rfl) (by decide) (by decide))))
  (x_Lok (x_st (I := xI) (xr_iadd (x_dk dl_119_0_ok 41 rfl)))))))
  (x_Tok2
  (x_Tok2
  (x_Lok (x_st (I := xI) (xr_putf (ci := 12) (k := 23) (ix := 273) (N := 119) (fk := 0) (C := RX12) (T := TX12) (ty0 := tyX12) (ty := .int) rfl in_X12 tyX12_ok nmX12 (by decide) (in_t9 (List.mem_of_getElem? (i := 138) rfl) rfl) rfl rfl x_fit_int (x_dk dl_119_0_ok 42 rfl))))
  (x_Tok2
  (x_Lok (x_st (I := xI) (xr_aload_n (i := 0) (x_dk dl_119_0_ok 43 rfl))))
  (x_Lok (x_st (I := xI) (xr_getf (ci := 12) (k := 23) (ix := 273) (N := 119) (C := RX12) (T := TX12) rfl in_X12 (by decide) (in_t9 (List.mem_of_getElem? (i := 138) rfl) rfl) (x_dk dl_119_0_ok 44 rfl))))))
  (x_Tok2
  (x_Lok (x_st (I := xI) (xr_iconst (n := 1) (z := 1) (v := 1) (x_dk dl_119_0_ok 45 rfl) (by decide) (by decide))))
  (x_Tok2
  (x_Lok (x_st (I := xI) (xr_isub (x_dk dl_119_0_ok 46 rfl))))
  (x_Lok (x_rt (I := xI) (k := 1) ⟨(x_dk dl_119_0_ok 47 rfl), rfl⟩)))))))
def tb_119 : Nat → xE := (x_T 50 tb_119_0 tb_119_24)
theorem tb_119_ok (K : xKx) (hK : x_KP K) : ∀ pc, x_EOq cls K xI m_119 pc (tb_119 pc) := (x_Tok2 (tb_119_0_ok K hK) (tb_119_24_ok K hK))
def dl_120_0 : List (Nat × Instr × Nat) := [(0, .iload_n 1, 1), (1, .iload_n 2, 1), (2, .invokestatic 313, 3), (5, .ifCond .eq 27, 3), (8, .iload_n 3, 1), (9, .i2l, 1), (10, .lconst 0, 1), (11, .ldc2_w 326, 3), (14, .invokestatic 301, 3), (17, .ifCond .eq 15, 3), (20, .aload_n 0, 1), (21, .iconst 0, 1), (22, .iload_n 1, 1), (23, .iload_n 2, 1), (24, .iload_n 3, 1), (25, .iconst 0, 1), (26, .invokevirtual 338, 3), (29, .goto 4, 3), (32, .iconst (-1), 1), (33, .ireturn, 1)]
set_option maxRecDepth 20000 in
theorem dl_120_0_ok : dl_120_0.all (fun q => decide (decode prog_14_method_19_code q.1 = .ok (q.2.1, q.2.2))) = true := by decide +kernel
def tb_120_0 : Nat → xE := (x_T 17 (x_T 8 (x_T 1 (x_T 0 (x_L 0 (0, xi_load 1 0 1, 0, 0)) (x_L 1 (0, xi_load 2 0 2, 0, 0))) (x_T 2 (x_L 2 (2, x_nof, 109, 2)) (x_T 5 (x_L 5 (0, xi_if1 0 32 8, 0, 0)) (x_L 8 (0, xi_load 3 0 9, 0, 0))))) (x_T 10 (x_T 9 (x_L 9 (0, xi_i2l 10, 0, 0)) (x_L 10 (0, xi_push (4, 0, 0) 11, 0, 0))) (x_T 11 (x_L 11 (0, xi_push (4, 8000, 8000) 14, 0, 0)) (x_T 14 (x_L 14 (2, x_nof, 103, 3)) (x_L 17 (0, xi_if1 0 32 20, 0, 0)))))) (x_T 24 (x_T 21 (x_T 20 (x_L 20 (0, xi_load 0 2 21, 0, 0)) (x_L 21 (0, xi_push (0, 0, 0) 22, 0, 0))) (x_T 22 (x_L 22 (0, xi_load 1 0 23, 0, 0)) (x_T 23 (x_L 23 (0, xi_load 2 0 24, 0, 0)) (x_L 24 (0, xi_load 3 0 25, 0, 0))))) (x_T 26 (x_T 25 (x_L 25 (0, xi_push (0, 0, 0) 26, 0, 0)) (x_L 26 (2, x_nof, 119, 6))) (x_T 29 (x_L 29 (0, xi_goto 33, 0, 0)) (x_T 32 (x_L 32 (0, xi_push (0, (-1), (-1)) 33, 0, 0)) (x_L 33 (1, x_nof, 1, 0)))))))
set_option maxRecDepth 20000 in
set_option maxHeartbeats 4000000 in
theorem tb_120_0_ok (K : xKx) (hK : x_KP K) : ∀ pc, x_EOq cls K xI m_120 pc (tb_120_0 pc) :=
  (x_Tok2
  (x_Tok2
  (x_Tok2
  (x_Tok2
  (x_Lok (x_st (I := xI) (xr_iload_n (i := 1) (x_dk dl_120_0_ok 0 rfl))))
  (x_Lok (x_st (I := xI) (xr_iload_n (i := 2) (x_dk dl_120_0_ok 1 rfl)))))
  (x_Tok2
  (x_Lok (x_ca (I := xI) (q' := m_109) rfl (xr_callS (q' := m_109) (ix := 313) (n := 2) (in_t11 (List.mem_of_getElem? (i := 48) rfl) rfl) good_w (in_t1 (List.mem_of_getElem? (i := 14) rfl) rfl) (in_t11 (List.mem_of_getElem? (i := 46) rfl) rfl) (in_t11 (List.mem_of_getElem? (i := 47) rfl) rfl) (by decide +kernel) (by decide +kernel) (x_dk dl_120_0_ok 2 rfl))))
  (x_Tok2
  (x_Lok (x_st (I := xI) (xr_ifeq (off := 27) (tg := 32) (x_dk dl_120_0_ok 3 rfl) (by decide))))
  (x_Lok (x_st (I := xI) (xr_iload_n (i := 3) (x_dk dl_120_0_ok 4 rfl)))))))
  (x_Tok2
  (x_Tok2
  (x_Lok (x_st (I := xI) (xr_i2l (x_dk dl_120_0_ok 5 rfl))))
  (x_Lok (x_st (I := xI) (xr_lconst (n := 0) (z := 0) (v := 0) (x_dk dl_120_0_ok 6 rfl) (by decide) (by decide)))))
  (x_Tok2
  (x_Lok (x_st (I := xI) (xr_ldc2 (ix := 326) (z := 8000) (v := 8000) (x_dk dl_120_0_ok 7 rfl) (in_t11 (List.mem_of_getElem? (i := 17) rfl) rfl) (by decide))))
  (x_Tok2
  (x_Lok (x_ca (I := xI) (q' := m_103) rfl (xr_callS (q' := m_103) (ix := 301) (n := 3) (in_t11 (List.mem_of_getElem? (i := 7) rfl) rfl) good_w (in_t1 (List.mem_of_getElem? (i := 14) rfl) rfl) (in_t11 (List.mem_of_getElem? (i := 5) rfl) rfl) (in_t11 (List.mem_of_getElem? (i := 6) rfl) rfl) (by decide +kernel) (by decide +kernel) (x_dk dl_120_0_ok 8 rfl))))
  (x_Lok (x_st (I := xI) (xr_ifeq (off := 15) (tg := 32) (x_dk dl_120_0_ok 9 rfl) (by decide))))))))
  (x_Tok2
  (x_Tok2
  (x_Tok2
  (x_Lok (x_st (I := xI) (xr_aload_n (i := 0) (x_dk dl_120_0_ok 10 rfl))))
  (x_Lok (x_st (I := xI) (xr_iconst (n := 0) (z := 0) (v := 0) (x_dk dl_120_0_ok 11 rfl) (by decide) (by decide)))))
  (x_Tok2
  (x_Lok (x_st (I := xI) (xr_iload_n (i := 1) (x_dk dl_120_0_ok 12 rfl))))
  (x_Tok2
  (x_Lok (x_st (I := xI) (xr_iload_n (i := 2) (x_dk dl_120_0_ok 13 rfl))))
  (x_Lok (x_st (I := xI) (xr_iload_n (i := 3) (x_dk dl_120_0_ok 14 rfl)))))))
  (x_Tok2
  (x_Tok2
  (x_Lok (x_st (I := xI) (xr_iconst (n := 0) (z := 0) (v := 0) (x_dk dl_120_0_ok 15 rfl) (by decide) (by decide))))
  (x_Lok (x_ca (I := xI) (q' := m_119) rfl (xr_callV (q' := m_119) (ix := 338) (n := 5) (in_t11 (List.mem_of_getElem? (i := 54) rfl) rfl) good_w (in_t1 (List.mem_of_getElem? (i := 14) rfl) rfl) (in_t11 (List.mem_of_getElem? (i := 51) rfl) rfl) (in_t11 (List.mem_of_getElem? (i := 53) rfl) rfl) (in_s8 (List.mem_of_getElem? (i := 4) rfl)) (by decide +kernel) (by decide +kernel) (by decide +kernel) (x_dk dl_120_0_ok 16 rfl)))))
  (x_Tok2
  (x_Lok (x_st (I := xI) (xr_goto (off := 4) (tg := 33) (x_dk dl_120_0_ok 17 rfl) (by decide))))
  (x_Tok2
  (x_Lok (x_st (I := xI) (xr_iconst (n := (-1)) (z := (-1)) (v := (-1)) (x_dk dl_120_0_ok 18 rfl) (by decide) (by decide))))
  (x_Lok (x_rt (I := xI) (k := 1) ⟨(x_dk dl_120_0_ok 19 rfl), rfl⟩)))))))
def tb_120 : Nat → xE := tb_120_0
theorem tb_120_ok (K : xKx) (hK : x_KP K) : ∀ pc, x_EOq cls K xI m_120 pc (tb_120 pc) := tb_120_0_ok K hK
def dl_121_0 : List (Nat × Instr × Nat) := [(0, .iload_n 1, 1), (1, .iload_n 2, 1), (2, .iload_n 3, 1), (3, .iload 4, 2), (5, .invokestatic 342, 3), (8, .ifCond .eq 16, 3), (11, .aload_n 0, 1), (12, .iconst 1, 1), (13, .iload_n 1, 1), (14, .iload_n 2, 1), (15, .iload_n 3, 1), (16, .iload 4, 2), (18, .invokevirtual 338, 3), (21, .goto 4, 3), (24, .iconst (-1), 1), (25, .ireturn, 1)]
set_option maxRecDepth 20000 in
theorem dl_121_0_ok : dl_121_0.all (fun q => decide (decode prog_14_method_20_code q.1 = .ok (q.2.1, q.2.2))) = true := by decide +kernel
def tb_121_0 : Nat → xE := (x_T 12 (x_T 3 (x_T 1 (x_T 0 (x_L 0 (0, xi_load 1 0 1, 0, 0)) (x_L 1 (0, xi_load 2 0 2, 0, 0))) (x_T 2 (x_L 2 (0, xi_load 3 0 3, 0, 0)) (x_L 3 (0, xi_load 4 0 5, 0, 0)))) (x_T 8 (x_T 5 (x_L 5 (2, x_nof, 110, 4)) (x_L 8 (0, xi_if1 0 24 11, 0, 0))) (x_T 11 (x_L 11 (0, xi_load 0 2 12, 0, 0)) (x_L 12 (0, xi_push (0, 1, 1) 13, 0, 0))))) (x_T 16 (x_T 14 (x_T 13 (x_L 13 (0, xi_load 1 0 14, 0, 0)) (x_L 14 (0, xi_load 2 0 15, 0, 0))) (x_T 15 (x_L 15 (0, xi_load 3 0 16, 0, 0)) (x_L 16 (0, xi_load 4 0 18, 0, 0)))) (x_T 21 (x_T 18 (x_L 18 (2, x_nof, 119, 6)) (x_L 21 (0, xi_goto 25, 0, 0))) (x_T 24 (x_L 24 (0, xi_push (0, (-1), (-1)) 25, 0, 0)) (x_L 25 (1, x_nof, 1, 0))))))
set_option maxRecDepth 20000 in
set_option maxHeartbeats 4000000 in
theorem tb_121_0_ok (K : xKx) (hK : x_KP K) : ∀ pc, x_EOq cls K xI m_121 pc (tb_121_0 pc) :=
  (x_Tok2
  (x_Tok2
  (x_Tok2
  (x_Tok2
  (x_Lok (x_st (I := xI) (xr_iload_n (i := 1) (x_dk dl_121_0_ok 0 rfl))))
  (x_Lok (x_st (I := xI) (xr_iload_n (i := 2) (x_dk dl_121_0_ok 1 rfl)))))
  (x_Tok2
  (x_Lok (x_st (I := xI) (xr_iload_n (i := 3) (x_dk dl_121_0_ok 2 rfl))))
  (x_Lok (x_st (I := xI) (xr_iload (i := 4) (x_dk dl_121_0_ok 3 rfl))))))
  (x_Tok2
  (x_Tok2
  (x_Lok (x_ca (I := xI) (q' := m_110) rfl (xr_callS (q' := m_110) (ix := 342) (n := 4) (in_t11 (List.mem_of_getElem? (i := 61) rfl) rfl) good_w (in_t1 (List.mem_of_getElem? (i := 14) rfl) rfl) (in_t11 (List.mem_of_getElem? (i := 59) rfl) rfl) (in_t11 (List.mem_of_getElem? (i := 60) rfl) rfl) (by decide +kernel) (by decide +kernel) (x_dk dl_121_0_ok 4 rfl))))
  (x_Lok (x_st (I := xI) (xr_ifeq (off := 16) (tg := 24) (x_dk dl_121_0_ok 5 rfl) (by decide)))))
  (x_Tok2
  (x_Lok (x_st (I := xI) (xr_aload_n (i := 0) (x_dk dl_121_0_ok 6 rfl))))
  (x_Lok (x_st (I := xI) (xr_iconst (n := 1) (z := 1) (v := 1) (x_dk dl_121_0_ok 7 rfl) (by decide) (by decide)))))))
  (x_Tok2
  (x_Tok2
  (x_Tok2
  (x_Lok (x_st (I := xI) (xr_iload_n (i := 1) (x_dk dl_121_0_ok 8 rfl))))
  (x_Lok (x_st (I := xI) (xr_iload_n (i := 2) (x_dk dl_121_0_ok 9 rfl)))))
  (x_Tok2
  (x_Lok (x_st (I := xI) (xr_iload_n (i := 3) (x_dk dl_121_0_ok 10 rfl))))
  (x_Lok (x_st (I := xI) (xr_iload (i := 4) (x_dk dl_121_0_ok 11 rfl))))))
  (x_Tok2
  (x_Tok2
  (x_Lok (x_ca (I := xI) (q' := m_119) rfl (xr_callV (q' := m_119) (ix := 338) (n := 5) (in_t11 (List.mem_of_getElem? (i := 54) rfl) rfl) good_w (in_t1 (List.mem_of_getElem? (i := 14) rfl) rfl) (in_t11 (List.mem_of_getElem? (i := 51) rfl) rfl) (in_t11 (List.mem_of_getElem? (i := 53) rfl) rfl) (in_s8 (List.mem_of_getElem? (i := 4) rfl)) (by decide +kernel) (by decide +kernel) (by decide +kernel) (x_dk dl_121_0_ok 12 rfl))))
  (x_Lok (x_st (I := xI) (xr_goto (off := 4) (tg := 25) (x_dk dl_121_0_ok 13 rfl) (by decide)))))
  (x_Tok2
  (x_Lok (x_st (I := xI) (xr_iconst (n := (-1)) (z := (-1)) (v := (-1)) (x_dk dl_121_0_ok 14 rfl) (by decide) (by decide))))
  (x_Lok (x_rt (I := xI) (k := 1) ⟨(x_dk dl_121_0_ok 15 rfl), rfl⟩))))))
def tb_121 : Nat → xE := tb_121_0
theorem tb_121_ok (K : xKx) (hK : x_KP K) : ∀ pc, x_EOq cls K xI m_121 pc (tb_121 pc) := tb_121_0_ok K hK
def dl_122_0 : List (Nat × Instr × Nat) := [(0, .aload_n 0, 1), (1, .iload_n 1, 1), (2, .invokevirtual 305, 3), (5, .ifCond .eq 31, 3), (36, .iconst (-1), 1), (37, .ireturn, 1)]
set_option maxRecDepth 20000 in
theorem dl_122_0_ok : dl_122_0.all (fun q => decide (decode prog_14_method_21_code q.1 = .ok (q.2.1, q.2.2))) = true := by decide +kernel
def tb_122_0 : Nat → xE := (x_T 2 (x_T 0 (x_L 0 (0, xi_load 0 2 1, 0, 0)) (x_T 1 (x_L 1 (0, xi_load 1 0 2, 0, 0)) (x_L 2 (2, x_nof, 107, 2)))) (x_T 5 (x_L 5 (0, xi_if1 0 36 8, 0, 0)) (x_T 36 (x_L 36 (0, xi_push (0, (-1), (-1)) 37, 0, 0)) (x_L 37 (1, x_nof, 1, 0)))))
set_option maxRecDepth 20000 in
set_option maxHeartbeats 4000000 in
theorem tb_122_0_ok (K : xKx) (hK : x_KP K) : ∀ pc, x_EOq cls K xI m_122 pc (tb_122_0 pc) :=
  (x_Tok2
  (x_Tok2
  (x_Lok (x_st (I := xI) (xr_aload_n (i := 0) (x_dk dl_122_0_ok 0 rfl))))
  (x_Tok2
  (x_Lok (x_st (I := xI) (xr_iload_n (i := 1) (x_dk dl_122_0_ok 1 rfl))))
  (x_Lok (x_ca (I := xI) (q' := m_107) rfl (xr_callV (q' := m_107) (ix := 305) (n := 1) (in_t11 (List.mem_of_getElem? (i := 27) rfl) rfl) good_w (in_t1 (List.mem_of_getElem? (i := 14) rfl) rfl) (in_t11 (List.mem_of_getElem? (i := 24) rfl) rfl) (in_t11 (List.mem_of_getElem? (i := 26) rfl) rfl) (in_s8 (List.mem_of_getElem? (i := 2) rfl)) (by decide +kernel) (by decide +kernel) (by decide +kernel) (x_dk dl_122_0_ok 2 rfl))))))
  (x_Tok2
  (x_Lok (x_st (I := xI) (xr_ifeq (off := 31) (tg := 36) (x_dk dl_122_0_ok 3 rfl) (by decide))))
  (x_Tok2
  (x_Lok (x_st (I := xI) (xr_iconst (n := (-1)) (z := (-1)) (v := (-1)) (x_dk dl_122_0_ok 4 rfl) (by decide) (by decide))))
  (x_Lok (x_rt (I := xI) (k := 1) ⟨(x_dk dl_122_0_ok 5 rfl), rfl⟩)))))
def tb_122 : Nat → xE := tb_122_0
theorem tb_122_ok (K : xKx) (hK : x_KP K) : ∀ pc, x_EOq cls K xI m_122 pc (tb_122 pc) := tb_122_0_ok K hK
def dl_123_0 : List (Nat × Instr × Nat) := [(0, .iload_n 1, 1), (1, .iload_n 2, 1), (2, .invokestatic 313, 3), (5, .ifCond .eq 41, 3), (8, .iload_n 3, 1), (9, .i2l, 1), (10, .lconst 0, 1), (11, .ldc2_w 348, 3), (14, .invokestatic 301, 3), (17, .ifCond .eq 29, 3), (20, .iload 4, 2), (22, .i2l, 1), (23, .lconst 0, 1), (24, .ldc2_w 311, 3), (27, .invokestatic 301, 3), (30, .ifCond .eq 16, 3), (33, .iload 5, 2), (35, .i2l, 1), (36, .lconst 0, 1), (37, .ldc2_w 336, 3), (40, .invokestatic 301, 3), (43, .ifCond .ne 5, 3), (46, .iconst (-1), 1), (47, .ireturn, 1), (48, .iload_n 3, 1), (49, .iconst 2, 1), (50, .if_icmp .ge 8, 3), (53, .iload 4, 2), (55, .goto 6, 3), (58, .iload 4, 2), (60, .ineg, 1), (61, .istore 6, 2), (63, .iload_n 3, 1), (64, .iconst 2, 1), (65, .irem, 1), (66, .ifCond .ne 10, 3), (69, .iload_n 1, 1), (70, .iload 6, 2), (72, .iadd, 1), (73, .goto 4, 3), (76, .iload_n 1, 1), (77, .iload_n 3, 1), (78, .iconst 2, 1), (79, .irem, 1), (80, .ifCond .ne 7, 3), (83, .iload_n 2, 1), (84, .goto 7, 3), (87, .iload_n 2, 1), (88, .iload 6, 2), (90, .iadd, 1), (91, .invokestatic 313, 3), (94, .ifCond .ne 5, 3), (97, .iconst (-1), 1), (98, .ireturn, 1), (99, .aload_n 0, 1), (100, .getfield 265, 3), (103, .ifCond .eq 6, 3), (109, .aload_n 0, 1), (110, .getfield 276, 3), (113, .iconst 4, 1), (114, .if_icmp .ne 6, 3), (120, .aload_n 0, 1), (121, .getfield 86, 3), (124, .aload_n 0, 1), (125, .getfield 276, 3), (128, .iload_n 1, 1), (129, .iastore, 1), (130, .aload_n 0, 1), (131, .getfield 89, 3), (134, .aload_n 0, 1), (135, .getfield 276, 3), (138, .iload_n 2, 1), (139, .iastore, 1), (140, .aload_n 0, 1), (141, .getfield 92, 3), (144, .aload_n 0, 1), (145, .getfield 276, 3), (148, .iload_n 3, 1), (149, .iastore, 1), (150, .aload_n 0, 1), (151, .getfield 95, 3), (154, .aload_n 0, 1), (155, .getfield 276, 3), (158, .iload 4, 2), (160, .iastore, 1), (161, .aload_n 0, 1), (162, .getfield 98, 3), (165, .aload_n 0, 1), (166, .getfield 276, 3), (169, .iconst 0, 1), (170, .iastore, 1), (171, .aload_n 0, 1), (172, .getfield 104, 3), (175, .aload_n 0, 1), (176, .getfield 276, 3), (179, .iconst (-1), 1), (180, .iastore, 1), (181, .aload_n 0, 1), (182, .getfield 101, 3), (185, .aload_n 0, 1)]
set_option maxRecDepth 20000 in
theorem dl_123_0_ok : dl_123_0.all (fun q => decide (decode prog_14_method_22_code q.1 = .ok (q.2.1, q.2.2))) = true := by decide +kernel
def dl_123_1 : List (Nat × Instr × Nat) := [(186, .getfield 276, 3), (189, .iload 5, 2), (191, .iastore, 1), (192, .aload_n 0, 1), (193, .dup, 1), (194, .getfield 276, 3), (197, .iconst 1, 1), (198, .iadd, 1), (199, .putfield 276, 3), (202, .aload_n 0, 1), (203, .getfield 276, 3), (206, .iconst 1, 1), (207, .isub, 1), (208, .ireturn, 1)]
set_option maxRecDepth 20000 in
theorem dl_123_1_ok : dl_123_1.all (fun q => decide (decode prog_14_method_22_code q.1 = .ok (q.2.1, q.2.2))) = true := by decide +kernel
def tb_123_0 : Nat → xE := (x_T 24 (x_T 10 (x_T 2 (x_T 0 (x_L 0 (0, xi_load 1 0 1, 0, 0)) (x_T 1 (x_L 1 (0, xi_load 2 0 2, 0, 0)) (x_L 2 (2, x_nof, 109, 2)))) (x_T 8 (x_T 5 (x_L 5 (0, xi_if1 0 46 8, 0, 0)) (x_L 8 (0, xi_load 3 0 9, 0, 0))) (x_T 9 (x_L 9 (0, xi_i2l 10, 0, 0)) (x_L 10 (0, xi_push (4, 0, 0) 11, 0, 0))))) (x_T 17 (x_T 11 (x_L 11 (0, xi_push (4, 3, 3) 14, 0, 0)) (x_T 14 (x_L 14 (2, x_nof, 103, 3)) (x_L 17 (0, xi_if1 0 46 20, 0, 0)))) (x_T 22 (x_T 20 (x_L 20 (0, xi_load 4 0 22, 0, 0)) (x_L 22 (0, xi_i2l 23, 0, 0))) (x_T 23 (x_L 23 (0, xi_push (4, 0, 0) 24, 0, 0)) (x_L 24 (0, xi_push (4, 16000, 16000) 27, 0, 0)))))) (x_T 40 (x_T 33 (x_T 27 (x_L 27 (2, x_nof, 103, 3)) (x_T 30 (x_L 30 (0, xi_if1 0 46 33, 0, 0)) (x_L 33 (0, xi_load 5 0 35, 0, 0)))) (x_T 36 (x_T 35 (x_L 35 (0, xi_i2l 36, 0, 0)) (x_L 36 (0, xi_push (4, 0, 0) 37, 0, 0))) (x_T 37 (x_L 37 (0, xi_push (4, 2000, 2000) 40, 0, 0)) (x_L 40 (2, x_nof, 103, 3))))) (x_T 47 (x_T 43 (x_L 43 (0, xi_if1 1 48 46, 0, 0)) (x_T 46 (x_L 46 (0, xi_push (0, (-1), (-1)) 47, 0, 0)) (x_L 47 (1, x_nof, 1, 0)))) (x_T 49 (x_T 48 (x_L 48 (0, xi_load 3 0 49, 0, 0)) (x_L 49 (0, xi_push (0, 2, 2) 50, 0, 0))) (x_T 50 (x_L 50 (0, xi_if2 3 58 53, 0, 0)) (x_L 53 (0, xi_load 4 0 55, 0, 0)))))))
set_option maxRecDepth 20000 in
set_option maxHeartbeats 4000000 in
theorem tb_123_0_ok (K : xKx) (hK : x_KP K) : ∀ pc, x_EOq cls K xI m_123 pc (tb_123_0 pc) :=
  (x_Tok2
  (x_Tok2
  (x_Tok2
  (x_Tok2
  (x_Lok (x_st (I := xI) (xr_iload_n (i := 1) (x_dk dl_123_0_ok 0 rfl))))
  (x_Tok2
  (x_Lok (x_st (I := xI) (xr_iload_n (i := 2) (x_dk dl_123_0_ok 1 rfl))))
  (x_Lok (x_ca (I := xI) (q' := m_109) rfl (xr_callS (q' := m_109) (ix := 313) (n := 2) (in_t11 (List.mem_of_getElem? (i := 48) rfl) rfl) good_w (in_t1 (List.mem_of_getElem? (i := 14) rfl) rfl) (in_t11 (List.mem_of_getElem? (i := 46) rfl) rfl) (in_t11 (List.mem_of_getElem? (i := 47) rfl) rfl) (by decide +kernel) (by decide +kernel) (x_dk dl_123_0_ok 2 rfl))))))
  (x_Tok2
  (x_Tok2
  (x_Lok (x_st (I := xI) (xr_ifeq (off := 41) (tg := 46) (x_dk dl_123_0_ok 3 rfl) (by decide))))
  (x_Lok (x_st (I := xI) (xr_iload_n (i := 3) (x_dk dl_123_0_ok 4 rfl)))))
  (x_Tok2
  (x_Lok (x_st (I := xI) (xr_i2l (x_dk dl_123_0_ok 5 rfl))))
  (x_Lok (x_st (I := xI) (xr_lconst (n := 0) (z := 0) (v := 0) (x_dk dl_123_0_ok 6 rfl) (by decide) (by decide)))))))
  (x_Tok2
  (x_Tok2
  (x_Lok (x_st (I := xI) (xr_ldc2 (ix := 348) (z := 3) (v := 3) (x_dk dl_123_0_ok 7 rfl) (in_t11 (List.mem_of_getElem? (i := 71) rfl) rfl) (by decide))))
  (x_Tok2
  (x_Lok (x_ca (I := xI) (q' := m_103) rfl (xr_callS (q' := m_103) (ix := 301) (n := 3) (in_t11 (List.mem_of_getElem? (i := 7) rfl) rfl) good_w (in_t1 (List.mem_of_getElem? (i := 14) rfl) rfl) (in_t11 (List.mem_of_getElem? (i := 5) rfl) rfl) (in_t11 (List.mem_of_getElem? (i := 6) rfl) rfl) (by decide +kernel) (by decide +kernel) (x_dk dl_123_0_ok 8 rfl))))
  (x_Lok (x_st (I := xI) (xr_ifeq (off := 29) (tg := 46) (x_dk dl_123_0_ok 9 rfl) (by decide))))))
  (x_Tok2
  (x_Tok2
  (x_Lok (x_st (I := xI) (xr_iload (i := 4) (x_dk dl_123_0_ok 10 rfl))))
  (x_Lok (x_st (I := xI) (xr_i2l (x_dk dl_123_0_ok 11 rfl)))))
  (x_Tok2
  (x_Lok (x_st (I := xI) (xr_lconst (n := 0) (z := 0) (v := 0) (x_dk dl_123_0_ok 12 rfl) (by decide) (by decide))))
  (x_Lok (x_st (I := xI) (xr_ldc2 (ix := 311) (z := 16000) (v := 16000) (x_dk dl_123_0_ok 13 rfl) (in_t11 (List.mem_of_getElem? (i := 50) rfl) rfl) (by decide))))))))
  (x_Tok2
  (x_Tok2
  (x_Tok2
  (x_Lok (x_ca (I := xI) (q' := m_103) rfl (xr_callS (q' := m_103) (ix := 301) (n := 3) (in_t11 (List.mem_of_getElem? (i := 7) rfl) rfl) good_w (in_t1 (List.mem_of_getElem? (i := 14) rfl) rfl) (in_t11 (List.mem_of_getElem? (i := 5) rfl) rfl) (in_t11 (List.mem_of_getElem? (i := 6) rfl) rfl) (by decide +kernel) (by decide +kernel) (x_dk dl_123_0_ok 14 rfl))))
  (x_Tok2
  (x_Lok (x_st (I := xI) (xr_ifeq (off := 16) (tg := 46) (x_dk dl_123_0_ok 15 rfl) (by decide))))
  (x_Lok (x_st (I := xI) (xr_iload (i := 5) (x_dk dl_123_0_ok 16 rfl))))))
  (x_Tok2
  (x_Tok2
  (x_Lok (x_st (I := xI) (xr_i2l (x_dk dl_123_0_ok 17 rfl))))
  (x_Lok (x_st (I := xI) (xr_lconst (n := 0) (z := 0) (v := 0) (x_dk dl_123_0_ok 18 rfl) (by decide) (by decide)))))
  (x_Tok2
  (x_Lok (x_st (I := xI) (xr_ldc2 (ix := 336) (z := 2000) (v := 2000) (x_dk dl_123_0_ok 19 rfl) (in_t11 (List.mem_of_getElem? (i := 41) rfl) rfl) (by decide))))
  (x_Lok (x_ca (I := xI) (q' := m_103) rfl (xr_callS (q' := m_103) (ix := 301) (n := 3) (in_t11 (List.mem_of_getElem? (i := 7) rfl) rfl) good_w (in_t1 (List.mem_of_getElem? (i := 14) rfl) rfl) (in_t11 (List.mem_of_getElem? (i := 5) rfl) rfl) (in_t11 (List.mem_of_getElem? (i := 6) rfl) rfl) (by decide +kernel) (by decide +kernel) (x_dk dl_123_0_ok 20 rfl)))))))
  (x_Tok2
  (x_Tok2
  (x_Lok (x_st (I := xI) (xr_ifne (off := 5) (tg := 48) (x_dk dl_123_0_ok 21 rfl) (by decide))))
  (x_Tok2
  (x_Lok (x_st (I := xI) (xr_iconst (n := (-1)) (z := (-1)) (v := (-1)) (x_dk dl_123_0_ok 22 rfl) (by decide) (by decide))))
  (x_Lok (x_rt (I := xI) (k := 1) ⟨(x_dk dl_123_0_ok 23 rfl), rfl⟩))))
  (x_Tok2
  (x_Tok2
  (x_Lok (x_st (I := xI) (xr_iload_n (i := 3) (x_dk dl_123_0_ok 24 rfl))))
  (x_Lok (x_st (I := xI) (xr_iconst (n := 2) (z := 2) (v := 2) (x_dk dl_123_0_ok 25 rfl) (by decide) (by decide)))))
  (x_Tok2
  (x_Lok (x_st (I := xI) (xr_icmpge (off := 8) (tg := 58) (x_dk dl_123_0_ok 26 rfl) (by decide))))
  (x_Lok (x_st (I := xI) (xr_iload (i := 4) (x_dk dl_123_0_ok 27 rfl)))))))))
def tb_123_28 : Nat → xE := (x_T 77 (x_T 65 (x_T 60 (x_T 55 (x_L 55 (0, xi_goto 61, 0, 0)) (x_T 58 (x_L 58 (0, xi_load 4 0 60, 0, 0)) (x_L 60 (0, xi_nT (3, 4, 0) 8 61, 0, 0)))) (x_T 63 (x_T 61 (x_L 61 (0, xi_stor 6 0 63, 0, 0)) (x_L 63 (0, xi_load 3 0 64, 0, 0))) (x_T 64 (x_L 64 (0, xi_push (0, 2, 2) 65, 0, 0)) (x_L 65 (0, xi_bin xF_rem 66, 0, 0))))) (x_T 70 (x_T 66 (x_L 66 (0, xi_if1 1 76 69, 0, 0)) (x_T 69 (x_L 69 (0, xi_load 1 0 70, 0, 0)) (x_L 70 (0, xi_load 6 0 72, 0, 0)))) (x_T 73 (x_T 72 (x_L 72 (0, xi_or (x_top2 (3, 1, 0) (3, 4, 0)) (xi_bT (3, 1, 0) (3, 4, 0) 10 xG_add 73) (xi_or (x_top2 (3, 1, 0) (3, 8, 0)) (xi_bT (3, 1, 0) (3, 8, 0) 11 xG_add 73) (xi_bin xF_add 73)), 0, 0)) (x_L 73 (0, xi_goto 77, 0, 0))) (x_T 76 (x_L 76 (0, xi_load 1 0 77, 0, 0)) (x_L 77 (0, xi_load 3 0 78, 0, 0)))))) (x_T 88 (x_T 80 (x_T 78 (x_L 78 (0, xi_push (0, 2, 2) 79, 0, 0)) (x_T 79 (x_L 79 (0, xi_bin xF_rem 80, 0, 0)) (x_L 80 (0, xi_if1 1 87 83, 0, 0)))) (x_T 84 (x_T 83 (x_L 83 (0, xi_load 2 0 84, 0, 0)) (x_L 84 (0, xi_goto 91, 0, 0))) (x_T 87 (x_L 87 (0, xi_load 2 0 88, 0, 0)) (x_L 88 (0, xi_load 6 0 90, 0, 0))))) (x_T 97 (x_T 91 (x_T 90 (x_L 90 (0, xi_or (x_top2 (3, 2, 0) (3, 4, 0)) (xi_bT (3, 2, 0) (3, 4, 0) 12 xG_add 91) (xi_or (x_top2 (3, 2, 0) (3, 8, 0)) (xi_bT (3, 2, 0) (3, 8, 0) 13 xG_add 91) (xi_bin xF_add 91)), 0, 0)) (x_L 91 (2, x_nof, 109, 2))) (x_T 94 (x_L 94 (0, xi_if1 1 99 97, 0, 0)) (x_L 97 (0, xi_push (0, (-1), (-1)) 98, 0, 0)))) (x_T 99 (x_T 98 (x_L 98 (1, x_nof, 1, 0)) (x_L 99 (0, xi_load 0 2 100, 0, 0))) (x_T 100 (x_L 100 (0, xi_getf 12 3 103, 0, 0)) (x_L 103 (0, xi_if1 0 109 106, 0, 0)))))))
set_option maxRecDepth 20000 in
set_option maxHeartbeats 4000000 in
theorem tb_123_28_ok (K : xKx) (hK : x_KP K) : ∀ pc, x_EOq cls K xI m_123 pc (tb_123_28 pc) :=
  (x_Tok2
  (x_Tok2
  (x_Tok2
  (x_Tok2
  (x_Lok (x_st (I := xI) (xr_goto (off := 6) (tg := 61) (x_dk dl_123_0_ok 28 rfl) (by decide))))
  (x_Tok2
  (x_Lok (x_st (I := xI) (xr_iload (i := 4) (x_dk dl_123_0_ok 29 rfl))))
  (x_Lok (x_st (I := xI) (xr_tnegI (px := (3, 4, 0)) (c := 8) (x_dk dl_123_0_ok 30 rfl) (x_hV1 hK rfl (by decide) (fun f h => by unfold x_fR at h; show f 8 = -f 4; omega)))))))
  (x_Tok2
  (x_Tok2
  (x_Lok (x_st (I := xI) (xr_istore (i := 6) (x_dk dl_123_0_ok 31 rfl) (by decide +kernel))))
  (x_Lok (x_st (I := xI) (xr_iload_n (i := 3) (x_dk dl_123_0_ok 32 rfl)))))
  (x_Tok2
  (x_Lok (x_st (I := xI) (xr_iconst (n := 2) (z := 2) (v := 2) (x_dk dl_123_0_ok 33 rfl) (by decide) (by decide))))
  (x_Lok (x_st (I := xI) (xr_irem (x_dk dl_123_0_ok 34 rfl)))))))
  (x_Tok2
  (x_Tok2
  (x_Lok (x_st (I := xI) (xr_ifne (off := 10) (tg := 76) (x_dk dl_123_0_ok 35 rfl) (by decide))))
  (x_Tok2
  (x_Lok (x_st (I := xI) (xr_iload_n (i := 1) (x_dk dl_123_0_ok 36 rfl))))
  (x_Lok (x_st (I := xI) (xr_iload (i := 6) (x_dk dl_123_0_ok 37 rfl))))))
  (x_Tok2
  (x_Tok2
  (x_Lok (x_st (I := xI) (xi_or_ok (xr_taddI (px := (3, 1, 0)) (py := (3, 4, 0)) (c := 10) (x_dk dl_123_0_ok 38 rfl) (x_hV2 (px := (3, 1, 0)) (py := (3, 4, 0)) (c := 10) (fun x y => x + y) hK rfl rfl (by decide) (fun f h => by unfold x_fR at h; show f 10 = f 1 + f 4; omega))) (xi_or_ok (xr_taddI (px := (3, 1, 0)) (py := (3, 8, 0)) (c := 11) (x_dk dl_123_0_ok 38 rfl) (x_hV2 (px := (3, 1, 0)) (py := (3, 8, 0)) (c := 11) (fun x y => x + y) hK rfl rfl (by decide) (fun f h => by unfold x_fR at h; show f 11 = f 1 + f 8; omega))) (xr_iadd (x_dk dl_123_0_ok 38 rfl))))))
  (x_Lok (x_st (I := xI) (xr_goto (off := 4) (tg := 77) (x_dk dl_123_0_ok 39 rfl) (by decide)))))
  (x_Tok2
  (x_Lok (x_st (I := xI) (xr_iload_n (i := 1) (x_dk dl_123_0_ok 40 rfl))))
  (x_Lok (x_st (I := xI) (xr_iload_n (i := 3) (x_dk dl_123_0_ok 41 rfl))))))))
  (x_Tok2
  (x_Tok2
  (x_Tok2
  (x_Lok (x_st (I := xI) (xr_iconst (n := 2) (z := 2) (v := 2) (x_dk dl_123_0_ok 42 rfl) (by decide) (by decide))))
  (x_Tok2
  (x_Lok (x_st (I := xI) (xr_irem (x_dk dl_123_0_ok 43 rfl))))
  (x_Lok (x_st (I := xI) (xr_ifne (off := 7) (tg := 87) (x_dk dl_123_0_ok 44 rfl) (by decide))))))
  (x_Tok2
  (x_Tok2
  (x_Lok (x_st (I := xI) (xr_iload_n (i := 2) (x_dk dl_123_0_ok 45 rfl))))
  (x_Lok (x_st (I := xI) (xr_goto (off := 7) (tg := 91) (x_dk dl_123_0_ok 46 rfl) (by decide)))))
  (x_Tok2
  (x_Lok (x_st (I := xI) (xr_iload_n (i := 2) (x_dk dl_123_0_ok 47 rfl))))
  (x_Lok (x_st (I := xI) (xr_iload (i := 6) (x_dk dl_123_0_ok 48 rfl)))))))
  (x_Tok2
  (x_Tok2
  (x_Tok2
  (x_Lok (x_st (I := xI) (xi_or_ok (xr_taddI (px := (3, 2, 0)) (py := (3, 4, 0)) (c := 12) (x_dk dl_123_0_ok 49 rfl) (x_hV2 (px := (3, 2, 0)) (py := (3, 4, 0)) (c := 12) (fun x y => x + y) hK rfl rfl (by decide) (fun f h => by unfold x_fR at h; show f 12 = f 2 + f 4; omega))) (xi_or_ok (xr_taddI (px := (3, 2, 0)) (py := (3, 8, 0)) (c := 13) (x_dk dl_123_0_ok 49 rfl) (x_hV2 (px := (3, 2, 0)) (py := (3, 8, 0)) (c := 13) (fun x y => x + y) hK rfl rfl (by decide) (fun f h => by unfold x_fR at h; show f 13 = f 2 + f 8; omega))) (xr_iadd (x_dk dl_123_0_ok 49 rfl))))))
  (x_Lok (x_ca (I := xI) (q' := m_109) rfl (xr_callS (q' := m_109) (ix := 313) (n := 2) (in_t11 (List.mem_of_getElem? (i := 48) rfl) rfl) good_w (in_t1 (List.mem_of_getElem? (i := 14) rfl) rfl) (in_t11 (List.mem_of_getElem? (i := 46) rfl) rfl) (in_t11 (List.mem_of_getElem? (i := 47) rfl) rfl) (by decide +kernel) (by decide +kernel) (x_dk dl_123_0_ok 50 rfl)))))
  (x_Tok2
  (x_Lok (x_st (I := xI) (xr_ifne (off := 5) (tg := 99) (x_dk dl_123_0_ok 51 rfl) (by decide))))
  (x_Lok (x_st (I := xI) (xr_iconst (n := (-1)) (z := (-1)) (v := (-1)) (x_dk dl_123_0_ok 52 rfl) (by decide) (by decide))))))
  (x_Tok2
  (x_Tok2
  (x_Lok (x_rt (I := xI) (k := 1) ⟨(x_dk dl_123_0_ok 53 rfl), rfl⟩))
  (x_Lok (x_st (I := xI) (xr_aload_n (i := 0) (x_dk dl_123_0_ok 54 rfl)))))
  (x_Tok2
  (x_Lok (x_st (I := xI) (xr_getf (ci := 12) (k := 3) (ix := 265) (N := 119) (C := RX12) (T := TX12) rfl in_X12 (by decide) (in_t9 (List.mem_of_getElem? (i := 118) rfl) rfl) (x_dk dl_123_0_ok 55 rfl))))
  (x_Lok (x_st (I := xI) (xr_ifeq (off := 6) (tg := 109) (x_dk dl_123_0_ok 56 rfl) (by decide)))))))))
def tb_123_57 : Nat → xE := (x_T 135 (x_T 124 (x_T 113 (x_T 109 (x_L 109 (0, xi_load 0 2 110, 0, 0)) (x_T 110 (x_L 110 (0, xi_getf 12 30 113, 0, 0)) (x_L 113 (0, xi_push (0, 4, 4) 114, 0, 0)))) (x_T 120 (x_T 114 (x_L 114 (0, xi_if2 1 120 117, 0, 0)) (x_L 120 (0, xi_load 0 2 121, 0, 0))) (x_T 121 (x_L 121 (0, xi_getf 12 31 124, 0, 0)) (x_L 124 (0, xi_load 0 2 125, 0, 0))))) (x_T 129 (x_T 125 (x_L 125 (0, xi_getf 12 30 128, 0, 0)) (x_T 128 (x_L 128 (0, xi_load 1 0 129, 0, 0)) (x_L 129 (0, xi_ast false 130, 0, 0)))) (x_T 131 (x_T 130 (x_L 130 (0, xi_load 0 2 131, 0, 0)) (x_L 131 (0, xi_getf 12 32 134, 0, 0))) (x_T 134 (x_L 134 (0, xi_load 0 2 135, 0, 0)) (x_L 135 (0, xi_getf 12 30 138, 0, 0)))))) (x_T 148 (x_T 140 (x_T 138 (x_L 138 (0, xi_load 2 0 139, 0, 0)) (x_T 139 (x_L 139 (0, xi_ast false 140, 0, 0)) (x_L 140 (0, xi_load 0 2 141, 0, 0)))) (x_T 144 (x_T 141 (x_L 141 (0, xi_getf 12 33 144, 0, 0)) (x_L 144 (0, xi_load 0 2 145, 0, 0))) (x_T 145 (x_L 145 (0, xi_getf 12 30 148, 0, 0)) (x_L 148 (0, xi_load 3 0 149, 0, 0))))) (x_T 151 (x_T 149 (x_L 149 (0, xi_ast false 150, 0, 0)) (x_T 150 (x_L 150 (0, xi_load 0 2 151, 0, 0)) (x_L 151 (0, xi_getf 12 34 154, 0, 0)))) (x_T 155 (x_T 154 (x_L 154 (0, xi_load 0 2 155, 0, 0)) (x_L 155 (0, xi_getf 12 30 158, 0, 0))) (x_T 158 (x_L 158 (0, xi_load 4 0 160, 0, 0)) (x_L 160 (0, xi_ast false 161, 0, 0)))))))
set_option maxRecDepth 20000 in
set_option maxHeartbeats 4000000 in
theorem tb_123_57_ok (K : xKx) (hK : x_KP K) : ∀ pc, x_EOq cls K xI m_123 pc (tb_123_57 pc) :=
  (x_Tok2
  (x_Tok2
  (x_Tok2
  (x_Tok2
  (x_Lok (x_st (I := xI) (xr_aload_n (i := 0) (x_dk dl_123_0_ok 57 rfl))))
  (x_Tok2
  (x_Lok (x_st (I := xI) (xr_getf (ci := 12) (k := 30) (ix := 276) (N := 119) (C := RX12) (T := TX12) rfl in_X12 (by decide) (in_t9 (List.mem_of_getElem? (i := 145) rfl) rfl) (x_dk dl_123_0_ok 58 rfl))))
  (x_Lok (x_st (I := xI) (xr_iconst (n := 4) (z := 4) (v := 4) (x_dk dl_123_0_ok 59 rfl) (by decide) (by decide))))))
  (x_Tok2
  (x_Tok2
  (x_Lok (x_st (I := xI) (xr_icmpne (off := 6) (tg := 120) (x_dk dl_123_0_ok 60 rfl) (by decide))))
  (x_Lok (x_st (I := xI) (xr_aload_n (i := 0) (x_dk dl_123_0_ok 61 rfl)))))
  (x_Tok2
  (x_Lok (x_st (I := xI) (xr_getf (ci := 12) (k := 31) (ix := 86) (N := 119) (C := RX12) (T := TX12) rfl in_X12 (by decide) (in_t9 (List.mem_of_getElem? (i := 146) rfl) rfl) (x_dk dl_123_0_ok 62 rfl))))
  (x_Lok (x_st (I := xI) (xr_aload_n (i := 0) (x_dk dl_123_0_ok 63 rfl)))))))
  (x_Tok2
  (x_Tok2
  (x_Lok (x_st (I := xI) (xr_getf (ci := 12) (k := 30) (ix := 276) (N := 119) (C := RX12) (T := TX12) rfl in_X12 (by decide) (in_t9 (List.mem_of_getElem? (i := 145) rfl) rfl) (x_dk dl_123_0_ok 64 rfl))))
  (x_Tok2
  (x_Lok (x_st (I := xI) (xr_iload_n (i := 1) (x_dk dl_123_0_ok 65 rfl))))
  (x_Lok (x_st (I := xI) (xr_iastore (x_dk dl_123_0_ok 66 rfl))))))
  (x_Tok2
  (x_Tok2
  (x_Lok (x_st (I := xI) (xr_aload_n (i := 0) (x_dk dl_123_0_ok 67 rfl))))
  (x_Lok (x_st (I := xI) (xr_getf (ci := 12) (k := 32) (ix := 89) (N := 119) (C := RX12) (T := TX12) rfl in_X12 (by decide) (in_t9 (List.mem_of_getElem? (i := 147) rfl) rfl) (x_dk dl_123_0_ok 68 rfl)))))
  (x_Tok2
  (x_Lok (x_st (I := xI) (xr_aload_n (i := 0) (x_dk dl_123_0_ok 69 rfl))))
  (x_Lok (x_st (I := xI) (xr_getf (ci := 12) (k := 30) (ix := 276) (N := 119) (C := RX12) (T := TX12) rfl in_X12 (by decide) (in_t9 (List.mem_of_getElem? (i := 145) rfl) rfl) (x_dk dl_123_0_ok 70 rfl))))))))
  (x_Tok2
  (x_Tok2
  (x_Tok2
  (x_Lok (x_st (I := xI) (xr_iload_n (i := 2) (x_dk dl_123_0_ok 71 rfl))))
  (x_Tok2
  (x_Lok (x_st (I := xI) (xr_iastore (x_dk dl_123_0_ok 72 rfl))))
  (x_Lok (x_st (I := xI) (xr_aload_n (i := 0) (x_dk dl_123_0_ok 73 rfl))))))
  (x_Tok2
  (x_Tok2
  (x_Lok (x_st (I := xI) (xr_getf (ci := 12) (k := 33) (ix := 92) (N := 119) (C := RX12) (T := TX12) rfl in_X12 (by decide) (in_t9 (List.mem_of_getElem? (i := 148) rfl) rfl) (x_dk dl_123_0_ok 74 rfl))))
  (x_Lok (x_st (I := xI) (xr_aload_n (i := 0) (x_dk dl_123_0_ok 75 rfl)))))
  (x_Tok2
  (x_Lok (x_st (I := xI) (xr_getf (ci := 12) (k := 30) (ix := 276) (N := 119) (C := RX12) (T := TX12) rfl in_X12 (by decide) (in_t9 (List.mem_of_getElem? (i := 145) rfl) rfl) (x_dk dl_123_0_ok 76 rfl))))
  (x_Lok (x_st (I := xI) (xr_iload_n (i := 3) (x_dk dl_123_0_ok 77 rfl)))))))
  (x_Tok2
  (x_Tok2
  (x_Lok (x_st (I := xI) (xr_iastore (x_dk dl_123_0_ok 78 rfl))))
  (x_Tok2
  (x_Lok (x_st (I := xI) (xr_aload_n (i := 0) (x_dk dl_123_0_ok 79 rfl))))
  (x_Lok (x_st (I := xI) (xr_getf (ci := 12) (k := 34) (ix := 95) (N := 119) (C := RX12) (T := TX12) rfl in_X12 (by decide) (in_t9 (List.mem_of_getElem? (i := 149) rfl) rfl) (x_dk dl_123_0_ok 80 rfl))))))
  (x_Tok2
  (x_Tok2
  (x_Lok (x_st (I := xI) (xr_aload_n (i := 0) (x_dk dl_123_0_ok 81 rfl))))
  (x_Lok (x_st (I := xI) (xr_getf (ci := 12) (k := 30) (ix := 276) (N := 119) (C := RX12) (T := TX12) rfl in_X12 (by decide) (in_t9 (List.mem_of_getElem? (i := 145) rfl) rfl) (x_dk dl_123_0_ok 82 rfl)))))
  (x_Tok2
  (x_Lok (x_st (I := xI) (xr_iload (i := 4) (x_dk dl_123_0_ok 83 rfl))))
  (x_Lok (x_st (I := xI) (xr_iastore (x_dk dl_123_0_ok 84 rfl)))))))))
def tb_123_85 : Nat → xE := (x_T 182 (x_T 171 (x_T 165 (x_T 161 (x_L 161 (0, xi_load 0 2 162, 0, 0)) (x_T 162 (x_L 162 (0, xi_getf 12 35 165, 0, 0)) (x_L 165 (0, xi_load 0 2 166, 0, 0)))) (x_T 169 (x_T 166 (x_L 166 (0, xi_getf 12 30 169, 0, 0)) (x_L 169 (0, xi_push (0, 0, 0) 170, 0, 0))) (x_T 170 (x_L 170 (0, xi_ast false 171, 0, 0)) (x_L 171 (0, xi_load 0 2 172, 0, 0))))) (x_T 176 (x_T 172 (x_L 172 (0, xi_getf 12 37 175, 0, 0)) (x_T 175 (x_L 175 (0, xi_load 0 2 176, 0, 0)) (x_L 176 (0, xi_getf 12 30 179, 0, 0)))) (x_T 180 (x_T 179 (x_L 179 (0, xi_push (0, (-1), (-1)) 180, 0, 0)) (x_L 180 (0, xi_ast false 181, 0, 0))) (x_T 181 (x_L 181 (0, xi_load 0 2 182, 0, 0)) (x_L 182 (0, xi_getf 12 36 185, 0, 0)))))) (x_T 194 (x_T 189 (x_T 185 (x_L 185 (0, xi_load 0 2 186, 0, 0)) (x_T 186 (x_L 186 (0, xi_getf 12 30 189, 0, 0)) (x_L 189 (0, xi_load 5 0 191, 0, 0)))) (x_T 192 (x_T 191 (x_L 191 (0, xi_ast false 192, 0, 0)) (x_L 192 (0, xi_load 0 2 193, 0, 0))) (x_T 193 (x_L 193 (0, xi_stk xf_dup 194, 0, 0)) (x_L 194 (0, xi_getf 12 30 197, 0, 0))))) (x_T 202 (x_T 198 (x_T 197 (x_L 197 (0, xi_push (0, 1, 1) 198, 0, 0)) (x_L 198 (0, xi_bin xF_add 199, 0, 0))) (x_T 199 (x_L 199 (0, xi_putf 12 30 0 202, 0, 0)) (x_L 202 (0, xi_load 0 2 203, 0, 0)))) (x_T 206 (x_T 203 (x_L 203 (0, xi_getf 12 30 206, 0, 0)) (x_L 206 (0, xi_push (0, 1, 1) 207, 0, 0))) (x_T 207 (x_L 207 (0, xi_bin xF_sub 208, 0, 0)) (x_L 208 (1, x_nof, 1, 0)))))))
set_option maxRecDepth 20000 in
set_option maxHeartbeats 4000000 in
theorem tb_123_85_ok (K : xKx) (hK : x_KP K) : ∀ pc, x_EOq cls K xI m_123 pc (tb_123_85 pc) :=
  (x_Tok2
  (x_Tok2
  (x_Tok2
  (x_Tok2
  (x_Lok (x_st (I := xI) (xr_aload_n (i := 0) (x_dk dl_123_0_ok 85 rfl))))
  (x_Tok2
  (x_Lok (x_st (I := xI) (xr_getf (ci := 12) (k := 35) (ix := 98) (N := 119) (C := RX12) (T := TX12) rfl in_X12 (by decide) (in_t9 (List.mem_of_getElem? (i := 150) rfl) rfl) (x_dk dl_123_0_ok 86 rfl))))
  (x_Lok (x_st (I := xI) (xr_aload_n (i := 0) (x_dk dl_123_0_ok 87 rfl))))))
  (x_Tok2
  (x_Tok2
  (x_Lok (x_st (I := xI) (xr_getf (ci := 12) (k := 30) (ix := 276) (N := 119) (C := RX12) (T := TX12) rfl in_X12 (by decide) (in_t9 (List.mem_of_getElem? (i := 145) rfl) rfl) (x_dk dl_123_0_ok 88 rfl))))
  (x_Lok (x_st (I := xI) (xr_iconst (n := 0) (z := 0) (v := 0) (x_dk dl_123_0_ok 89 rfl) (by decide) (by decide)))))
  (x_Tok2
  (x_Lok (x_st (I := xI) (xr_iastore (x_dk dl_123_0_ok 90 rfl))))
  (x_Lok (x_st (I := xI) (xr_aload_n (i := 0) (x_dk dl_123_0_ok 91 rfl)))))))
  (x_Tok2
  (x_Tok2
  (x_Lok (x_st (I := xI) (xr_getf (ci := 12) (k := 37) (ix := 104) (N := 119) (C := RX12) (T := TX12) rfl in_X12 (by decide) (in_t9 (List.mem_of_getElem? (i := 152) rfl) rfl) (x_dk dl_123_0_ok 92 rfl))))
  (x_Tok2
  (x_Lok (x_st (I := xI) (xr_aload_n (i := 0) (x_dk dl_123_0_ok 93 rfl))))
  (x_Lok (x_st (I := xI) (xr_getf (ci := 12) (k := 30) (ix := 276) (N := 119) (C := RX12) (T := TX12) rfl in_X12 (by decide) (in_t9 (List.mem_of_getElem? (i := 145) rfl) rfl) (x_dk dl_123_0_ok 94 rfl))))))
  (x_Tok2
  (x_Tok2
  (x_Lok (x_st (I := xI) (xr_iconst (n := (-1)) (z := (-1)) (v := (-1)) (x_dk dl_123_0_ok 95 rfl) (by decide) (by decide))))
  (x_Lok (x_st (I := xI) (xr_iastore (x_dk dl_123_0_ok 96 rfl)))))
  (x_Tok2
  (x_Lok (x_st (I := xI) (xr_aload_n (i := 0) (x_dk dl_123_0_ok 97 rfl))))
  (x_Lok (x_st (I := xI) (xr_getf (ci := 12) (k := 36) (ix := 101) (N := 119) (C := RX12) (T := TX12) rfl in_X12 (by decide) (in_t9 (List.mem_of_getElem? (i := 151) rfl) rfl) (x_dk dl_123_0_ok 98 rfl))))))))
  (x_Tok2
  (x_Tok2
  (x_Tok2
  (x_Lok (x_st (I := xI) (xr_aload_n (i := 0) (x_dk dl_123_0_ok 99 rfl))))
  (x_Tok2
  (x_Lok (x_st (I := xI) (xr_getf (ci := 12) (k := 30) (ix := 276) (N := 119) (C := RX12) (T := TX12) rfl in_X12 (by decide) (in_t9 (List.mem_of_getElem? (i := 145) rfl) rfl) (x_dk dl_123_1_ok 0 rfl))))
  (x_Lok (x_st (I := xI) (xr_iload (i := 5) (x_dk dl_123_1_ok 1 rfl))))))
  (x_Tok2
  (x_Tok2
  (x_Lok (x_st (I := xI) (xr_iastore (x_dk dl_123_1_ok 2 rfl))))
  (x_Lok (x_st (I := xI) (xr_aload_n (i := 0) (x_dk dl_123_1_ok 3 rfl)))))
  (x_Tok2
  (x_Lok (x_st (I := xI) (xr_dup (x_dk dl_123_1_ok 4 rfl))))
  (x_Lok (x_st (I := xI) (xr_getf (ci := 12) (k := 30) (ix := 276) (N := 119) (C := RX12) (T := TX12) rfl in_X12 (by decide) (in_t9 (List.mem_of_getElem? (i := 145) rfl) rfl) (x_dk dl_123_1_ok 5 rfl)))))))
  (x_Tok2
  (x_Tok2
  (x_Tok2
  (x_Lok (x_st (I := xI) (xr_iconst (n := 1) (z := 1) (v := 1) (x_dk dl_123_1_ok 6 rfl) (by decide) (by decide))))
  (x_Lok (x_st (I := xI) (xr_iadd (x_dk dl_123_1_ok 7 rfl)))))
  (x_Tok2
  (x_Lok (x_st (I := xI) (xr_putf (ci := 12) (k := 30) (ix := 276) (N := 119) (fk := 0) (C := RX12) (T := TX12) (ty0 := tyX12) (ty := .int) rfl in_X12 tyX12_ok nmX12 (by decide) (in_t9 (List.mem_of_getElem? (i := 145) rfl) rfl) rfl rfl x_fit_int (x_dk dl_123_1_ok 8 rfl))))
  (x_Lok (x_st (I := xI) (xr_aload_n (i := 0) (x_dk dl_123_1_ok 9 rfl))))))
  (x_Tok2
  (x_Tok2
  (x_Lok (x_st (I := xI) (xr_getf (ci := 12) (k := 30) (ix := 276) (N := 119) (C := RX12) (T := TX12) rfl in_X12 (by decide) (in_t9 (List.mem_of_getElem? (i := 145) rfl) rfl) (x_dk dl_123_1_ok 10 rfl))))
  (x_Lok (x_st (I := xI) (xr_iconst (n := 1) (z := 1) (v := 1) (x_dk dl_123_1_ok 11 rfl) (by decide) (by decide)))))
  (x_Tok2
  (x_Lok (x_st (I := xI) (xr_isub (x_dk dl_123_1_ok 12 rfl))))
  (x_Lok (x_rt (I := xI) (k := 1) ⟨(x_dk dl_123_1_ok 13 rfl), rfl⟩)))))))
def tb_123 : Nat → xE := (x_T 103 (x_T 53 tb_123_0 tb_123_28) (x_T 160 tb_123_57 tb_123_85))
theorem tb_123_ok (K : xKx) (hK : x_KP K) : ∀ pc, x_EOq cls K xI m_123 pc (tb_123 pc) := (x_Tok2 ((x_Tok2 (tb_123_0_ok K hK) (tb_123_28_ok K hK))) ((x_Tok2 (tb_123_57_ok K hK) (tb_123_85_ok K hK))))
def dl_124_0 : List (Nat × Instr × Nat) := [(0, .iload_n 1, 1), (1, .i2l, 1), (2, .lconst 0, 1), (3, .aload_n 0, 1), (4, .getfield 276, 3), (7, .iconst 1, 1), (8, .isub, 1), (9, .i2l, 1), (10, .invokestatic 301, 3), (13, .ifCond .eq 15, 3), (28, .iconst (-1), 1), (29, .ireturn, 1)]
set_option maxRecDepth 20000 in
theorem dl_124_0_ok : dl_124_0.all (fun q => decide (decode prog_14_method_23_code q.1 = .ok (q.2.1, q.2.2))) = true := by decide +kernel
def tb_124_0 : Nat → xE := (x_T 7 (x_T 2 (x_T 0 (x_L 0 (0, xi_load 1 0 1, 0, 0)) (x_T 1 (x_L 1 (0, xi_i2l 2, 0, 0)) (x_L 2 (0, xi_push (4, 0, 0) 3, 0, 0)))) (x_T 3 (x_L 3 (0, xi_load 0 2 4, 0, 0)) (x_T 4 (x_L 4 (0, xi_getf 12 30 7, 0, 0)) (x_L 7 (0, xi_push (0, 1, 1) 8, 0, 0))))) (x_T 10 (x_T 8 (x_L 8 (0, xi_bin xF_sub 9, 0, 0)) (x_T 9 (x_L 9 (0, xi_i2l 10, 0, 0)) (x_L 10 (2, x_nof, 103, 3)))) (x_T 13 (x_L 13 (0, xi_if1 0 28 16, 0, 0)) (x_T 28 (x_L 28 (0, xi_push (0, (-1), (-1)) 29, 0, 0)) (x_L 29 (1, x_nof, 1, 0))))))
set_option maxRecDepth 20000 in
set_option maxHeartbeats 4000000 in
theorem tb_124_0_ok (K : xKx) (hK : x_KP K) : ∀ pc, x_EOq cls K xI m_124 pc (tb_124_0 pc) :=
  (x_Tok2
  (x_Tok2
  (x_Tok2
  (x_Lok (x_st (I := xI) (xr_iload_n (i := 1) (x_dk dl_124_0_ok 0 rfl))))
  (x_Tok2
  (x_Lok (x_st (I := xI) (xr_i2l (x_dk dl_124_0_ok 1 rfl))))
  (x_Lok (x_st (I := xI) (xr_lconst (n := 0) (z := 0) (v := 0) (x_dk dl_124_0_ok 2 rfl) (by decide) (by decide))))))
  (x_Tok2
  (x_Lok (x_st (I := xI) (xr_aload_n (i := 0) (x_dk dl_124_0_ok 3 rfl))))
  (x_Tok2
  (x_Lok (x_st (I := xI) (xr_getf (ci := 12) (k := 30) (ix := 276) (N := 119) (C := RX12) (T := TX12) rfl in_X12 (by decide) (in_t9 (List.mem_of_getElem? (i := 145) rfl) rfl) (x_dk dl_124_0_ok 4 rfl))))
  (x_Lok (x_st (I := xI) (xr_iconst (n := 1) (z := 1) (v := 1) (x_dk dl_124_0_ok 5 rfl) (by decide) (by decide)))))))
  (x_Tok2
  (x_Tok2
  (x_Lok (x_st (I := xI) (xr_isub (x_dk dl_124_0_ok 6 rfl))))
  (x_Tok2
  (x_Lok (x_st (I := xI) (xr_i2l (x_dk dl_124_0_ok 7 rfl))))
  (x_Lok (x_ca (I := xI) (q' := m_103) rfl (xr_callS (q' := m_103) (ix := 301) (n := 3) (in_t11 (List.mem_of_getElem? (i := 7) rfl) rfl) good_w (in_t1 (List.mem_of_getElem? (i := 14) rfl) rfl) (in_t11 (List.mem_of_getElem? (i := 5) rfl) rfl) (in_t11 (List.mem_of_getElem? (i := 6) rfl) rfl) (by decide +kernel) (by decide +kernel) (x_dk dl_124_0_ok 8 rfl))))))
  (x_Tok2
  (x_Lok (x_st (I := xI) (xr_ifeq (off := 15) (tg := 28) (x_dk dl_124_0_ok 9 rfl) (by decide))))
  (x_Tok2
  (x_Lok (x_st (I := xI) (xr_iconst (n := (-1)) (z := (-1)) (v := (-1)) (x_dk dl_124_0_ok 10 rfl) (by decide) (by decide))))
  (x_Lok (x_rt (I := xI) (k := 1) ⟨(x_dk dl_124_0_ok 11 rfl), rfl⟩))))))
def tb_124 : Nat → xE := tb_124_0
theorem tb_124_ok (K : xKx) (hK : x_KP K) : ∀ pc, x_EOq cls K xI m_124 pc (tb_124 pc) := tb_124_0_ok K hK
def dl_125_0 : List (Nat × Instr × Nat) := [(0, .iload_n 1, 1), (1, .i2l, 1), (2, .lconst 0, 1), (3, .aload_n 0, 1), (4, .getfield 276, 3), (7, .iconst 1, 1), (8, .isub, 1), (9, .i2l, 1), (10, .invokestatic 301, 3), (13, .ifCond .eq 25, 3), (38, .iconst (-1), 1), (39, .ireturn, 1)]
set_option maxRecDepth 20000 in
theorem dl_125_0_ok : dl_125_0.all (fun q => decide (decode prog_14_method_24_code q.1 = .ok (q.2.1, q.2.2))) = true := by decide +kernel
def tb_125_0 : Nat → xE := (x_T 7 (x_T 2 (x_T 0 (x_L 0 (0, xi_load 1 0 1, 0, 0)) (x_T 1 (x_L 1 (0, xi_i2l 2, 0, 0)) (x_L 2 (0, xi_push (4, 0, 0) 3, 0, 0)))) (x_T 3 (x_L 3 (0, xi_load 0 2 4, 0, 0)) (x_T 4 (x_L 4 (0, xi_getf 12 30 7, 0, 0)) (x_L 7 (0, xi_push (0, 1, 1) 8, 0, 0))))) (x_T 10 (x_T 8 (x_L 8 (0, xi_bin xF_sub 9, 0, 0)) (x_T 9 (x_L 9 (0, xi_i2l 10, 0, 0)) (x_L 10 (2, x_nof, 103, 3)))) (x_T 13 (x_L 13 (0, xi_if1 0 38 16, 0, 0)) (x_T 38 (x_L 38 (0, xi_push (0, (-1), (-1)) 39, 0, 0)) (x_L 39 (1, x_nof, 1, 0))))))
set_option maxRecDepth 20000 in
set_option maxHeartbeats 4000000 in
theorem tb_125_0_ok (K : xKx) (hK : x_KP K) : ∀ pc, x_EOq cls K xI m_125 pc (tb_125_0 pc) :=
  (x_Tok2
  (x_Tok2
  (x_Tok2
  (x_Lok (x_st (I := xI) (xr_iload_n (i := 1) (x_dk dl_125_0_ok 0 rfl))))
  (x_Tok2
  (x_Lok (x_st (I := xI) (xr_i2l (x_dk dl_125_0_ok 1 rfl))))
  (x_Lok (x_st (I := xI) (xr_lconst (n := 0) (z := 0) (v := 0) (x_dk dl_125_0_ok 2 rfl) (by decide) (by decide))))))
  (x_Tok2
  (x_Lok (x_st (I := xI) (xr_aload_n (i := 0) (x_dk dl_125_0_ok 3 rfl))))
  (x_Tok2
  (x_Lok (x_st (I := xI) (xr_getf (ci := 12) (k := 30) (ix := 276) (N := 119) (C := RX12) (T := TX12) rfl in_X12 (by decide) (in_t9 (List.mem_of_getElem? (i := 145) rfl) rfl) (x_dk dl_125_0_ok 4 rfl))))
  (x_Lok (x_st (I := xI) (xr_iconst (n := 1) (z := 1) (v := 1) (x_dk dl_125_0_ok 5 rfl) (by decide) (by decide)))))))
  (x_Tok2
  (x_Tok2
  (x_Lok (x_st (I := xI) (xr_isub (x_dk dl_125_0_ok 6 rfl))))
  (x_Tok2
  (x_Lok (x_st (I := xI) (xr_i2l (x_dk dl_125_0_ok 7 rfl))))
  (x_Lok (x_ca (I := xI) (q' := m_103) rfl (xr_callS (q' := m_103) (ix := 301) (n := 3) (in_t11 (List.mem_of_getElem? (i := 7) rfl) rfl) good_w (in_t1 (List.mem_of_getElem? (i := 14) rfl) rfl) (in_t11 (List.mem_of_getElem? (i := 5) rfl) rfl) (in_t11 (List.mem_of_getElem? (i := 6) rfl) rfl) (by decide +kernel) (by decide +kernel) (x_dk dl_125_0_ok 8 rfl))))))
  (x_Tok2
  (x_Lok (x_st (I := xI) (xr_ifeq (off := 25) (tg := 38) (x_dk dl_125_0_ok 9 rfl) (by decide))))
  (x_Tok2
  (x_Lok (x_st (I := xI) (xr_iconst (n := (-1)) (z := (-1)) (v := (-1)) (x_dk dl_125_0_ok 10 rfl) (by decide) (by decide))))
  (x_Lok (x_rt (I := xI) (k := 1) ⟨(x_dk dl_125_0_ok 11 rfl), rfl⟩))))))
def tb_125 : Nat → xE := tb_125_0
theorem tb_125_ok (K : xKx) (hK : x_KP K) : ∀ pc, x_EOq cls K xI m_125 pc (tb_125 pc) := tb_125_0_ok K hK
def dl_126_0 : List (Nat × Instr × Nat) := [(0, .iload_n 1, 1), (1, .i2l, 1), (2, .lconst 0, 1), (3, .aload_n 0, 1), (4, .getfield 276, 3), (7, .iconst 1, 1), (8, .isub, 1), (9, .i2l, 1), (10, .invokestatic 301, 3), (13, .ifCond .eq 31, 3), (44, .iconst (-1), 1), (45, .ireturn, 1)]
set_option maxRecDepth 20000 in
theorem dl_126_0_ok : dl_126_0.all (fun q => decide (decode prog_14_method_25_code q.1 = .ok (q.2.1, q.2.2))) = true := by decide +kernel
def tb_126_0 : Nat → xE := (x_T 7 (x_T 2 (x_T 0 (x_L 0 (0, xi_load 1 0 1, 0, 0)) (x_T 1 (x_L 1 (0, xi_i2l 2, 0, 0)) (x_L 2 (0, xi_push (4, 0, 0) 3, 0, 0)))) (x_T 3 (x_L 3 (0, xi_load 0 2 4, 0, 0)) (x_T 4 (x_L 4 (0, xi_getf 12 30 7, 0, 0)) (x_L 7 (0, xi_push (0, 1, 1) 8, 0, 0))))) (x_T 10 (x_T 8 (x_L 8 (0, xi_bin xF_sub 9, 0, 0)) (x_T 9 (x_L 9 (0, xi_i2l 10, 0, 0)) (x_L 10 (2, x_nof, 103, 3)))) (x_T 13 (x_L 13 (0, xi_if1 0 44 16, 0, 0)) (x_T 44 (x_L 44 (0, xi_push (0, (-1), (-1)) 45, 0, 0)) (x_L 45 (1, x_nof, 1, 0))))))
set_option maxRecDepth 20000 in
set_option maxHeartbeats 4000000 in
theorem tb_126_0_ok (K : xKx) (hK : x_KP K) : ∀ pc, x_EOq cls K xI m_126 pc (tb_126_0 pc) :=
  (x_Tok2
  (x_Tok2
  (x_Tok2
  (x_Lok (x_st (I := xI) (xr_iload_n (i := 1) (x_dk dl_126_0_ok 0 rfl))))
  (x_Tok2
  (x_Lok (x_st (I := xI) (xr_i2l (x_dk dl_126_0_ok 1 rfl))))
  (x_Lok (x_st (I := xI) (xr_lconst (n := 0) (z := 0) (v := 0) (x_dk dl_126_0_ok 2 rfl) (by decide) (by decide))))))
  (x_Tok2
  (x_Lok (x_st (I := xI) (xr_aload_n (i := 0) (x_dk dl_126_0_ok 3 rfl))))
  (x_Tok2
  (x_Lok (x_st (I := xI) (xr_getf (ci := 12) (k := 30) (ix := 276) (N := 119) (C := RX12) (T := TX12) rfl in_X12 (by decide) (in_t9 (List.mem_of_getElem? (i := 145) rfl) rfl) (x_dk dl_126_0_ok 4 rfl))))
  (x_Lok (x_st (I := xI) (xr_iconst (n := 1) (z := 1) (v := 1) (x_dk dl_126_0_ok 5 rfl) (by decide) (by decide)))))))
  (x_Tok2
  (x_Tok2
  (x_Lok (x_st (I := xI) (xr_isub (x_dk dl_126_0_ok 6 rfl))))
  (x_Tok2
  (x_Lok (x_st (I := xI) (xr_i2l (x_dk dl_126_0_ok 7 rfl))))
  (x_Lok (x_ca (I := xI) (q' := m_103) rfl (xr_callS (q' := m_103) (ix := 301) (n := 3) (in_t11 (List.mem_of_getElem? (i := 7) rfl) rfl) good_w (in_t1 (List.mem_of_getElem? (i := 14) rfl) rfl) (in_t11 (List.mem_of_getElem? (i := 5) rfl) rfl) (in_t11 (List.mem_of_getElem? (i := 6) rfl) rfl) (by decide +kernel) (by decide +kernel) (x_dk dl_126_0_ok 8 rfl))))))
  (x_Tok2
  (x_Lok (x_st (I := xI) (xr_ifeq (off := 31) (tg := 44) (x_dk dl_126_0_ok 9 rfl) (by decide))))
  (x_Tok2
  (x_Lok (x_st (I := xI) (xr_iconst (n := (-1)) (z := (-1)) (v := (-1)) (x_dk dl_126_0_ok 10 rfl) (by decide) (by decide))))
  (x_Lok (x_rt (I := xI) (k := 1) ⟨(x_dk dl_126_0_ok 11 rfl), rfl⟩))))))
def tb_126 : Nat → xE := tb_126_0
theorem tb_126_ok (K : xKx) (hK : x_KP K) : ∀ pc, x_EOq cls K xI m_126 pc (tb_126 pc) := tb_126_0_ok K hK
def dl_127_0 : List (Nat × Instr × Nat) := [(0, .iload_n 1, 1), (1, .iload_n 2, 1), (2, .invokestatic 313, 3), (5, .ifCond .eq 15, 3), (8, .iload_n 3, 1), (9, .i2l, 1), (10, .lconst 0, 1), (11, .ldc2_w 330, 3), (14, .invokestatic 301, 3), (17, .ifCond .ne 5, 3), (20, .iconst (-1), 1), (21, .ireturn, 1), (22, .aload_n 0, 1), (23, .getfield 265, 3), (26, .ifCond .eq 6, 3), (32, .aload_n 0, 1), (33, .getfield 279, 3), (36, .bipush 32, 2), (38, .if_icmp .ne 6, 3), (44, .aload_n 0, 1), (45, .getfield 113, 3), (48, .aload_n 0, 1), (49, .getfield 279, 3), (52, .iload_n 3, 1), (53, .iastore, 1), (54, .aload_n 0, 1), (55, .aload_n 0, 1), (56, .getfield 279, 3), (59, .iload_n 1, 1), (60, .iload_n 2, 1), (61, .invokevirtual 358, 3), (64, .aload_n 0, 1), (65, .dup, 1), (66, .getfield 279, 3), (69, .iconst 1, 1), (70, .iadd, 1), (71, .putfield 279, 3), (74, .aload_n 0, 1), (75, .getfield 279, 3), (78, .iconst 1, 1), (79, .isub, 1), (80, .ireturn, 1)]
set_option maxRecDepth 20000 in
theorem dl_127_0_ok : dl_127_0.all (fun q => decide (decode prog_14_method_26_code q.1 = .ok (q.2.1, q.2.2))) = true := by decide +kernel
def tb_127_0 : Nat → xE := (x_T 17 (x_T 8 (x_T 1 (x_T 0 (x_L 0 (0, xi_load 1 0 1, 0, 0)) (x_L 1 (0, xi_load 2 0 2, 0, 0))) (x_T 2 (x_L 2 (2, x_nof, 109, 2)) (x_T 5 (x_L 5 (0, xi_if1 0 20 8, 0, 0)) (x_L 8 (0, xi_load 3 0 9, 0, 0))))) (x_T 10 (x_T 9 (x_L 9 (0, xi_i2l 10, 0, 0)) (x_L 10 (0, xi_push (4, 0, 0) 11, 0, 0))) (x_T 11 (x_L 11 (0, xi_push (4, 800, 800) 14, 0, 0)) (x_T 14 (x_L 14 (2, x_nof, 103, 3)) (x_L 17 (0, xi_if1 1 22 20, 0, 0)))))) (x_T 26 (x_T 21 (x_T 20 (x_L 20 (0, xi_push (0, (-1), (-1)) 21, 0, 0)) (x_L 21 (1, x_nof, 1, 0))) (x_T 22 (x_L 22 (0, xi_load 0 2 23, 0, 0)) (x_T 23 (x_L 23 (0, xi_getf 12 3 26, 0, 0)) (x_L 26 (0, xi_if1 0 32 29, 0, 0))))) (x_T 36 (x_T 32 (x_L 32 (0, xi_load 0 2 33, 0, 0)) (x_T 33 (x_L 33 (0, xi_getf 12 40 36, 0, 0)) (x_L 36 (0, xi_push (0, 32, 32) 38, 0, 0)))) (x_T 38 (x_L 38 (0, xi_if2 1 44 41, 0, 0)) (x_T 44 (x_L 44 (0, xi_load 0 2 45, 0, 0)) (x_L 45 (0, xi_getf 12 41 48, 0, 0)))))))
set_option maxRecDepth 20000 in
set_option maxHeartbeats 4000000 in
theorem tb_127_0_ok (K : xKx) (hK : x_KP K) : ∀ pc, x_EOq cls K xI m_127 pc (tb_127_0 pc) :=
  (x_Tok2
  (x_Tok2
  (x_Tok2
  (x_Tok2
  (x_Lok (x_st (I := xI) (xr_iload_n (i := 1) (x_dk dl_127_0_ok 0 rfl))))
  (x_Lok (x_st (I := xI) (xr_iload_n (i := 2) (x_dk dl_127_0_ok 1 rfl)))))
  (x_Tok2
  (x_Lok (x_ca (I := xI) (q' := m_109) rfl (xr_callS (q' := m_109) (ix := 313) (n := 2) (in_t11 (List.mem_of_getElem? (i := 48) rfl) rfl) good_w (in_t1 (List.mem_of_getElem? (i := 14) rfl) rfl) (in_t11 (List.mem_of_getElem? (i := 46) rfl) rfl) (in_t11 (List.mem_of_getElem? (i := 47) rfl) rfl) (by decide +kernel) (by decide +kernel) (x_dk dl_127_0_ok 2 rfl))))
  (x_Tok2
  (x_Lok (x_st (I := xI) (xr_ifeq (off := 15) (tg := 20) (x_dk dl_127_0_ok 3 rfl) (by decide))))
  (x_Lok (x_st (I := xI) (xr_iload_n (i := 3) (x_dk dl_127_0_ok 4 rfl)))))))
  (x_Tok2
  (x_Tok2
  (x_Lok (x_st (I := xI) (xr_i2l (x_dk dl_127_0_ok 5 rfl))))
  (x_Lok (x_st (I := xI) (xr_lconst (n := 0) (z := 0) (v := 0) (x_dk dl_127_0_ok 6 rfl) (by decide) (by decide)))))
  (x_Tok2
  (x_Lok (x_st (I := xI) (xr_ldc2 (ix := 330) (z := 800) (v := 800) (x_dk dl_127_0_ok 7 rfl) (in_t11 (List.mem_of_getElem? (i := 19) rfl) rfl) (by decide))))
  (x_Tok2
  (x_Lok (x_ca (I := xI) (q' := m_103) rfl (xr_callS (q' := m_103) (ix := 301) (n := 3) (in_t11 (List.mem_of_getElem? (i := 7) rfl) rfl) good_w (in_t1 (List.mem_of_getElem? (i := 14) rfl) rfl) (in_t11 (List.mem_of_getElem? (i := 5) rfl) rfl) (in_t11 (List.mem_of_getElem? (i := 6) rfl) rfl) (by decide +kernel) (by decide +kernel) (x_dk dl_127_0_ok 8 rfl))))
  (x_Lok (x_st (I := xI) (xr_ifne (off := 5) (tg := 22) (x_dk dl_127_0_ok 9 rfl) (by decide))))))))
  (x_Tok2
  (x_Tok2
  (x_Tok2
  (x_Lok (x_st (I := xI) (xr_iconst (n := (-1)) (z := (-1)) (v := (-1)) (x_dk dl_127_0_ok 10 rfl) (by decide) (by decide))))
  (x_Lok (x_rt (I := xI) (k := 1) ⟨(x_dk dl_127_0_ok 11 rfl), rfl⟩)))
  (x_Tok2
  (x_Lok (x_st (I := xI) (xr_aload_n (i := 0) (x_dk dl_127_0_ok 12 rfl))))
  (x_Tok2
  (x_Lok (x_st (I := xI) (xr_getf (ci := 12) (k := 3) (ix := 265) (N := 119) (C := RX12) (T := TX12) rfl in_X12 (by decide) (in_t9 (List.mem_of_getElem? (i := 118) rfl) rfl) (x_dk dl_127_0_ok 13 rfl))))
  (x_Lok (x_st (I := xI) (xr_ifeq (off := 6) (tg := 32) (x_dk dl_127_0_ok 14 rfl) (by decide)))))))
  (x_Tok2
  (x_Tok2
  (x_Lok (x_st (I := xI) (xr_aload_n (i := 0) (x_dk dl_127_0_ok 15 rfl))))
  (x_Tok2
  (x_Lok (x_st (I := xI) (xr_getf (ci := 12) (k := 40) (ix := 279) (N := 119) (C := RX12) (T := TX12) rfl in_X12 (by decide) (in_t9 (List.mem_of_getElem? (i := 155) rfl) rfl) (x_dk dl_127_0_ok 16 rfl))))
  (x_Lok (x_st (I := xI) (xr_bipush (n := 32) (z := 32) (v := 32) (x_dk dl_127_0_ok 17 rfl) (by decide) (by decide))))))
  (x_Tok2
  (x_Lok (x_st (I := xI) (xr_icmpne (off := 6) (tg := 44) (x_dk dl_127_0_ok 18 rfl) (by decide))))
  (x_Tok2
  (x_Lok (x_st (I := xI) (xr_aload_n (i := 0) (x_dk dl_127_0_ok 19 rfl))))
  (x_Lok (x_st (I := xI) (xr_getf (ci := 12) (k := 41) (ix := 113) (N := 119) (C := RX12) (T := TX12) rfl in_X12 (by decide) (in_t9 (List.mem_of_getElem? (i := 156) rfl) rfl) (x_dk dl_127_0_ok 20 rfl)))))))))
def tb_127_21 : Nat → xE := (x_T 61 (x_T 54 (x_T 49 (x_T 48 (x_L 48 (0, xi_load 0 2 49, 0, 0)) (x_L 49 (0, xi_getf 12 40 52, 0, 0))) (x_T 52 (x_L 52 (0, xi_load 3 0 53, 0, 0)) (x_T 53 (x_L 53 (0, xi_ast false 54, 0, 0)) (x_L 54 (0, xi_load 0 2 55, 0, 0))))) (x_T 56 (x_T 55 (x_L 55 (0, xi_load 0 2 56, 0, 0)) (x_L 56 (0, xi_getf 12 40 59, 0, 0))) (x_T 59 (x_L 59 (0, xi_load 1 0 60, 0, 0)) (x_T 60 (x_L 60 (0, xi_load 2 0 61, 0, 0)) (x_L 61 (2, x_nof, 144, 4)))))) (x_T 70 (x_T 65 (x_T 64 (x_L 64 (0, xi_load 0 2 65, 0, 0)) (x_L 65 (0, xi_stk xf_dup 66, 0, 0))) (x_T 66 (x_L 66 (0, xi_getf 12 40 69, 0, 0)) (x_T 69 (x_L 69 (0, xi_push (0, 1, 1) 70, 0, 0)) (x_L 70 (0, xi_bin xF_add 71, 0, 0))))) (x_T 75 (x_T 71 (x_L 71 (0, xi_putf 12 40 0 74, 0, 0)) (x_T 74 (x_L 74 (0, xi_load 0 2 75, 0, 0)) (x_L 75 (0, xi_getf 12 40 78, 0, 0)))) (x_T 78 (x_L 78 (0, xi_push (0, 1, 1) 79, 0, 0)) (x_T 79 (x_L 79 (0, xi_bin xF_sub 80, 0, 0)) (x_L 80 (1, x_nof, 1, 0)))))))
set_option maxRecDepth 20000 in
set_option maxHeartbeats 4000000 in
theorem tb_127_21_ok (K : xKx) (hK : x_KP K) : ∀ pc, x_EOq cls K xI m_127 pc (tb_127_21 pc) :=
  (x_Tok2
  (x_Tok2
  (x_Tok2
  (x_Tok2
  (x_Lok (x_st (I := xI) (xr_aload_n (i := 0) (x_dk dl_127_0_ok 21 rfl))))
  (x_Lok (x_st (I := xI) (xr_getf (ci := 12) (k := 40) (ix := 279) (N := 119) (C := RX12) (T := TX12) rfl in_X12 (by decide) (in_t9 (List.mem_of_getElem? (i := 155) rfl) rfl) (x_dk dl_127_0_ok 22 rfl)))))
  (x_Tok2
  (x_Lok (x_st (I := xI) (xr_iload_n (i := 3) (x_dk dl_127_0_ok 23 rfl))))
  (x_Tok2
  (x_Lok (x_st (I := xI) (xr_iastore (x_dk dl_127_0_ok 24 rfl))))
  (x_Lok (x_st (I := xI) (xr_aload_n (i := 0) (x_dk dl_127_0_ok 25 rfl)))))))
  (x_Tok2
  (x_Tok2
  (x_Lok (x_st (I := xI) (xr_aload_n (i := 0) (x_dk dl_127_0_ok 26 rfl))))
  (x_Lok (x_st (I := xI) (xr_getf (ci := 12) (k := 40) (ix := 279) (N := 119) (C := RX12) (T := TX12) rfl in_X12 (by decide) (in_t9 (List.mem_of_getElem? (i := 155) rfl) rfl) (x_dk dl_127_0_ok 27 rfl)))))
  (x_Tok2
  (x_Lok (x_st (I := xI) (xr_iload_n (i := 1) (x_dk dl_127_0_ok 28 rfl))))
  (x_Tok2
  (x_Lok (x_st (I := xI) (xr_iload_n (i := 2) (x_dk dl_127_0_ok 29 rfl))))
  (x_Lok (x_ca (I := xI) (q' := m_144) rfl (xr_callV (q' := m_144) (ix := 358) (n := 3) (in_t11 (List.mem_of_getElem? (i := 100) rfl) rfl) good_w (in_t1 (List.mem_of_getElem? (i := 14) rfl) rfl) (in_t11 (List.mem_of_getElem? (i := 97) rfl) rfl) (in_t11 (List.mem_of_getElem? (i := 99) rfl) rfl) (in_s8 (List.mem_of_getElem? (i := 6) rfl)) (by decide +kernel) (by decide +kernel) (by decide +kernel) (x_dk dl_127_0_ok 30 rfl))))))))
  (x_Tok2
  (x_Tok2
  (x_Tok2
  (x_Lok (x_st (I := xI) (xr_aload_n (i := 0) (x_dk dl_127_0_ok 31 rfl))))
  (x_Lok (x_st (I := xI) (xr_dup (x_dk dl_127_0_ok 32 rfl)))))
  (x_Tok2
  (x_Lok (x_st (I := xI) (xr_getf (ci := 12) (k := 40) (ix := 279) (N := 119) (C := RX12) (T := TX12) rfl in_X12 (by decide) (in_t9 (List.mem_of_getElem? (i := 155) rfl) rfl) (x_dk dl_127_0_ok 33 rfl))))
  (x_Tok2
  (x_Lok (x_st (I := xI) (xr_iconst (n := 1) (z := 1) (v := 1) (x_dk dl_127_0_ok 34 rfl) (by decide) (by decide))))
  (x_Lok (x_st (I := xI) (xr_iadd (x_dk dl_127_0_ok 35 rfl)))))))
  (x_Tok2
  (x_Tok2
  (x_Lok (x_st (I := xI) (xr_putf (ci := 12) (k := 40) (ix := 279) (N := 119) (fk := 0) (C := RX12) (T := TX12) (ty0 := tyX12) (ty := .int) rfl in_X12 tyX12_ok nmX12 (by decide) (in_t9 (List.mem_of_getElem? (i := 155) rfl) rfl) rfl rfl x_fit_int (x_dk dl_127_0_ok 36 rfl))))
  (x_Tok2
  (x_Lok (x_st (I := xI) (xr_aload_n (i := 0) (x_dk dl_127_0_ok 37 rfl))))
  (x_Lok (x_st (I := xI) (xr_getf (ci := 12) (k := 40) (ix := 279) (N := 119) (C := RX12) (T := TX12) rfl in_X12 (by decide) (in_t9 (List.mem_of_getElem? (i := 155) rfl) rfl) (x_dk dl_127_0_ok 38 rfl))))))
  (x_Tok2
  (x_Lok (x_st (I := xI) (xr_iconst (n := 1) (z := 1) (v := 1) (x_dk dl_127_0_ok 39 rfl) (by decide) (by decide))))
  (x_Tok2
  (x_Lok (x_st (I := xI) (xr_isub (x_dk dl_127_0_ok 40 rfl))))
  (x_Lok (x_rt (I := xI) (k := 1) ⟨(x_dk dl_127_0_ok 41 rfl), rfl⟩)))))))
def tb_127 : Nat → xE := (x_T 45 tb_127_0 tb_127_21)
theorem tb_127_ok (K : xKx) (hK : x_KP K) : ∀ pc, x_EOq cls K xI m_127 pc (tb_127 pc) := (x_Tok2 (tb_127_0_ok K hK) (tb_127_21_ok K hK))
def dl_128_0 : List (Nat × Instr × Nat) := [(0, .aload_n 0, 1), (1, .iload_n 1, 1), (2, .invokevirtual 305, 3), (5, .ifCond .eq 15, 3), (20, .iconst (-1), 1), (21, .ireturn, 1)]
set_option maxRecDepth 20000 in
theorem dl_128_0_ok : dl_128_0.all (fun q => decide (decode prog_14_method_27_code q.1 = .ok (q.2.1, q.2.2))) = true := by decide +kernel
def tb_128_0 : Nat → xE := (x_T 2 (x_T 0 (x_L 0 (0, xi_load 0 2 1, 0, 0)) (x_T 1 (x_L 1 (0, xi_load 1 0 2, 0, 0)) (x_L 2 (2, x_nof, 107, 2)))) (x_T 5 (x_L 5 (0, xi_if1 0 20 8, 0, 0)) (x_T 20 (x_L 20 (0, xi_push (0, (-1), (-1)) 21, 0, 0)) (x_L 21 (1, x_nof, 1, 0)))))
set_option maxRecDepth 20000 in
set_option maxHeartbeats 4000000 in
theorem tb_128_0_ok (K : xKx) (hK : x_KP K) : ∀ pc, x_EOq cls K xI m_128 pc (tb_128_0 pc) :=
  (x_Tok2
  (x_Tok2
  (x_Lok (x_st (I := xI) (xr_aload_n (i := 0) (x_dk dl_128_0_ok 0 rfl))))
  (x_Tok2
  (x_Lok (x_st (I := xI) (xr_iload_n (i := 1) (x_dk dl_128_0_ok 1 rfl))))
  (x_Lok (x_ca (I := xI) (q' := m_107) rfl (xr_callV (q' := m_107) (ix := 305) (n := 1) (in_t11 (List.mem_of_getElem? (i := 27) rfl) rfl) good_w (in_t1 (List.mem_of_getElem? (i := 14) rfl) rfl) (in_t11 (List.mem_of_getElem? (i := 24) rfl) rfl) (in_t11 (List.mem_of_getElem? (i := 26) rfl) rfl) (in_s8 (List.mem_of_getElem? (i := 2) rfl)) (by decide +kernel) (by decide +kernel) (by decide +kernel) (x_dk dl_128_0_ok 2 rfl))))))
  (x_Tok2
  (x_Lok (x_st (I := xI) (xr_ifeq (off := 15) (tg := 20) (x_dk dl_128_0_ok 3 rfl) (by decide))))
  (x_Tok2
  (x_Lok (x_st (I := xI) (xr_iconst (n := (-1)) (z := (-1)) (v := (-1)) (x_dk dl_128_0_ok 4 rfl) (by decide) (by decide))))
  (x_Lok (x_rt (I := xI) (k := 1) ⟨(x_dk dl_128_0_ok 5 rfl), rfl⟩)))))
def tb_128 : Nat → xE := tb_128_0
theorem tb_128_ok (K : xKx) (hK : x_KP K) : ∀ pc, x_EOq cls K xI m_128 pc (tb_128 pc) := tb_128_0_ok K hK
def dl_129_0 : List (Nat × Instr × Nat) := [(0, .iload_n 1, 1), (1, .i2l, 1), (2, .lconst 0, 1), (3, .aload_n 0, 1), (4, .getfield 282, 3), (7, .iconst 1, 1), (8, .isub, 1), (9, .i2l, 1), (10, .invokestatic 301, 3), (13, .ifCond .eq 17, 3), (30, .iconst (-1), 1), (31, .ireturn, 1)]
set_option maxRecDepth 20000 in
theorem dl_129_0_ok : dl_129_0.all (fun q => decide (decode prog_14_method_28_code q.1 = .ok (q.2.1, q.2.2))) = true := by decide +kernel
def tb_129_0 : Nat → xE := (x_T 7 (x_T 2 (x_T 0 (x_L 0 (0, xi_load 1 0 1, 0, 0)) (x_T 1 (x_L 1 (0, xi_i2l 2, 0, 0)) (x_L 2 (0, xi_push (4, 0, 0) 3, 0, 0)))) (x_T 3 (x_L 3 (0, xi_load 0 2 4, 0, 0)) (x_T 4 (x_L 4 (0, xi_getf 12 42 7, 0, 0)) (x_L 7 (0, xi_push (0, 1, 1) 8, 0, 0))))) (x_T 10 (x_T 8 (x_L 8 (0, xi_bin xF_sub 9, 0, 0)) (x_T 9 (x_L 9 (0, xi_i2l 10, 0, 0)) (x_L 10 (2, x_nof, 103, 3)))) (x_T 13 (x_L 13 (0, xi_if1 0 30 16, 0, 0)) (x_T 30 (x_L 30 (0, xi_push (0, (-1), (-1)) 31, 0, 0)) (x_L 31 (1, x_nof, 1, 0))))))
set_option maxRecDepth 20000 in
set_option maxHeartbeats 4000000 in
theorem tb_129_0_ok (K : xKx) (hK : x_KP K) : ∀ pc, x_EOq cls K xI m_129 pc (tb_129_0 pc) :=
  (x_Tok2
  (x_Tok2
  (x_Tok2
  (x_Lok (x_st (I := xI) (xr_iload_n (i := 1) (x_dk dl_129_0_ok 0 rfl))))
  (x_Tok2
  (x_Lok (x_st (I := xI) (xr_i2l (x_dk dl_129_0_ok 1 rfl))))
  (x_Lok (x_st (I := xI) (xr_lconst (n := 0) (z := 0) (v := 0) (x_dk dl_129_0_ok 2 rfl) (by decide) (by decide))))))
  (x_Tok2
  (x_Lok (x_st (I := xI) (xr_aload_n (i := 0) (x_dk dl_129_0_ok 3 rfl))))
  (x_Tok2
  (x_Lok (x_st (I := xI) (xr_getf (ci := 12) (k := 42) (ix := 282) (N := 119) (C := RX12) (T := TX12) rfl in_X12 (by decide) (in_t9 (List.mem_of_getElem? (i := 157) rfl) rfl) (x_dk dl_129_0_ok 4 rfl))))
  (x_Lok (x_st (I := xI) (xr_iconst (n := 1) (z := 1) (v := 1) (x_dk dl_129_0_ok 5 rfl) (by decide) (by decide)))))))
  (x_Tok2
  (x_Tok2
  (x_Lok (x_st (I := xI) (xr_isub (x_dk dl_129_0_ok 6 rfl))))
  (x_Tok2
  (x_Lok (x_st (I := xI) (xr_i2l (x_dk dl_129_0_ok 7 rfl))))
  (x_Lok (x_ca (I := xI) (q' := m_103) rfl (xr_callS (q' := m_103) (ix := 301) (n := 3) (in_t11 (List.mem_of_getElem? (i := 7) rfl) rfl) good_w (in_t1 (List.mem_of_getElem? (i := 14) rfl) rfl) (in_t11 (List.mem_of_getElem? (i := 5) rfl) rfl) (in_t11 (List.mem_of_getElem? (i := 6) rfl) rfl) (by decide +kernel) (by decide +kernel) (x_dk dl_129_0_ok 8 rfl))))))
  (x_Tok2
  (x_Lok (x_st (I := xI) (xr_ifeq (off := 17) (tg := 30) (x_dk dl_129_0_ok 9 rfl) (by decide))))
  (x_Tok2
  (x_Lok (x_st (I := xI) (xr_iconst (n := (-1)) (z := (-1)) (v := (-1)) (x_dk dl_129_0_ok 10 rfl) (by decide) (by decide))))
  (x_Lok (x_rt (I := xI) (k := 1) ⟨(x_dk dl_129_0_ok 11 rfl), rfl⟩))))))
def tb_129 : Nat → xE := tb_129_0
theorem tb_129_ok (K : xKx) (hK : x_KP K) : ∀ pc, x_EOq cls K xI m_129 pc (tb_129 pc) := tb_129_0_ok K hK
def dl_130_0 : List (Nat × Instr × Nat) := [(0, .iload_n 1, 1), (1, .i2l, 1), (2, .lconst 0, 1), (3, .ldc2_w 365, 3), (6, .invokestatic 301, 3), (9, .ifCond .ne 5, 3), (12, .iconst (-1), 1), (13, .ireturn, 1), (14, .aload_n 0, 1), (15, .getfield 265, 3), (18, .ifCond .eq 6, 3), (24, .aload_n 0, 1), (25, .getfield 285, 3), (28, .bipush 8, 2), (30, .if_icmp .ne 6, 3), (36, .aload_n 0, 1), (37, .getfield 134, 3), (40, .aload_n 0, 1), (41, .getfield 285, 3), (44, .iload_n 1, 1), (45, .iastore, 1), (46, .aload_n 0, 1), (47, .dup, 1), (48, .getfield 285, 3), (51, .iconst 1, 1), (52, .iadd, 1), (53, .putfield 285, 3), (56, .aload_n 0, 1), (57, .getfield 285, 3), (60, .iconst 1, 1), (61, .isub, 1), (62, .ireturn, 1)]
set_option maxRecDepth 20000 in
theorem dl_130_0_ok : dl_130_0.all (fun q => decide (decode prog_14_method_29_code q.1 = .ok (q.2.1, q.2.2))) = true := by decide +kernel
def tb_130_0 : Nat → xE := (x_T 36 (x_T 13 (x_T 3 (x_T 1 (x_T 0 (x_L 0 (0, xi_load 1 0 1, 0, 0)) (x_L 1 (0, xi_i2l 2, 0, 0))) (x_T 2 (x_L 2 (0, xi_push (4, 0, 0) 3, 0, 0)) (x_L 3 (0, xi_push (4, 1000, 1000) 6, 0, 0)))) (x_T 9 (x_T 6 (x_L 6 (2, x_nof, 103, 3)) (x_L 9 (0, xi_if1 1 14 12, 0, 0))) (x_T 12 (x_L 12 (0, xi_push (0, (-1), (-1)) 13, 0, 0)) (x_L 13 (1, x_nof, 1, 0))))) (x_T 24 (x_T 15 (x_T 14 (x_L 14 (0, xi_load 0 2 15, 0, 0)) (x_L 15 (0, xi_getf 12 3 18, 0, 0))) (x_T 18 (x_L 18 (0, xi_if1 0 24 21, 0, 0)) (x_L 24 (0, xi_load 0 2 25, 0, 0)))) (x_T 28 (x_T 25 (x_L 25 (0, xi_getf 12 49 28, 0, 0)) (x_L 28 (0, xi_push (0, 8, 8) 30, 0, 0))) (x_T 30 (x_L 30 (0, xi_if2 1 36 33, 0, 0)) (x_L 36 (0, xi_load 0 2 37, 0, 0)))))) (x_T 48 (x_T 44 (x_T 40 (x_T 37 (x_L 37 (0, xi_getf 12 50 40, 0, 0)) (x_L 40 (0, xi_load 0 2 41, 0, 0))) (x_T 41 (x_L 41 (0, xi_getf 12 49 44, 0, 0)) (x_L 44 (0, xi_load 1 0 45, 0, 0)))) (x_T 46 (x_T 45 (x_L 45 (0, xi_ast false 46, 0, 0)) (x_L 46 (0, xi_load 0 2 47, 0, 0))) (x_T 47 (x_L 47 (0, xi_stk xf_dup 48, 0, 0)) (x_L 48 (0, xi_getf 12 49 51, 0, 0))))) (x_T 56 (x_T 52 (x_T 51 (x_L 51 (0, xi_push (0, 1, 1) 52, 0, 0)) (x_L 52 (0, xi_bin xF_add 53, 0, 0))) (x_T 53 (x_L 53 (0, xi_putf 12 49 0 56, 0, 0)) (x_L 56 (0, xi_load 0 2 57, 0, 0)))) (x_T 60 (x_T 57 (x_L 57 (0, xi_getf 12 49 60, 0, 0)) (x_L 60 (0, xi_push (0, 1, 1) 61, 0, 0))) (x_T 61 (x_L 61 (0, xi_bin xF_sub 62, 0, 0)) (x_L 62 (1, x_nof, 1, 0)))))))
set_option maxRecDepth 20000 in
set_option maxHeartbeats 4000000 in
theorem tb_130_0_ok (K : xKx) (hK : x_KP K) : ∀ pc, x_EOq cls K xI m_130 pc (tb_130_0 pc) :=
  (x_Tok2
  (x_Tok2
  (x_Tok2
  (x_Tok2
  (x_Tok2
  (x_Lok (x_st (I := xI) (xr_iload_n (i := 1) (x_dk dl_130_0_ok 0 rfl))))
  (x_Lok (x_st (I := xI) (xr_i2l (x_dk dl_130_0_ok 1 rfl)))))
  (x_Tok2
  (x_Lok (x_st (I := xI) (xr_lconst (n := 0) (z := 0) (v := 0) (x_dk dl_130_0_ok 2 rfl) (by decide) (by decide))))
  (x_Lok (x_st (I := xI) (xr_ldc2 (ix := 365) (z := 1000) (v := 1000) (x_dk dl_130_0_ok 3 rfl) (in_t11 (List.mem_of_getElem? (i := 115) rfl) rfl) (by decide))))))
  (x_Tok2
  (x_Tok2
  (x_Lok (x_ca (I := xI) (q' := m_103) rfl (xr_callS (q' := m_103) (ix := 301) (n := 3) (in_t11 (List.mem_of_getElem? (i := 7) rfl) rfl) good_w (in_t1 (List.mem_of_getElem? (i := 14) rfl) rfl) (in_t11 (List.mem_of_getElem? (i := 5) rfl) rfl) (in_t11 (List.mem_of_getElem? (i := 6) rfl) rfl) (by decide +kernel) (by decide +kernel) (x_dk dl_130_0_ok 4 rfl))))
  (x_Lok (x_st (I := xI) (xr_ifne (off := 5) (tg := 14) (x_dk dl_130_0_ok 5 rfl) (by decide)))))
  (x_Tok2
  (x_Lok (x_st (I := xI) (xr_iconst (n := (-1)) (z := (-1)) (v := (-1)) (x_dk dl_130_0_ok 6 rfl) (by decide) (by decide))))
  (x_Lok (x_rt (I := xI) (k := 1) ⟨(x_dk dl_130_0_ok 7 rfl), rfl⟩)))))
  (x_Tok2
  (x_Tok2
  (x_Tok2
  (x_Lok (x_st (I := xI) (xr_aload_n (i := 0) (x_dk dl_130_0_ok 8 rfl))))
  (x_Lok (x_st (I := xI) (xr_getf (ci := 12) (k := 3) (ix := 265) (N := 119) (C := RX12) (T := TX12) rfl in_X12 (by decide) (in_t9 (List.mem_of_getElem? (i := 118) rfl) rfl) (x_dk dl_130_0_ok 9 rfl)))))
  (x_Tok2
  (x_Lok (x_st (I := xI) (xr_ifeq (off := 6) (tg := 24) (x_dk dl_130_0_ok 10 rfl) (by decide))))
  (x_Lok (x_st (I := xI) (xr_aload_n (i := 0) (x_dk dl_130_0_ok 11 rfl))))))
  (x_Tok2
  (x_Tok2
  (x_Lok (x_st (I := xI) (xr_getf (ci := 12) (k := 49) (ix := 285) (N := 119) (C := RX12) (T := TX12) rfl in_X12 (by decide) (in_t9 (List.mem_of_getElem? (i := 164) rfl) rfl) (x_dk dl_130_0_ok 12 rfl))))
  (x_Lok (x_st (I := xI) (xr_bipush (n := 8) (z := 8) (v := 8) (x_dk dl_130_0_ok 13 rfl) (by decide) (by decide)))))
  (x_Tok2
  (x_Lok (x_st (I := xI) (xr_icmpne (off := 6) (tg := 36) (x_dk dl_130_0_ok 14 rfl) (by decide))))
  (x_Lok (x_st (I := xI) (xr_aload_n (i := 0) (x_dk dl_130_0_ok 15 rfl))))))))
  (x_Tok2
  (x_Tok2
  (x_Tok2
  (x_Tok2
  (x_Lok (x_st (I := xI) (xr_getf (ci := 12) (k := 50) (ix := 134) (N := 119) (C := RX12) (T := TX12) rfl in_X12 (by decide) (in_t9 (List.mem_of_getElem? (i := 165) rfl) rfl) (x_dk dl_130_0_ok 16 rfl))))
  (x_Lok (x_st (I := xI) (xr_aload_n (i := 0) (x_dk dl_130_0_ok 17 rfl)))))
  (x_Tok2
  (x_Lok (x_st (I := xI) (xr_getf (ci := 12) (k := 49) (ix := 285) (N := 119) (C := RX12) (T := TX12) rfl in_X12 (by decide) (in_t9 (List.mem_of_getElem? (i := 164) rfl) rfl) (x_dk dl_130_0_ok 18 rfl))))
  (x_Lok (x_st (I := xI) (xr_iload_n (i := 1) (x_dk dl_130_0_ok 19 rfl))))))
  (x_Tok2
  (x_Tok2
  (x_Lok (x_st (I := xI) (xr_iastore (x_dk dl_130_0_ok 20 rfl))))
  (x_Lok (x_st (I := xI) (xr_aload_n (i := 0) (x_dk dl_130_0_ok 21 rfl)))))
  (x_Tok2
  (x_Lok (x_st (I := xI) (xr_dup (x_dk dl_130_0_ok 22 rfl))))
  (x_Lok (x_st (I := xI) (xr_getf (ci := 12) (k := 49) (ix := 285) (N := 119) (C := RX12) (T := TX12) rfl in_X12 (by decide) (in_t9 (List.mem_of_getElem? (i := 164) rfl) rfl) (x_dk dl_130_0_ok 23 rfl)))))))
  (x_Tok2
  (x_Tok2
  (x_Tok2
  (x_Lok (x_st (I := xI) (xr_iconst (n := 1) (z := 1) (v := 1) (x_dk dl_130_0_ok 24 rfl) (by decide) (by decide))))
  (x_Lok (x_st (I := xI) (xr_iadd (x_dk dl_130_0_ok 25 rfl)))))
  (x_Tok2
  (x_Lok (x_st (I := xI) (xr_putf (ci := 12) (k := 49) (ix := 285) (N := 119) (fk := 0) (C := RX12) (T := TX12) (ty0 := tyX12) (ty := .int) rfl in_X12 tyX12_ok nmX12 (by decide) (in_t9 (List.mem_of_getElem? (i := 164) rfl) rfl) rfl rfl x_fit_int (x_dk dl_130_0_ok 26 rfl))))
  (x_Lok (x_st (I := xI) (xr_aload_n (i := 0) (x_dk dl_130_0_ok 27 rfl))))))
  (x_Tok2
  (x_Tok2
  (x_Lok (x_st (I := xI) (xr_getf (ci := 12) (k := 49) (ix := 285) (N := 119) (C := RX12) (T := TX12) rfl in_X12 (by decide) (in_t9 (List.mem_of_getElem? (i := 164) rfl) rfl) (x_dk dl_130_0_ok 28 rfl))))
  (x_Lok (x_st (I := xI) (xr_iconst (n := 1) (z := 1) (v := 1) (x_dk dl_130_0_ok 29 rfl) (by decide) (by decide)))))
  (x_Tok2
  (x_Lok (x_st (I := xI) (xr_isub (x_dk dl_130_0_ok 30 rfl))))
  (x_Lok (x_rt (I := xI) (k := 1) ⟨(x_dk dl_130_0_ok 31 rfl), rfl⟩)))))))
def tb_130 : Nat → xE := tb_130_0
theorem tb_130_ok (K : xKx) (hK : x_KP K) : ∀ pc, x_EOq cls K xI m_130 pc (tb_130 pc) := tb_130_0_ok K hK
end
