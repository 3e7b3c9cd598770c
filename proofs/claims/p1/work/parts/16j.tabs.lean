noncomputable section
def dl_153_0 : List (Nat × Instr × Nat) := [(0, .iload_n 1, 1), (1, .i2l, 1), (2, .lconst 0, 1), (3, .ldc2_w 367, 3), (6, .invokestatic 301, 3), (9, .ifCond .ne 5, 3), (12, .iconst (-1), 1), (13, .ireturn, 1), (14, .aload_n 0, 1), (15, .getfield 265, 3), (18, .ifCond .eq 22, 3), (40, .bipush (-2), 2), (42, .ireturn, 1)]
set_option maxRecDepth 20000 in
theorem dl_153_0_ok : dl_153_0.all (fun q => decide (decode prog_14_method_166_code q.1 = .ok (q.2.1, q.2.2))) = true := by decide +kernel
def tb_153_0 : Nat → xE := (x_T 9 (x_T 2 (x_T 0 (x_L 0 (0, xi_load 1 0 1, 0, 0)) (x_T 1 (x_L 1 (0, xi_i2l 2, 0, 0)) (x_L 2 (0, xi_push (4, 0, 0) 3, 0, 0)))) (x_T 3 (x_L 3 (0, xi_push (4, 7, 7) 6, 0, 0)) (x_T 6 (x_L 6 (2, x_nof, 103, 3)) (x_L 9 (0, xi_if1 1 14 12, 0, 0))))) (x_T 14 (x_T 12 (x_L 12 (0, xi_push (0, (-1), (-1)) 13, 0, 0)) (x_T 13 (x_L 13 (1, x_nof, 1, 0)) (x_L 14 (0, xi_load 0 2 15, 0, 0)))) (x_T 18 (x_T 15 (x_L 15 (0, xi_getf 12 3 18, 0, 0)) (x_L 18 (0, xi_if1 0 40 21, 0, 0))) (x_T 40 (x_L 40 (0, xi_push (0, (-2), (-2)) 42, 0, 0)) (x_L 42 (1, x_nof, 1, 0))))))
set_option maxRecDepth 20000 in
set_option maxHeartbeats 4000000 in
theorem tb_153_0_ok (K : xKx) (hK : x_KP K) : ∀ pc, x_EOq cls K xI m_153 pc (tb_153_0 pc) :=
  (x_Tok2
  (x_Tok2
  (x_Tok2
  (x_Lok (x_st (I := xI) (xr_iload_n (i := 1) (x_dk dl_153_0_ok 0 rfl))))
  (x_Tok2
  (x_Lok (x_st (I := xI) (xr_i2l (x_dk dl_153_0_ok 1 rfl))))
  (x_Lok (x_st (I := xI) (xr_lconst (n := 0) (z := 0) (v := 0) (x_dk dl_153_0_ok 2 rfl) (by decide) (by decide))))))
  (x_Tok2
  (x_Lok (x_st (I := xI) (xr_ldc2 (ix := 367) (z := 7) (v := 7) (x_dk dl_153_0_ok 3 rfl) (in_t11 (List.mem_of_getElem? (i := 120) rfl) rfl) (by decide))))
  (x_Tok2
  (x_Lok (x_ca (I := xI) (q' := m_103) rfl (xr_callS (q' := m_103) (ix := 301) (n := 3) (in_t11 (List.mem_of_getElem? (i := 7) rfl) rfl) good_w (in_t1 (List.mem_of_getElem? (i := 14) rfl) rfl) (in_t11 (List.mem_of_getElem? (i := 5) rfl) rfl) (in_t11 (List.mem_of_getElem? (i := 6) rfl) rfl) (by decide +kernel) (by decide +kernel) (x_dk dl_153_0_ok 4 rfl))))
  (x_Lok (x_st (I := xI) (xr_ifne (off := 5) (tg := 14) (x_dk dl_153_0_ok 5 rfl) (by decide)))))))
  (x_Tok2
  (x_Tok2
  (x_Lok (x_st (I := xI) (xr_iconst (n := (-1)) (z := (-1)) (v := (-1)) (x_dk dl_153_0_ok 6 rfl) (by decide) (by decide))))
  (x_Tok2
  (x_Lok (x_rt (I := xI) (k := 1) ⟨(x_dk dl_153_0_ok 7 rfl), rfl⟩))
  (x_Lok (x_st (I := xI) (xr_aload_n (i := 0) (x_dk dl_153_0_ok 8 rfl))))))
  (x_Tok2
  (x_Tok2
  (x_Lok (x_st (I := xI) (xr_getf (ci := 12) (k := 3) (ix := 265) (N := 119) (C := RX12) (T := TX12) rfl in_X12 (by decide) (in_t9 (List.mem_of_getElem? (i := 118) rfl) rfl) (x_dk dl_153_0_ok 9 rfl))))
  (x_Lok (x_st (I := xI) (xr_ifeq (off := 22) (tg := 40) (x_dk dl_153_0_ok 10 rfl) (by decide)))))
  (x_Tok2
  (x_Lok (x_st (I := xI) (xr_bipush (n := (-2)) (z := (-2)) (v := (-2)) (x_dk dl_153_0_ok 11 rfl) (by decide) (by decide))))
  (x_Lok (x_rt (I := xI) (k := 1) ⟨(x_dk dl_153_0_ok 12 rfl), rfl⟩))))))
def tb_153 : Nat → xE := tb_153_0
theorem tb_153_ok (K : xKx) (hK : x_KP K) : ∀ pc, x_EOq cls K xI m_153 pc (tb_153 pc) := tb_153_0_ok K hK
def dl_154_0 : List (Nat × Instr × Nat) := [(0, .iload_n 1, 1), (1, .iconst (-1), 1), (2, .if_icmp .eq 13, 3), (5, .aload_n 0, 1), (6, .iload_n 1, 1), (7, .invokevirtual 305, 3), (10, .ifCond .ne 5, 3), (13, .iconst (-1), 1), (14, .ireturn, 1), (15, .aload_n 0, 1), (16, .getfield 265, 3), (19, .ifCond .eq 17, 3), (36, .bipush (-2), 2), (38, .ireturn, 1)]
set_option maxRecDepth 20000 in
theorem dl_154_0_ok : dl_154_0.all (fun q => decide (decode prog_14_method_167_code q.1 = .ok (q.2.1, q.2.2))) = true := by decide +kernel
def tb_154_0 : Nat → xE := (x_T 10 (x_T 2 (x_T 0 (x_L 0 (0, xi_load 1 0 1, 0, 0)) (x_T 1 (x_L 1 (0, xi_push (0, (-1), (-1)) 2, 0, 0)) (x_L 2 (0, xi_if3 15 5 5, 0, 0)))) (x_T 6 (x_T 5 (x_L 5 (0, xi_load 0 2 6, 0, 0)) (x_L 6 (0, xi_load 1 0 7, 0, 0))) (x_T 7 (x_L 7 (2, x_nof, 107, 2)) (x_L 10 (0, xi_if1 1 15 13, 0, 0))))) (x_T 15 (x_T 13 (x_L 13 (0, xi_push (0, (-1), (-1)) 14, 0, 0)) (x_T 14 (x_L 14 (1, x_nof, 1, 0)) (x_L 15 (0, xi_load 0 2 16, 0, 0)))) (x_T 19 (x_T 16 (x_L 16 (0, xi_getf 12 3 19, 0, 0)) (x_L 19 (0, xi_if1 0 36 22, 0, 0))) (x_T 36 (x_L 36 (0, xi_push (0, (-2), (-2)) 38, 0, 0)) (x_L 38 (1, x_nof, 1, 0))))))
set_option maxRecDepth 20000 in
set_option maxHeartbeats 4000000 in
theorem tb_154_0_ok (K : xKx) (hK : x_KP K) : ∀ pc, x_EOq cls K xI m_154 pc (tb_154_0 pc) :=
  (x_Tok2
  (x_Tok2
  (x_Tok2
  (x_Lok (x_st (I := xI) (xr_iload_n (i := 1) (x_dk dl_154_0_ok 0 rfl))))
  (x_Tok2
  (x_Lok (x_st (I := xI) (xr_iconst (n := (-1)) (z := (-1)) (v := (-1)) (x_dk dl_154_0_ok 1 rfl) (by decide) (by decide))))
  (x_Lok (x_st (I := xI) (xr_3eq (off := 13) (tg := 15) (x_dk dl_154_0_ok 2 rfl) (by decide))))))
  (x_Tok2
  (x_Tok2
  (x_Lok (x_st (I := xI) (xr_aload_n (i := 0) (x_dk dl_154_0_ok 3 rfl))))
  (x_Lok (x_st (I := xI) (xr_iload_n (i := 1) (x_dk dl_154_0_ok 4 rfl)))))
  (x_Tok2
  (x_Lok (x_ca (I := xI) (q' := m_107) rfl (xr_callV (q' := m_107) (ix := 305) (n := 1) (in_t11 (List.mem_of_getElem? (i := 27) rfl) rfl) good_w (in_t1 (List.mem_of_getElem? (i := 14) rfl) rfl) (in_t11 (List.mem_of_getElem? (i := 24) rfl) rfl) (in_t11 (List.mem_of_getElem? (i := 26) rfl) rfl) (in_s8 (List.mem_of_getElem? (i := 2) rfl)) (by decide +kernel) (by decide +kernel) (by decide +kernel) (x_dk dl_154_0_ok 5 rfl))))
  (x_Lok (x_st (I := xI) (xr_ifne (off := 5) (tg := 15) (x_dk dl_154_0_ok 6 rfl) (by decide)))))))
  (x_Tok2
  (x_Tok2
  (x_Lok (x_st (I := xI) (xr_iconst (n := (-1)) (z := (-1)) (v := (-1)) (x_dk dl_154_0_ok 7 rfl) (by decide) (by decide))))
  (x_Tok2
  (x_Lok (x_rt (I := xI) (k := 1) ⟨(x_dk dl_154_0_ok 8 rfl), rfl⟩))
  (x_Lok (x_st (I := xI) (xr_aload_n (i := 0) (x_dk dl_154_0_ok 9 rfl))))))
  (x_Tok2
  (x_Tok2
  (x_Lok (x_st (I := xI) (xr_getf (ci := 12) (k := 3) (ix := 265) (N := 119) (C := RX12) (T := TX12) rfl in_X12 (by decide) (in_t9 (List.mem_of_getElem? (i := 118) rfl) rfl) (x_dk dl_154_0_ok 10 rfl))))
  (x_Lok (x_st (I := xI) (xr_ifeq (off := 17) (tg := 36) (x_dk dl_154_0_ok 11 rfl) (by decide)))))
  (x_Tok2
  (x_Lok (x_st (I := xI) (xr_bipush (n := (-2)) (z := (-2)) (v := (-2)) (x_dk dl_154_0_ok 12 rfl) (by decide) (by decide))))
  (x_Lok (x_rt (I := xI) (k := 1) ⟨(x_dk dl_154_0_ok 13 rfl), rfl⟩))))))
def tb_154 : Nat → xE := tb_154_0
theorem tb_154_ok (K : xKx) (hK : x_KP K) : ∀ pc, x_EOq cls K xI m_154 pc (tb_154 pc) := tb_154_0_ok K hK
def dl_155_0 : List (Nat × Instr × Nat) := [(0, .aload_n 0, 1), (1, .iload_n 1, 1), (2, .invokevirtual 305, 3), (5, .ifCond .ne 5, 3), (8, .iconst (-1), 1), (9, .ireturn, 1)]
set_option maxRecDepth 20000 in
theorem dl_155_0_ok : dl_155_0.all (fun q => decide (decode prog_14_method_168_code q.1 = .ok (q.2.1, q.2.2))) = true := by decide +kernel
def tb_155_0 : Nat → xE := (x_T 2 (x_T 0 (x_L 0 (0, xi_load 0 2 1, 0, 0)) (x_T 1 (x_L 1 (0, xi_load 1 0 2, 0, 0)) (x_L 2 (2, x_nof, 107, 2)))) (x_T 5 (x_L 5 (0, xi_if1 1 10 8, 0, 0)) (x_T 8 (x_L 8 (0, xi_push (0, (-1), (-1)) 9, 0, 0)) (x_L 9 (1, x_nof, 1, 0)))))
set_option maxRecDepth 20000 in
set_option maxHeartbeats 4000000 in
theorem tb_155_0_ok (K : xKx) (hK : x_KP K) : ∀ pc, x_EOq cls K xI m_155 pc (tb_155_0 pc) :=
  (x_Tok2
  (x_Tok2
  (x_Lok (x_st (I := xI) (xr_aload_n (i := 0) (x_dk dl_155_0_ok 0 rfl))))
  (x_Tok2
  (x_Lok (x_st (I := xI) (xr_iload_n (i := 1) (x_dk dl_155_0_ok 1 rfl))))
  (x_Lok (x_ca (I := xI) (q' := m_107) rfl (xr_callV (q' := m_107) (ix := 305) (n := 1) (in_t11 (List.mem_of_getElem? (i := 27) rfl) rfl) good_w (in_t1 (List.mem_of_getElem? (i := 14) rfl) rfl) (in_t11 (List.mem_of_getElem? (i := 24) rfl) rfl) (in_t11 (List.mem_of_getElem? (i := 26) rfl) rfl) (in_s8 (List.mem_of_getElem? (i := 2) rfl)) (by decide +kernel) (by decide +kernel) (by decide +kernel) (x_dk dl_155_0_ok 2 rfl))))))
  (x_Tok2
  (x_Lok (x_st (I := xI) (xr_ifne (off := 5) (tg := 10) (x_dk dl_155_0_ok 3 rfl) (by decide))))
  (x_Tok2
  (x_Lok (x_st (I := xI) (xr_iconst (n := (-1)) (z := (-1)) (v := (-1)) (x_dk dl_155_0_ok 4 rfl) (by decide) (by decide))))
  (x_Lok (x_rt (I := xI) (k := 1) ⟨(x_dk dl_155_0_ok 5 rfl), rfl⟩)))))
def tb_155 : Nat → xE := tb_155_0
theorem tb_155_ok (K : xKx) (hK : x_KP K) : ∀ pc, x_EOq cls K xI m_155 pc (tb_155 pc) := tb_155_0_ok K hK
def dl_156_0 : List (Nat × Instr × Nat) := [(0, .aload_n 0, 1), (1, .iload_n 1, 1), (2, .iload_n 2, 1), (3, .invokevirtual 333, 3), (6, .ifCond .eq 35, 3), (41, .iconst (-1), 1), (42, .ireturn, 1)]
set_option maxRecDepth 20000 in
theorem dl_156_0_ok : dl_156_0.all (fun q => decide (decode prog_14_method_169_code q.1 = .ok (q.2.1, q.2.2))) = true := by decide +kernel
def tb_156_0 : Nat → xE := (x_T 2 (x_T 0 (x_L 0 (0, xi_load 0 2 1, 0, 0)) (x_T 1 (x_L 1 (0, xi_load 1 0 2, 0, 0)) (x_L 2 (0, xi_load 2 0 3, 0, 0)))) (x_T 6 (x_T 3 (x_L 3 (2, x_nof, 108, 3)) (x_L 6 (0, xi_if1 0 41 9, 0, 0))) (x_T 41 (x_L 41 (0, xi_push (0, (-1), (-1)) 42, 0, 0)) (x_L 42 (1, x_nof, 1, 0)))))
set_option maxRecDepth 20000 in
set_option maxHeartbeats 4000000 in
theorem tb_156_0_ok (K : xKx) (hK : x_KP K) : ∀ pc, x_EOq cls K xI m_156 pc (tb_156_0 pc) :=
  (x_Tok2
  (x_Tok2
  (x_Lok (x_st (I := xI) (xr_aload_n (i := 0) (x_dk dl_156_0_ok 0 rfl))))
  (x_Tok2
  (x_Lok (x_st (I := xI) (xr_iload_n (i := 1) (x_dk dl_156_0_ok 1 rfl))))
  (x_Lok (x_st (I := xI) (xr_iload_n (i := 2) (x_dk dl_156_0_ok 2 rfl))))))
  (x_Tok2
  (x_Tok2
  (x_Lok (x_ca (I := xI) (q' := m_108) rfl (xr_callV (q' := m_108) (ix := 333) (n := 2) (in_t11 (List.mem_of_getElem? (i := 36) rfl) rfl) good_w (in_t1 (List.mem_of_getElem? (i := 14) rfl) rfl) (in_t11 (List.mem_of_getElem? (i := 33) rfl) rfl) (in_t11 (List.mem_of_getElem? (i := 35) rfl) rfl) (in_s8 (List.mem_of_getElem? (i := 3) rfl)) (by decide +kernel) (by decide +kernel) (by decide +kernel) (x_dk dl_156_0_ok 3 rfl))))
  (x_Lok (x_st (I := xI) (xr_ifeq (off := 35) (tg := 41) (x_dk dl_156_0_ok 4 rfl) (by decide)))))
  (x_Tok2
  (x_Lok (x_st (I := xI) (xr_iconst (n := (-1)) (z := (-1)) (v := (-1)) (x_dk dl_156_0_ok 5 rfl) (by decide) (by decide))))
  (x_Lok (x_rt (I := xI) (k := 1) ⟨(x_dk dl_156_0_ok 6 rfl), rfl⟩)))))
def tb_156 : Nat → xE := tb_156_0
theorem tb_156_ok (K : xKx) (hK : x_KP K) : ∀ pc, x_EOq cls K xI m_156 pc (tb_156 pc) := tb_156_0_ok K hK
def dl_157_0 : List (Nat × Instr × Nat) := [(0, .iload_n 1, 1), (1, .i2l, 1), (2, .lconst 0, 1), (3, .ldc2_w 879, 3), (6, .invokestatic 301, 3), (9, .ifCond .ne 5, 3), (12, .iconst (-1), 1), (13, .ireturn, 1), (14, .aload_n 0, 1), (15, .getfield 265, 3), (18, .ifCond .ne 6, 3), (21, .bipush (-2), 2), (23, .ireturn, 1)]
set_option maxRecDepth 20000 in
theorem dl_157_0_ok : dl_157_0.all (fun q => decide (decode prog_14_method_170_code q.1 = .ok (q.2.1, q.2.2))) = true := by decide +kernel
def tb_157_0 : Nat → xE := (x_T 9 (x_T 2 (x_T 0 (x_L 0 (0, xi_load 1 0 1, 0, 0)) (x_T 1 (x_L 1 (0, xi_i2l 2, 0, 0)) (x_L 2 (0, xi_push (4, 0, 0) 3, 0, 0)))) (x_T 3 (x_L 3 (0, xi_push (4, 5, 5) 6, 0, 0)) (x_T 6 (x_L 6 (2, x_nof, 103, 3)) (x_L 9 (0, xi_if1 1 14 12, 0, 0))))) (x_T 14 (x_T 12 (x_L 12 (0, xi_push (0, (-1), (-1)) 13, 0, 0)) (x_T 13 (x_L 13 (1, x_nof, 1, 0)) (x_L 14 (0, xi_load 0 2 15, 0, 0)))) (x_T 18 (x_T 15 (x_L 15 (0, xi_getf 12 3 18, 0, 0)) (x_L 18 (0, xi_if1 1 24 21, 0, 0))) (x_T 21 (x_L 21 (0, xi_push (0, (-2), (-2)) 23, 0, 0)) (x_L 23 (1, x_nof, 1, 0))))))
set_option maxRecDepth 20000 in
set_option maxHeartbeats 4000000 in
theorem tb_157_0_ok (K : xKx) (hK : x_KP K) : ∀ pc, x_EOq cls K xI m_157 pc (tb_157_0 pc) :=
  (x_Tok2
  (x_Tok2
  (x_Tok2
  (x_Lok (x_st (I := xI) (xr_iload_n (i := 1) (x_dk dl_157_0_ok 0 rfl))))
  (x_Tok2
  (x_Lok (x_st (I := xI) (xr_i2l (x_dk dl_157_0_ok 1 rfl))))
  (x_Lok (x_st (I := xI) (xr_lconst (n := 0) (z := 0) (v := 0) (x_dk dl_157_0_ok 2 rfl) (by decide) (by decide))))))
  (x_Tok2
  (x_Lok (x_st (I := xI) (xr_ldc2 (ix := 879) (z := 5) (v := 5) (x_dk dl_157_0_ok 3 rfl) (in_t13 (List.mem_of_getElem? (i := 183) rfl) rfl) (by decide))))
  (x_Tok2
  (x_Lok (x_ca (I := xI) (q' := m_103) rfl (xr_callS (q' := m_103) (ix := 301) (n := 3) (in_t11 (List.mem_of_getElem? (i := 7) rfl) rfl) good_w (in_t1 (List.mem_of_getElem? (i := 14) rfl) rfl) (in_t11 (List.mem_of_getElem? (i := 5) rfl) rfl) (in_t11 (List.mem_of_getElem? (i := 6) rfl) rfl) (by decide +kernel) (by decide +kernel) (x_dk dl_157_0_ok 4 rfl))))
  (x_Lok (x_st (I := xI) (xr_ifne (off := 5) (tg := 14) (x_dk dl_157_0_ok 5 rfl) (by decide)))))))
  (x_Tok2
  (x_Tok2
  (x_Lok (x_st (I := xI) (xr_iconst (n := (-1)) (z := (-1)) (v := (-1)) (x_dk dl_157_0_ok 6 rfl) (by decide) (by decide))))
  (x_Tok2
  (x_Lok (x_rt (I := xI) (k := 1) ⟨(x_dk dl_157_0_ok 7 rfl), rfl⟩))
  (x_Lok (x_st (I := xI) (xr_aload_n (i := 0) (x_dk dl_157_0_ok 8 rfl))))))
  (x_Tok2
  (x_Tok2
  (x_Lok (x_st (I := xI) (xr_getf (ci := 12) (k := 3) (ix := 265) (N := 119) (C := RX12) (T := TX12) rfl in_X12 (by decide) (in_t9 (List.mem_of_getElem? (i := 118) rfl) rfl) (x_dk dl_157_0_ok 9 rfl))))
  (x_Lok (x_st (I := xI) (xr_ifne (off := 6) (tg := 24) (x_dk dl_157_0_ok 10 rfl) (by decide)))))
  (x_Tok2
  (x_Lok (x_st (I := xI) (xr_bipush (n := (-2)) (z := (-2)) (v := (-2)) (x_dk dl_157_0_ok 11 rfl) (by decide) (by decide))))
  (x_Lok (x_rt (I := xI) (k := 1) ⟨(x_dk dl_157_0_ok 12 rfl), rfl⟩))))))
def tb_157 : Nat → xE := tb_157_0
theorem tb_157_ok (K : xKx) (hK : x_KP K) : ∀ pc, x_EOq cls K xI m_157 pc (tb_157 pc) := tb_157_0_ok K hK
def dl_158_0 : List (Nat × Instr × Nat) := [(0, .iload_n 1, 1), (1, .i2l, 1), (2, .lconst 0, 1), (3, .aload_n 0, 1), (4, .getfield 288, 3), (7, .i2l, 1), (8, .invokestatic 301, 3), (11, .ifCond .ne 5, 3), (14, .iconst (-1), 1), (15, .ireturn, 1), (16, .aload_n 0, 1), (17, .getfield 265, 3), (20, .ifCond .ne 6, 3), (23, .bipush (-2), 2), (25, .ireturn, 1)]
set_option maxRecDepth 20000 in
theorem dl_158_0_ok : dl_158_0.all (fun q => decide (decode prog_14_method_172_code q.1 = .ok (q.2.1, q.2.2))) = true := by decide +kernel
def tb_158_0 : Nat → xE := (x_T 8 (x_T 2 (x_T 0 (x_L 0 (0, xi_load 1 0 1, 0, 0)) (x_T 1 (x_L 1 (0, xi_i2l 2, 0, 0)) (x_L 2 (0, xi_push (4, 0, 0) 3, 0, 0)))) (x_T 4 (x_T 3 (x_L 3 (0, xi_load 0 2 4, 0, 0)) (x_L 4 (0, xi_getf 12 5 7, 0, 0))) (x_T 7 (x_L 7 (0, xi_i2l 8, 0, 0)) (x_L 8 (2, x_nof, 103, 3))))) (x_T 16 (x_T 14 (x_T 11 (x_L 11 (0, xi_if1 1 16 14, 0, 0)) (x_L 14 (0, xi_push (0, (-1), (-1)) 15, 0, 0))) (x_T 15 (x_L 15 (1, x_nof, 1, 0)) (x_L 16 (0, xi_load 0 2 17, 0, 0)))) (x_T 20 (x_T 17 (x_L 17 (0, xi_getf 12 3 20, 0, 0)) (x_L 20 (0, xi_if1 1 26 23, 0, 0))) (x_T 23 (x_L 23 (0, xi_push (0, (-2), (-2)) 25, 0, 0)) (x_L 25 (1, x_nof, 1, 0))))))
set_option maxRecDepth 20000 in
set_option maxHeartbeats 4000000 in
theorem tb_158_0_ok (K : xKx) (hK : x_KP K) : ∀ pc, x_EOq cls K xI m_158 pc (tb_158_0 pc) :=
  (x_Tok2
  (x_Tok2
  (x_Tok2
  (x_Lok (x_st (I := xI) (xr_iload_n (i := 1) (x_dk dl_158_0_ok 0 rfl))))
  (x_Tok2
  (x_Lok (x_st (I := xI) (xr_i2l (x_dk dl_158_0_ok 1 rfl))))
  (x_Lok (x_st (I := xI) (xr_lconst (n := 0) (z := 0) (v := 0) (x_dk dl_158_0_ok 2 rfl) (by decide) (by decide))))))
  (x_Tok2
  (x_Tok2
  (x_Lok (x_st (I := xI) (xr_aload_n (i := 0) (x_dk dl_158_0_ok 3 rfl))))
  (x_Lok (x_st (I := xI) (xr_getf (ci := 12) (k := 5) (ix := 288) (N := 119) (C := RX12) (T := TX12) rfl in_X12 (by decide) (in_t9 (List.mem_of_getElem? (i := 120) rfl) rfl) (x_dk dl_158_0_ok 4 rfl)))))
  (x_Tok2
  (x_Lok (x_st (I := xI) (xr_i2l (x_dk dl_158_0_ok 5 rfl))))
  (x_Lok (x_ca (I := xI) (q' := m_103) rfl (xr_callS (q' := m_103) (ix := 301) (n := 3) (in_t11 (List.mem_of_getElem? (i := 7) rfl) rfl) good_w (in_t1 (List.mem_of_getElem? (i := 14) rfl) rfl) (in_t11 (List.mem_of_getElem? (i := 5) rfl) rfl) (in_t11 (List.mem_of_getElem? (i := 6) rfl) rfl) (by decide +kernel) (by decide +kernel) (x_dk dl_158_0_ok 6 rfl)))))))
  (x_Tok2
  (x_Tok2
  (x_Tok2
  (x_Lok (x_st (I := xI) (xr_ifne (off := 5) (tg := 16) (x_dk dl_158_0_ok 7 rfl) (by decide))))
  (x_Lok (x_st (I := xI) (xr_iconst (n := (-1)) (z := (-1)) (v := (-1)) (x_dk dl_158_0_ok 8 rfl) (by decide) (by decide)))))
  (x_Tok2
  (x_Lok (x_rt (I := xI) (k := 1) ⟨(x_dk dl_158_0_ok 9 rfl), rfl⟩))
  (x_Lok (x_st (I := xI) (xr_aload_n (i := 0) (x_dk dl_158_0_ok 10 rfl))))))
  (x_Tok2
  (x_Tok2
  (x_Lok (x_st (I := xI) (xr_getf (ci := 12) (k := 3) (ix := 265) (N := 119) (C := RX12) (T := TX12) rfl in_X12 (by decide) (in_t9 (List.mem_of_getElem? (i := 118) rfl) rfl) (x_dk dl_158_0_ok 11 rfl))))
  (x_Lok (x_st (I := xI) (xr_ifne (off := 6) (tg := 26) (x_dk dl_158_0_ok 12 rfl) (by decide)))))
  (x_Tok2
  (x_Lok (x_st (I := xI) (xr_bipush (n := (-2)) (z := (-2)) (v := (-2)) (x_dk dl_158_0_ok 13 rfl) (by decide) (by decide))))
  (x_Lok (x_rt (I := xI) (k := 1) ⟨(x_dk dl_158_0_ok 14 rfl), rfl⟩))))))
def tb_158 : Nat → xE := tb_158_0
theorem tb_158_ok (K : xKx) (hK : x_KP K) : ∀ pc, x_EOq cls K xI m_158 pc (tb_158 pc) := tb_158_0_ok K hK
def dl_159_0 : List (Nat × Instr × Nat) := [(0, .aload_n 0, 1), (1, .getfield 8, 3), (4, .iconst 0, 1), (5, .iaload, 1), (6, .ireturn, 1)]
set_option maxRecDepth 20000 in
theorem dl_159_0_ok : dl_159_0.all (fun q => decide (decode prog_14_method_173_code q.1 = .ok (q.2.1, q.2.2))) = true := by decide +kernel
def tb_159_0 : Nat → xE := (x_T 1 (x_T 0 (x_L 0 (0, xi_load 0 2 1, 0, 0)) (x_L 1 (0, xi_getf 12 0 4, 0, 0))) (x_T 4 (x_L 4 (0, xi_push (0, 0, 0) 5, 0, 0)) (x_T 5 (x_L 5 (0, xi_ald false 6, 0, 0)) (x_L 6 (1, x_nof, 1, 0)))))
set_option maxRecDepth 20000 in
set_option maxHeartbeats 4000000 in
theorem tb_159_0_ok (K : xKx) (hK : x_KP K) : ∀ pc, x_EOq cls K xI m_159 pc (tb_159_0 pc) :=
  (x_Tok2
  (x_Tok2
  (x_Lok (x_st (I := xI) (xr_aload_n (i := 0) (x_dk dl_159_0_ok 0 rfl))))
  (x_Lok (x_st (I := xI) (xr_getf (ci := 12) (k := 0) (ix := 8) (N := 119) (C := RX12) (T := TX12) rfl in_X12 (by decide) (in_t9 (List.mem_of_getElem? (i := 115) rfl) rfl) (x_dk dl_159_0_ok 1 rfl)))))
  (x_Tok2
  (x_Lok (x_st (I := xI) (xr_iconst (n := 0) (z := 0) (v := 0) (x_dk dl_159_0_ok 2 rfl) (by decide) (by decide))))
  (x_Tok2
  (x_Lok (x_st (I := xI) (xr_iaload (x_dk dl_159_0_ok 3 rfl))))
  (x_Lok (x_rt (I := xI) (k := 1) ⟨(x_dk dl_159_0_ok 4 rfl), rfl⟩)))))
def tb_159 : Nat → xE := tb_159_0
theorem tb_159_ok (K : xKx) (hK : x_KP K) : ∀ pc, x_EOq cls K xI m_159 pc (tb_159 pc) := tb_159_0_ok K hK
def dl_160_0 : List (Nat × Instr × Nat) := [(0, .aload_n 0, 1), (1, .iload_n 1, 1), (2, .invokevirtual 305, 3), (5, .ifCond .eq 15, 3), (20, .iconst (-1), 1), (21, .ireturn, 1)]
set_option maxRecDepth 20000 in
theorem dl_160_0_ok : dl_160_0.all (fun q => decide (decode prog_14_method_174_code q.1 = .ok (q.2.1, q.2.2))) = true := by decide +kernel
def tb_160_0 : Nat → xE := (x_T 2 (x_T 0 (x_L 0 (0, xi_load 0 2 1, 0, 0)) (x_T 1 (x_L 1 (0, xi_load 1 0 2, 0, 0)) (x_L 2 (2, x_nof, 107, 2)))) (x_T 5 (x_L 5 (0, xi_if1 0 20 8, 0, 0)) (x_T 20 (x_L 20 (0, xi_push (0, (-1), (-1)) 21, 0, 0)) (x_L 21 (1, x_nof, 1, 0)))))
set_option maxRecDepth 20000 in
set_option maxHeartbeats 4000000 in
theorem tb_160_0_ok (K : xKx) (hK : x_KP K) : ∀ pc, x_EOq cls K xI m_160 pc (tb_160_0 pc) :=
  (x_Tok2
  (x_Tok2
  (x_Lok (x_st (I := xI) (xr_aload_n (i := 0) (x_dk dl_160_0_ok 0 rfl))))
  (x_Tok2
  (x_Lok (x_st (I := xI) (xr_iload_n (i := 1) (x_dk dl_160_0_ok 1 rfl))))
  (x_Lok (x_ca (I := xI) (q' := m_107) rfl (xr_callV (q' := m_107) (ix := 305) (n := 1) (in_t11 (List.mem_of_getElem? (i := 27) rfl) rfl) good_w (in_t1 (List.mem_of_getElem? (i := 14) rfl) rfl) (in_t11 (List.mem_of_getElem? (i := 24) rfl) rfl) (in_t11 (List.mem_of_getElem? (i := 26) rfl) rfl) (in_s8 (List.mem_of_getElem? (i := 2) rfl)) (by decide +kernel) (by decide +kernel) (by decide +kernel) (x_dk dl_160_0_ok 2 rfl))))))
  (x_Tok2
  (x_Lok (x_st (I := xI) (xr_ifeq (off := 15) (tg := 20) (x_dk dl_160_0_ok 3 rfl) (by decide))))
  (x_Tok2
  (x_Lok (x_st (I := xI) (xr_iconst (n := (-1)) (z := (-1)) (v := (-1)) (x_dk dl_160_0_ok 4 rfl) (by decide) (by decide))))
  (x_Lok (x_rt (I := xI) (k := 1) ⟨(x_dk dl_160_0_ok 5 rfl), rfl⟩)))))
def tb_160 : Nat → xE := tb_160_0
theorem tb_160_ok (K : xKx) (hK : x_KP K) : ∀ pc, x_EOq cls K xI m_160 pc (tb_160 pc) := tb_160_0_ok K hK
def dl_161_0 : List (Nat × Instr × Nat) := [(0, .aload_n 0, 1), (1, .iload_n 1, 1), (2, .iload_n 2, 1), (3, .invokevirtual 333, 3), (6, .ifCond .eq 20, 3), (26, .iconst (-1), 1), (27, .ireturn, 1)]
set_option maxRecDepth 20000 in
theorem dl_161_0_ok : dl_161_0.all (fun q => decide (decode prog_14_method_175_code q.1 = .ok (q.2.1, q.2.2))) = true := by decide +kernel
def tb_161_0 : Nat → xE := (x_T 2 (x_T 0 (x_L 0 (0, xi_load 0 2 1, 0, 0)) (x_T 1 (x_L 1 (0, xi_load 1 0 2, 0, 0)) (x_L 2 (0, xi_load 2 0 3, 0, 0)))) (x_T 6 (x_T 3 (x_L 3 (2, x_nof, 108, 3)) (x_L 6 (0, xi_if1 0 26 9, 0, 0))) (x_T 26 (x_L 26 (0, xi_push (0, (-1), (-1)) 27, 0, 0)) (x_L 27 (1, x_nof, 1, 0)))))
set_option maxRecDepth 20000 in
set_option maxHeartbeats 4000000 in
theorem tb_161_0_ok (K : xKx) (hK : x_KP K) : ∀ pc, x_EOq cls K xI m_161 pc (tb_161_0 pc) :=
  (x_Tok2
  (x_Tok2
  (x_Lok (x_st (I := xI) (xr_aload_n (i := 0) (x_dk dl_161_0_ok 0 rfl))))
  (x_Tok2
  (x_Lok (x_st (I := xI) (xr_iload_n (i := 1) (x_dk dl_161_0_ok 1 rfl))))
  (x_Lok (x_st (I := xI) (xr_iload_n (i := 2) (x_dk dl_161_0_ok 2 rfl))))))
  (x_Tok2
  (x_Tok2
  (x_Lok (x_ca (I := xI) (q' := m_108) rfl (xr_callV (q' := m_108) (ix := 333) (n := 2) (in_t11 (List.mem_of_getElem? (i := 36) rfl) rfl) good_w (in_t1 (List.mem_of_getElem? (i := 14) rfl) rfl) (in_t11 (List.mem_of_getElem? (i := 33) rfl) rfl) (in_t11 (List.mem_of_getElem? (i := 35) rfl) rfl) (in_s8 (List.mem_of_getElem? (i := 3) rfl)) (by decide +kernel) (by decide +kernel) (by decide +kernel) (x_dk dl_161_0_ok 3 rfl))))
  (x_Lok (x_st (I := xI) (xr_ifeq (off := 20) (tg := 26) (x_dk dl_161_0_ok 4 rfl) (by decide)))))
  (x_Tok2
  (x_Lok (x_st (I := xI) (xr_iconst (n := (-1)) (z := (-1)) (v := (-1)) (x_dk dl_161_0_ok 5 rfl) (by decide) (by decide))))
  (x_Lok (x_rt (I := xI) (k := 1) ⟨(x_dk dl_161_0_ok 6 rfl), rfl⟩)))))
def tb_161 : Nat → xE := tb_161_0
theorem tb_161_ok (K : xKx) (hK : x_KP K) : ∀ pc, x_EOq cls K xI m_161 pc (tb_161 pc) := tb_161_0_ok K hK
def dl_162_0 : List (Nat × Instr × Nat) := [(0, .aload_n 0, 1), (1, .iload_n 1, 1), (2, .invokevirtual 305, 3), (5, .ifCond .eq 29, 3), (34, .iconst (-1), 1), (35, .ireturn, 1)]
set_option maxRecDepth 20000 in
theorem dl_162_0_ok : dl_162_0.all (fun q => decide (decode prog_14_method_176_code q.1 = .ok (q.2.1, q.2.2))) = true := by decide +kernel
def tb_162_0 : Nat → xE := (x_T 2 (x_T 0 (x_L 0 (0, xi_load 0 2 1, 0, 0)) (x_T 1 (x_L 1 (0, xi_load 1 0 2, 0, 0)) (x_L 2 (2, x_nof, 107, 2)))) (x_T 5 (x_L 5 (0, xi_if1 0 34 8, 0, 0)) (x_T 34 (x_L 34 (0, xi_push (0, (-1), (-1)) 35, 0, 0)) (x_L 35 (1, x_nof, 1, 0)))))
set_option maxRecDepth 20000 in
set_option maxHeartbeats 4000000 in
theorem tb_162_0_ok (K : xKx) (hK : x_KP K) : ∀ pc, x_EOq cls K xI m_162 pc (tb_162_0 pc) :=
  (x_Tok2
  (x_Tok2
  (x_Lok (x_st (I := xI) (xr_aload_n (i := 0) (x_dk dl_162_0_ok 0 rfl))))
  (x_Tok2
  (x_Lok (x_st (I := xI) (xr_iload_n (i := 1) (x_dk dl_162_0_ok 1 rfl))))
  (x_Lok (x_ca (I := xI) (q' := m_107) rfl (xr_callV (q' := m_107) (ix := 305) (n := 1) (in_t11 (List.mem_of_getElem? (i := 27) rfl) rfl) good_w (in_t1 (List.mem_of_getElem? (i := 14) rfl) rfl) (in_t11 (List.mem_of_getElem? (i := 24) rfl) rfl) (in_t11 (List.mem_of_getElem? (i := 26) rfl) rfl) (in_s8 (List.mem_of_getElem? (i := 2) rfl)) (by decide +kernel) (by decide +kernel) (by decide +kernel) (x_dk dl_162_0_ok 2 rfl))))))
  (x_Tok2
  (x_Lok (x_st (I := xI) (xr_ifeq (off := 29) (tg := 34) (x_dk dl_162_0_ok 3 rfl) (by decide))))
  (x_Tok2
  (x_Lok (x_st (I := xI) (xr_iconst (n := (-1)) (z := (-1)) (v := (-1)) (x_dk dl_162_0_ok 4 rfl) (by decide) (by decide))))
  (x_Lok (x_rt (I := xI) (k := 1) ⟨(x_dk dl_162_0_ok 5 rfl), rfl⟩)))))
def tb_162 : Nat → xE := tb_162_0
theorem tb_162_ok (K : xKx) (hK : x_KP K) : ∀ pc, x_EOq cls K xI m_162 pc (tb_162 pc) := tb_162_0_ok K hK
def dl_163_0 : List (Nat × Instr × Nat) := [(0, .aload_n 0, 1), (1, .iload_n 1, 1), (2, .invokevirtual 305, 3), (5, .ifCond .eq 45, 3), (50, .iconst (-1), 1), (51, .ireturn, 1)]
set_option maxRecDepth 20000 in
theorem dl_163_0_ok : dl_163_0.all (fun q => decide (decode prog_14_method_177_code q.1 = .ok (q.2.1, q.2.2))) = true := by decide +kernel
def tb_163_0 : Nat → xE := (x_T 2 (x_T 0 (x_L 0 (0, xi_load 0 2 1, 0, 0)) (x_T 1 (x_L 1 (0, xi_load 1 0 2, 0, 0)) (x_L 2 (2, x_nof, 107, 2)))) (x_T 5 (x_L 5 (0, xi_if1 0 50 8, 0, 0)) (x_T 50 (x_L 50 (0, xi_push (0, (-1), (-1)) 51, 0, 0)) (x_L 51 (1, x_nof, 1, 0)))))
set_option maxRecDepth 20000 in
set_option maxHeartbeats 4000000 in
theorem tb_163_0_ok (K : xKx) (hK : x_KP K) : ∀ pc, x_EOq cls K xI m_163 pc (tb_163_0 pc) :=
  (x_Tok2
  (x_Tok2
  (x_Lok (x_st (I := xI) (xr_aload_n (i := 0) (x_dk dl_163_0_ok 0 rfl))))
  (x_Tok2
  (x_Lok (x_st (I := xI) (xr_iload_n (i := 1) (x_dk dl_163_0_ok 1 rfl))))
  (x_Lok (x_ca (I := xI) (q' := m_107) rfl (xr_callV (q' := m_107) (ix := 305) (n := 1) (in_t11 (List.mem_of_getElem? (i := 27) rfl) rfl) good_w (in_t1 (List.mem_of_getElem? (i := 14) rfl) rfl) (in_t11 (List.mem_of_getElem? (i := 24) rfl) rfl) (in_t11 (List.mem_of_getElem? (i := 26) rfl) rfl) (in_s8 (List.mem_of_getElem? (i := 2) rfl)) (by decide +kernel) (by decide +kernel) (by decide +kernel) (x_dk dl_163_0_ok 2 rfl))))))
  (x_Tok2
  (x_Lok (x_st (I := xI) (xr_ifeq (off := 45) (tg := 50) (x_dk dl_163_0_ok 3 rfl) (by decide))))
  (x_Tok2
  (x_Lok (x_st (I := xI) (xr_iconst (n := (-1)) (z := (-1)) (v := (-1)) (x_dk dl_163_0_ok 4 rfl) (by decide) (by decide))))
  (x_Lok (x_rt (I := xI) (k := 1) ⟨(x_dk dl_163_0_ok 5 rfl), rfl⟩)))))
def tb_163 : Nat → xE := tb_163_0
theorem tb_163_ok (K : xKx) (hK : x_KP K) : ∀ pc, x_EOq cls K xI m_163 pc (tb_163 pc) := tb_163_0_ok K hK
def dl_164_0 : List (Nat × Instr × Nat) := [(0, .iload_n 1, 1), (1, .i2l, 1), (2, .lconst 0, 1), (3, .ldc2_w 922, 3), (6, .invokestatic 301, 3), (9, .ifCond .eq 15, 3), (12, .iload_n 2, 1), (13, .i2l, 1), (14, .lconst 0, 1), (15, .ldc2_w 348, 3), (18, .invokestatic 301, 3), (21, .ifCond .ne 5, 3), (24, .iconst (-1), 1), (25, .ireturn, 1), (26, .aload_n 0, 1), (27, .getfield 8, 3), (30, .iload_n 1, 1), (31, .invokestatic 298, 3), (34, .iload_n 2, 1), (35, .iconst 3, 1), (36, .if_icmp .ge 7, 3), (39, .iload_n 2, 1), (40, .goto 5, 3), (43, .bipush 12, 2), (45, .iadd, 1), (46, .iaload, 1), (47, .ireturn, 1)]
set_option maxRecDepth 20000 in
theorem dl_164_0_ok : dl_164_0.all (fun q => decide (decode prog_14_method_178_code q.1 = .ok (q.2.1, q.2.2))) = true := by decide +kernel
def tb_164_0 : Nat → xE := (x_T 24 (x_T 9 (x_T 2 (x_T 0 (x_L 0 (0, xi_load 1 0 1, 0, 0)) (x_T 1 (x_L 1 (0, xi_i2l 2, 0, 0)) (x_L 2 (0, xi_push (4, 0, 0) 3, 0, 0)))) (x_T 3 (x_L 3 (0, xi_push (4, 15, 15) 6, 0, 0)) (x_T 6 (x_L 6 (2, x_nof, 103, 3)) (x_L 9 (0, xi_if1 0 24 12, 0, 0))))) (x_T 14 (x_T 12 (x_L 12 (0, xi_load 2 0 13, 0, 0)) (x_T 13 (x_L 13 (0, xi_i2l 14, 0, 0)) (x_L 14 (0, xi_push (4, 0, 0) 15, 0, 0)))) (x_T 18 (x_T 15 (x_L 15 (0, xi_push (4, 3, 3) 18, 0, 0)) (x_L 18 (2, x_nof, 103, 3))) (x_T 21 (x_L 21 (0, xi_if1 1 26 24, 0, 0)) (x_L 24 (0, xi_push (0, (-1), (-1)) 25, 0, 0)))))) (x_T 35 (x_T 27 (x_T 25 (x_L 25 (1, x_nof, 1, 0)) (x_T 26 (x_L 26 (0, xi_load 0 2 27, 0, 0)) (x_L 27 (0, xi_getf 12 0 30, 0, 0)))) (x_T 31 (x_T 30 (x_L 30 (0, xi_load 1 0 31, 0, 0)) (x_L 31 (2, x_nof, 106, 1))) (x_T 34 (x_L 34 (0, xi_load 2 0 35, 0, 0)) (x_L 35 (0, xi_push (0, 3, 3) 36, 0, 0))))) (x_T 40 (x_T 36 (x_L 36 (0, xi_if2 3 43 39, 0, 0)) (x_T 39 (x_L 39 (0, xi_load 2 0 40, 0, 0)) (x_L 40 (0, xi_goto 45, 0, 0)))) (x_T 45 (x_T 43 (x_L 43 (0, xi_push (0, 12, 12) 45, 0, 0)) (x_L 45 (0, xi_bin xF_add 46, 0, 0))) (x_T 46 (x_L 46 (0, xi_ald false 47, 0, 0)) (x_L 47 (1, x_nof, 1, 0)))))))
set_option maxRecDepth 20000 in
set_option maxHeartbeats 4000000 in
theorem tb_164_0_ok (K : xKx) (hK : x_KP K) : ∀ pc, x_EOq cls K xI m_164 pc (tb_164_0 pc) :=
  (x_Tok2
  (x_Tok2
  (x_Tok2
  (x_Tok2
  (x_Lok (x_st (I := xI) (xr_iload_n (i := 1) (x_dk dl_164_0_ok 0 rfl))))
  (x_Tok2
  (x_Lok (x_st (I := xI) (xr_i2l (x_dk dl_164_0_ok 1 rfl))))
  (x_Lok (x_st (I := xI) (xr_lconst (n := 0) (z := 0) (v := 0) (x_dk dl_164_0_ok 2 rfl) (by decide) (by decide))))))
  (x_Tok2
  (x_Lok (x_st (I := xI) (xr_ldc2 (ix := 922) (z := 15) (v := 15) (x_dk dl_164_0_ok 3 rfl) (in_t13 (List.mem_of_getElem? (i := 228) rfl) rfl) (by decide))))
  (x_Tok2
  (x_Lok (x_ca (I := xI) (q' := m_103) rfl (xr_callS (q' := m_103) (ix := 301) (n := 3) (in_t11 (List.mem_of_getElem? (i := 7) rfl) rfl) good_w (in_t1 (List.mem_of_getElem? (i := 14) rfl) rfl) (in_t11 (List.mem_of_getElem? (i := 5) rfl) rfl) (in_t11 (List.mem_of_getElem? (i := 6) rfl) rfl) (by decide +kernel) (by decide +kernel) (x_dk dl_164_0_ok 4 rfl))))
  (x_Lok (x_st (I := xI) (xr_ifeq (off := 15) (tg := 24) (x_dk dl_164_0_ok 5 rfl) (by decide)))))))
  (x_Tok2
  (x_Tok2
  (x_Lok (x_st (I := xI) (xr_iload_n (i := 2) (x_dk dl_164_0_ok 6 rfl))))
  (x_Tok2
  (x_Lok (x_st (I := xI) (xr_i2l (x_dk dl_164_0_ok 7 rfl))))
  (x_Lok (x_st (I := xI) (xr_lconst (n := 0) (z := 0) (v := 0) (x_dk dl_164_0_ok 8 rfl) (by decide) (by decide))))))
  (x_Tok2
  (x_Tok2
  (x_Lok (x_st (I := xI) (xr_ldc2 (ix := 348) (z := 3) (v := 3) (x_dk dl_164_0_ok 9 rfl) (in_t11 (List.mem_of_getElem? (i := 71) rfl) rfl) (by decide))))
  (x_Lok (x_ca (I := xI) (q' := m_103) rfl (xr_callS (q' := m_103) (ix := 301) (n := 3) (in_t11 (List.mem_of_getElem? (i := 7) rfl) rfl) good_w (in_t1 (List.mem_of_getElem? (i := 14) rfl) rfl) (in_t11 (List.mem_of_getElem? (i := 5) rfl) rfl) (in_t11 (List.mem_of_getElem? (i := 6) rfl) rfl) (by decide +kernel) (by decide +kernel) (x_dk dl_164_0_ok 10 rfl)))))
  (x_Tok2
  (x_Lok (x_st (I := xI) (xr_ifne (off := 5) (tg := 26) (x_dk dl_164_0_ok 11 rfl) (by decide))))
  (x_Lok (x_st (I := xI) (xr_iconst (n := (-1)) (z := (-1)) (v := (-1)) (x_dk dl_164_0_ok 12 rfl) (by decide) (by decide))))))))
  (x_Tok2
  (x_Tok2
  (x_Tok2
  (x_Lok (x_rt (I := xI) (k := 1) ⟨(x_dk dl_164_0_ok 13 rfl), rfl⟩))
  (x_Tok2
  (x_Lok (x_st (I := xI) (xr_aload_n (i := 0) (x_dk dl_164_0_ok 14 rfl))))
  (x_Lok (x_st (I := xI) (xr_getf (ci := 12) (k := 0) (ix := 8) (N := 119) (C := RX12) (T := TX12) rfl in_X12 (by decide) (in_t9 (List.mem_of_getElem? (i := 115) rfl) rfl) (x_dk dl_164_0_ok 15 rfl))))))
  (x_Tok2
  (x_Tok2
  (x_Lok (x_st (I := xI) (xr_iload_n (i := 1) (x_dk dl_164_0_ok 16 rfl))))
  (x_Lok (x_ca (I := xI) (q' := m_106) rfl (xr_callS (q' := m_106) (ix := 298) (n := 1) (in_t9 (List.mem_of_getElem? (i := 114) rfl) rfl) good_w (in_t1 (List.mem_of_getElem? (i := 14) rfl) rfl) (in_t9 (List.mem_of_getElem? (i := 112) rfl) rfl) (in_t9 (List.mem_of_getElem? (i := 113) rfl) rfl) (by decide +kernel) (by decide +kernel) (x_dk dl_164_0_ok 17 rfl)))))
  (x_Tok2
  (x_Lok (x_st (I := xI) (xr_iload_n (i := 2) (x_dk dl_164_0_ok 18 rfl))))
  (x_Lok (x_st (I := xI) (xr_iconst (n := 3) (z := 3) (v := 3) (x_dk dl_164_0_ok 19 rfl) (by decide) (by decide)))))))
  (x_Tok2
  (x_Tok2
  (x_Lok (x_st (I := xI) (xr_icmpge (off := 7) (tg := 43) (x_dk dl_164_0_ok 20 rfl) (by decide))))
  (x_Tok2
  (x_Lok (x_st (I := xI) (xr_iload_n (i := 2) (x_dk dl_164_0_ok 21 rfl))))
  (x_Lok (x_st (I := xI) (xr_goto (off := 5) (tg := 45) (x_dk dl_164_0_ok 22 rfl) (by decide))))))
  (x_Tok2
  (x_Tok2
  (x_Lok (x_st (I := xI) (xr_bipush (n := 12) (z := 12) (v := 12) (x_dk dl_164_0_ok 23 rfl) (by decide) (by decide))))
  (x_Lok (x_st (I := xI) (xr_iadd (x_dk dl_164_0_ok 24 rfl)))))
  (x_Tok2
  (x_Lok (x_st (I := xI) (xr_iaload (x_dk dl_164_0_ok 25 rfl))))
  (x_Lok (x_rt (I := xI) (k := 1) ⟨(x_dk dl_164_0_ok 26 rfl), rfl⟩)))))))
def tb_164 : Nat → xE := tb_164_0
theorem tb_164_ok (K : xKx) (hK : x_KP K) : ∀ pc, x_EOq cls K xI m_164 pc (tb_164 pc) := tb_164_0_ok K hK
def dl_165_0 : List (Nat × Instr × Nat) := [(0, .aload_n 0, 1), (1, .iload_n 1, 1), (2, .invokevirtual 305, 3), (5, .ifCond .eq 39, 3), (44, .iconst (-1), 1), (45, .ireturn, 1)]
set_option maxRecDepth 20000 in
theorem dl_165_0_ok : dl_165_0.all (fun q => decide (decode prog_14_method_179_code q.1 = .ok (q.2.1, q.2.2))) = true := by decide +kernel
def tb_165_0 : Nat → xE := (x_T 2 (x_T 0 (x_L 0 (0, xi_load 0 2 1, 0, 0)) (x_T 1 (x_L 1 (0, xi_load 1 0 2, 0, 0)) (x_L 2 (2, x_nof, 107, 2)))) (x_T 5 (x_L 5 (0, xi_if1 0 44 8, 0, 0)) (x_T 44 (x_L 44 (0, xi_push (0, (-1), (-1)) 45, 0, 0)) (x_L 45 (1, x_nof, 1, 0)))))
set_option maxRecDepth 20000 in
set_option maxHeartbeats 4000000 in
theorem tb_165_0_ok (K : xKx) (hK : x_KP K) : ∀ pc, x_EOq cls K xI m_165 pc (tb_165_0 pc) :=
  (x_Tok2
  (x_Tok2
  (x_Lok (x_st (I := xI) (xr_aload_n (i := 0) (x_dk dl_165_0_ok 0 rfl))))
  (x_Tok2
  (x_Lok (x_st (I := xI) (xr_iload_n (i := 1) (x_dk dl_165_0_ok 1 rfl))))
  (x_Lok (x_ca (I := xI) (q' := m_107) rfl (xr_callV (q' := m_107) (ix := 305) (n := 1) (in_t11 (List.mem_of_getElem? (i := 27) rfl) rfl) good_w (in_t1 (List.mem_of_getElem? (i := 14) rfl) rfl) (in_t11 (List.mem_of_getElem? (i := 24) rfl) rfl) (in_t11 (List.mem_of_getElem? (i := 26) rfl) rfl) (in_s8 (List.mem_of_getElem? (i := 2) rfl)) (by decide +kernel) (by decide +kernel) (by decide +kernel) (x_dk dl_165_0_ok 2 rfl))))))
  (x_Tok2
  (x_Lok (x_st (I := xI) (xr_ifeq (off := 39) (tg := 44) (x_dk dl_165_0_ok 3 rfl) (by decide))))
  (x_Tok2
  (x_Lok (x_st (I := xI) (xr_iconst (n := (-1)) (z := (-1)) (v := (-1)) (x_dk dl_165_0_ok 4 rfl) (by decide) (by decide))))
  (x_Lok (x_rt (I := xI) (k := 1) ⟨(x_dk dl_165_0_ok 5 rfl), rfl⟩)))))
def tb_165 : Nat → xE := tb_165_0
theorem tb_165_ok (K : xKx) (hK : x_KP K) : ∀ pc, x_EOq cls K xI m_165 pc (tb_165 pc) := tb_165_0_ok K hK
def dl_166_0 : List (Nat × Instr × Nat) := [(0, .aload_n 0, 1), (1, .iload_n 1, 1), (2, .invokevirtual 876, 3), (5, .ifCond .eq 15, 3), (8, .iload_n 2, 1), (9, .i2l, 1), (10, .lconst 0, 1), (11, .ldc2_w 750, 3), (14, .invokestatic 301, 3), (17, .ifCond .ne 5, 3), (20, .iconst (-1), 1), (21, .ireturn, 1), (22, .iload_n 2, 1), (23, .ifCond .ne 11, 3), (26, .aload_n 0, 1), (27, .iload_n 1, 1), (28, .invokevirtual 464, 3), (31, .goto 31, 3), (34, .iload_n 2, 1), (35, .iconst 1, 1), (36, .if_icmp .ne 16, 3), (39, .aload_n 0, 1), (40, .getfield 8, 3), (43, .sipush 160, 3), (46, .iload_n 1, 1), (47, .iadd, 1), (48, .iaload, 1), (49, .goto 13, 3), (52, .aload_n 0, 1), (53, .getfield 8, 3), (56, .sipush 352, 3), (59, .iload_n 1, 1), (60, .iadd, 1), (61, .iaload, 1), (62, .ireturn, 1)]
set_option maxRecDepth 20000 in
theorem dl_166_0_ok : dl_166_0.all (fun q => decide (decode prog_14_method_180_code q.1 = .ok (q.2.1, q.2.2))) = true := by decide +kernel
def tb_166_0 : Nat → xE := (x_T 28 (x_T 11 (x_T 5 (x_T 1 (x_T 0 (x_L 0 (0, xi_load 0 2 1, 0, 0)) (x_L 1 (0, xi_load 1 0 2, 0, 0))) (x_T 2 (x_L 2 (2, x_nof, 147, 2)) (x_L 5 (0, xi_if1 0 20 8, 0, 0)))) (x_T 9 (x_T 8 (x_L 8 (0, xi_load 2 0 9, 0, 0)) (x_L 9 (0, xi_i2l 10, 0, 0))) (x_T 10 (x_L 10 (0, xi_push (4, 0, 0) 11, 0, 0)) (x_L 11 (0, xi_push (4, 2, 2) 14, 0, 0))))) (x_T 21 (x_T 17 (x_T 14 (x_L 14 (2, x_nof, 103, 3)) (x_L 17 (0, xi_if1 1 22 20, 0, 0))) (x_T 20 (x_L 20 (0, xi_push (0, (-1), (-1)) 21, 0, 0)) (x_L 21 (1, x_nof, 1, 0)))) (x_T 23 (x_T 22 (x_L 22 (0, xi_load 2 0 23, 0, 0)) (x_L 23 (0, xi_if1 1 34 26, 0, 0))) (x_T 26 (x_L 26 (0, xi_load 0 2 27, 0, 0)) (x_T 27 (x_L 27 (0, xi_load 1 0 28, 0, 0)) (x_L 28 (2, x_nof, 140, 2))))))) (x_T 47 (x_T 36 (x_T 34 (x_T 31 (x_L 31 (0, xi_goto 62, 0, 0)) (x_L 34 (0, xi_load 2 0 35, 0, 0))) (x_T 35 (x_L 35 (0, xi_push (0, 1, 1) 36, 0, 0)) (x_L 36 (0, xi_if2 1 52 39, 0, 0)))) (x_T 40 (x_T 39 (x_L 39 (0, xi_load 0 2 40, 0, 0)) (x_L 40 (0, xi_getf 12 0 43, 0, 0))) (x_T 43 (x_L 43 (0, xi_push (0, 160, 160) 46, 0, 0)) (x_T 46 (x_L 46 (0, xi_load 1 0 47, 0, 0)) (x_L 47 (0, xi_bin xF_add 48, 0, 0)))))) (x_T 53 (x_T 49 (x_T 48 (x_L 48 (0, xi_ald false 49, 0, 0)) (x_L 49 (0, xi_goto 62, 0, 0))) (x_T 52 (x_L 52 (0, xi_load 0 2 53, 0, 0)) (x_L 53 (0, xi_getf 12 0 56, 0, 0)))) (x_T 59 (x_T 56 (x_L 56 (0, xi_push (0, 352, 352) 59, 0, 0)) (x_L 59 (0, xi_load 1 0 60, 0, 0))) (x_T 60 (x_L 60 (0, xi_bin xF_add 61, 0, 0)) (x_T 61 (x_L 61 (0, xi_ald false 62, 0, 0)) (x_L 62 (1, x_nof, 1, 0))))))))
set_option maxRecDepth 20000 in
set_option maxHeartbeats 4000000 in
theorem tb_166_0_ok (K : xKx) (hK : x_KP K) : ∀ pc, x_EOq cls K xI m_166 pc (tb_166_0 pc) :=
  (x_Tok2
  (x_Tok2
  (x_Tok2
  (x_Tok2
  (x_Tok2
  (x_Lok (x_st (I := xI) (xr_aload_n (i := 0) (x_dk dl_166_0_ok 0 rfl))))
  (x_Lok (x_st (I := xI) (xr_iload_n (i := 1) (x_dk dl_166_0_ok 1 rfl)))))
  (x_Tok2
  (x_Lok (x_ca (I := xI) (q' := m_147) rfl (xr_callV (q' := m_147) (ix := 876) (n := 1) (in_t13 (List.mem_of_getElem? (i := 154) rfl) rfl) good_w (in_t1 (List.mem_of_getElem? (i := 14) rfl) rfl) (in_t13 (List.mem_of_getElem? (i := 151) rfl) rfl) (in_t13 (List.mem_of_getElem? (i := 153) rfl) rfl) (in_s15 (List.mem_of_getElem? (i := 0) rfl)) (by decide +kernel) (by decide +kernel) (by decide +kernel) (x_dk dl_166_0_ok 2 rfl))))
  (x_Lok (x_st (I := xI) (xr_ifeq (off := 15) (tg := 20) (x_dk dl_166_0_ok 3 rfl) (by decide))))))
  (x_Tok2
  (x_Tok2
  (x_Lok (x_st (I := xI) (xr_iload_n (i := 2) (x_dk dl_166_0_ok 4 rfl))))
  (x_Lok (x_st (I := xI) (xr_i2l (x_dk dl_166_0_ok 5 rfl)))))
  (x_Tok2
  (x_Lok (x_st (I := xI) (xr_lconst (n := 0) (z := 0) (v := 0) (x_dk dl_166_0_ok 6 rfl) (by decide) (by decide))))
  (x_Lok (x_st (I := xI) (xr_ldc2 (ix := 750) (z := 2) (v := 2) (x_dk dl_166_0_ok 7 rfl) (in_t12 (List.mem_of_getElem? (i := 185) rfl) rfl) (by decide)))))))
  (x_Tok2
  (x_Tok2
  (x_Tok2
  (x_Lok (x_ca (I := xI) (q' := m_103) rfl (xr_callS (q' := m_103) (ix := 301) (n := 3) (in_t11 (List.mem_of_getElem? (i := 7) rfl) rfl) good_w (in_t1 (List.mem_of_getElem? (i := 14) rfl) rfl) (in_t11 (List.mem_of_getElem? (i := 5) rfl) rfl) (in_t11 (List.mem_of_getElem? (i := 6) rfl) rfl) (by decide +kernel) (by decide +kernel) (x_dk dl_166_0_ok 8 rfl))))
  (x_Lok (x_st (I := xI) (xr_ifne (off := 5) (tg := 22) (x_dk dl_166_0_ok 9 rfl) (by decide)))))
  (x_Tok2
  (x_Lok (x_st (I := xI) (xr_iconst (n := (-1)) (z := (-1)) (v := (-1)) (x_dk dl_166_0_ok 10 rfl) (by decide) (by decide))))
  (x_Lok (x_rt (I := xI) (k := 1) ⟨(x_dk dl_166_0_ok 11 rfl), rfl⟩))))
  (x_Tok2
  (x_Tok2
  (x_Lok (x_st (I := xI) (xr_iload_n (i := 2) (x_dk dl_166_0_ok 12 rfl))))
  (x_Lok (x_st (I := xI) (xr_ifne (off := 11) (tg := 34) (x_dk dl_166_0_ok 13 rfl) (by decide)))))
  (x_Tok2
  (x_Lok (x_st (I := xI) (xr_aload_n (i := 0) (x_dk dl_166_0_ok 14 rfl))))
  (x_Tok2
  (x_Lok (x_st (I := xI) (xr_iload_n (i := 1) (x_dk dl_166_0_ok 15 rfl))))
  (x_Lok (x_ca (I := xI) (q' := m_140) rfl (xr_callV (q' := m_140) (ix := 464) (n := 1) (in_t13 (List.mem_of_getElem? (i := 53) rfl) rfl) good_w (in_t1 (List.mem_of_getElem? (i := 14) rfl) rfl) (in_t13 (List.mem_of_getElem? (i := 50) rfl) rfl) (in_t13 (List.mem_of_getElem? (i := 52) rfl) rfl) (in_s13 (List.mem_of_getElem? (i := 10) rfl)) (by decide +kernel) (by decide +kernel) (by decide +kernel) (x_dk dl_166_0_ok 16 rfl)))))))))
  (x_Tok2
  (x_Tok2
  (x_Tok2
  (x_Tok2
  (x_Lok (x_st (I := xI) (xr_goto (off := 31) (tg := 62) (x_dk dl_166_0_ok 17 rfl) (by decide))))
  (x_Lok (x_st (I := xI) (xr_iload_n (i := 2) (x_dk dl_166_0_ok 18 rfl)))))
  (x_Tok2
  (x_Lok (x_st (I := xI) (xr_iconst (n := 1) (z := 1) (v := 1) (x_dk dl_166_0_ok 19 rfl) (by decide) (by decide))))
  (x_Lok (x_st (I := xI) (xr_icmpne (off := 16) (tg := 52) (x_dk dl_166_0_ok 20 rfl) (by decide))))))
  (x_Tok2
  (x_Tok2
  (x_Lok (x_st (I := xI) (xr_aload_n (i := 0) (x_dk dl_166_0_ok 21 rfl))))
  (x_Lok (x_st (I := xI) (xr_getf (ci := 12) (k := 0) (ix := 8) (N := 119) (C := RX12) (T := TX12) rfl in_X12 (by decide) (in_t9 (List.mem_of_getElem? (i := 115) rfl) rfl) (x_dk dl_166_0_ok 22 rfl)))))
  (x_Tok2
  (x_Lok (x_st (I := xI) (xr_sipush (n := 160) (z := 160) (v := 160) (x_dk dl_166_0_ok 23 rfl) (by decide) (by decide))))
  (x_Tok2
  (x_Lok (x_st (I := xI) (xr_iload_n (i := 1) (x_dk dl_166_0_ok 24 rfl))))
  (x_Lok (x_st (I := xI) (xr_iadd (x_dk dl_166_0_ok 25 rfl))))))))
  (x_Tok2
  (x_Tok2
  (x_Tok2
  (x_Lok (x_st (I := xI) (xr_iaload (x_dk dl_166_0_ok 26 rfl))))
  (x_Lok (x_st (I := xI) (xr_goto (off := 13) (tg := 62) (x_dk dl_166_0_ok 27 rfl) (by decide)))))
  (x_Tok2
  (x_Lok (x_st (I := xI) (xr_aload_n (i := 0) (x_dk dl_166_0_ok 28 rfl))))
  (x_Lok (x_st (I := xI) (xr_getf (ci := 12) (k := 0) (ix := 8) (N := 119) (C := RX12) (T := TX12) rfl in_X12 (by decide) (in_t9 (List.mem_of_getElem? (i := 115) rfl) rfl) (x_dk dl_166_0_ok 29 rfl))))))
  (x_Tok2
  (x_Tok2
  (x_Lok (x_st (I := xI) (xr_sipush (n := 352) (z := 352) (v := 352) (x_dk dl_166_0_ok 30 rfl) (by decide) (by decide))))
  (x_Lok (x_st (I := xI) (xr_iload_n (i := 1) (x_dk dl_166_0_ok 31 rfl)))))
  (x_Tok2
  (x_Lok (x_st (I := xI) (xr_iadd (x_dk dl_166_0_ok 32 rfl))))
  (x_Tok2
  (x_Lok (x_st (I := xI) (xr_iaload (x_dk dl_166_0_ok 33 rfl))))
  (x_Lok (x_rt (I := xI) (k := 1) ⟨(x_dk dl_166_0_ok 34 rfl), rfl⟩))))))))
def tb_166 : Nat → xE := tb_166_0
theorem tb_166_ok (K : xKx) (hK : x_KP K) : ∀ pc, x_EOq cls K xI m_166 pc (tb_166 pc) := tb_166_0_ok K hK
def dl_167_0 : List (Nat × Instr × Nat) := [(0, .iload_n 1, 1), (1, .i2l, 1), (2, .lconst 0, 1), (3, .ldc2_w 367, 3), (6, .invokestatic 301, 3), (9, .ifCond .eq 16, 3), (12, .aload_n 0, 1), (13, .getfield 8, 3), (16, .sipush 20868, 3), (19, .iload_n 1, 1), (20, .iadd, 1), (21, .iaload, 1), (22, .goto 4, 3), (25, .iconst (-1), 1), (26, .ireturn, 1)]
set_option maxRecDepth 20000 in
theorem dl_167_0_ok : dl_167_0.all (fun q => decide (decode prog_14_method_181_code q.1 = .ok (q.2.1, q.2.2))) = true := by decide +kernel
def tb_167_0 : Nat → xE := (x_T 12 (x_T 2 (x_T 0 (x_L 0 (0, xi_load 1 0 1, 0, 0)) (x_T 1 (x_L 1 (0, xi_i2l 2, 0, 0)) (x_L 2 (0, xi_push (4, 0, 0) 3, 0, 0)))) (x_T 6 (x_T 3 (x_L 3 (0, xi_push (4, 7, 7) 6, 0, 0)) (x_L 6 (2, x_nof, 103, 3))) (x_T 9 (x_L 9 (0, xi_if1 0 25 12, 0, 0)) (x_L 12 (0, xi_load 0 2 13, 0, 0))))) (x_T 20 (x_T 16 (x_T 13 (x_L 13 (0, xi_getf 12 0 16, 0, 0)) (x_L 16 (0, xi_push (0, 20868, 20868) 19, 0, 0))) (x_T 19 (x_L 19 (0, xi_load 1 0 20, 0, 0)) (x_L 20 (0, xi_bin xF_add 21, 0, 0)))) (x_T 22 (x_T 21 (x_L 21 (0, xi_ald false 22, 0, 0)) (x_L 22 (0, xi_goto 26, 0, 0))) (x_T 25 (x_L 25 (0, xi_push (0, (-1), (-1)) 26, 0, 0)) (x_L 26 (1, x_nof, 1, 0))))))
set_option maxRecDepth 20000 in
set_option maxHeartbeats 4000000 in
theorem tb_167_0_ok (K : xKx) (hK : x_KP K) : ∀ pc, x_EOq cls K xI m_167 pc (tb_167_0 pc) :=
  (x_Tok2
  (x_Tok2
  (x_Tok2
  (x_Lok (x_st (I := xI) (xr_iload_n (i := 1) (x_dk dl_167_0_ok 0 rfl))))
  (x_Tok2
  (x_Lok (x_st (I := xI) (xr_i2l (x_dk dl_167_0_ok 1 rfl))))
  (x_Lok (x_st (I := xI) (xr_lconst (n := 0) (z := 0) (v := 0) (x_dk dl_167_0_ok 2 rfl) (by decide) (by decide))))))
  (x_Tok2
  (x_Tok2
  (x_Lok (x_st (I := xI) (xr_ldc2 (ix := 367) (z := 7) (v := 7) (x_dk dl_167_0_ok 3 rfl) (in_t11 (List.mem_of_getElem? (i := 120) rfl) rfl) (by decide))))
  (x_Lok (x_ca (I := xI) (q' := m_103) rfl (xr_callS (q' := m_103) (ix := 301) (n := 3) (in_t11 (List.mem_of_getElem? (i := 7) rfl) rfl) good_w (in_t1 (List.mem_of_getElem? (i := 14) rfl) rfl) (in_t11 (List.mem_of_getElem? (i := 5) rfl) rfl) (in_t11 (List.mem_of_getElem? (i := 6) rfl) rfl) (by decide +kernel) (by decide +kernel) (x_dk dl_167_0_ok 4 rfl)))))
  (x_Tok2
  (x_Lok (x_st (I := xI) (xr_ifeq (off := 16) (tg := 25) (x_dk dl_167_0_ok 5 rfl) (by decide))))
  (x_Lok (x_st (I := xI) (xr_aload_n (i := 0) (x_dk dl_167_0_ok 6 rfl)))))))
  (x_Tok2
  (x_Tok2
  (x_Tok2
  (x_Lok (x_st (I := xI) (xr_getf (ci := 12) (k := 0) (ix := 8) (N := 119) (C := RX12) (T := TX12) rfl in_X12 (by decide) (in_t9 (List.mem_of_getElem? (i := 115) rfl) rfl) (x_dk dl_167_0_ok 7 rfl))))
  (x_Lok (x_st (I := xI) (xr_sipush (n := 20868) (z := 20868) (v := 20868) (x_dk dl_167_0_ok 8 rfl) (by decide) (by decide)))))
  (x_Tok2
  (x_Lok (x_st (I := xI) (xr_iload_n (i := 1) (x_dk dl_167_0_ok 9 rfl))))
  (x_Lok (x_st (I := xI) (xr_iadd (x_dk dl_167_0_ok 10 rfl))))))
  (x_Tok2
  (x_Tok2
  (x_Lok (x_st (I := xI) (xr_iaload (x_dk dl_167_0_ok 11 rfl))))
  (x_Lok (x_st (I := xI) (xr_goto (off := 4) (tg := 26) (x_dk dl_167_0_ok 12 rfl) (by decide)))))
  (x_Tok2
  (x_Lok (x_st (I := xI) (xr_iconst (n := (-1)) (z := (-1)) (v := (-1)) (x_dk dl_167_0_ok 13 rfl) (by decide) (by decide))))
  (x_Lok (x_rt (I := xI) (k := 1) ⟨(x_dk dl_167_0_ok 14 rfl), rfl⟩))))))
def tb_167 : Nat → xE := tb_167_0
theorem tb_167_ok (K : xKx) (hK : x_KP K) : ∀ pc, x_EOq cls K xI m_167 pc (tb_167 pc) := tb_167_0_ok K hK
def dl_168_0 : List (Nat × Instr × Nat) := [(0, .iload_n 1, 1), (1, .i2l, 1), (2, .lconst 0, 1), (3, .aload_n 0, 1), (4, .getfield 279, 3), (7, .iconst 1, 1), (8, .isub, 1), (9, .i2l, 1), (10, .invokestatic 301, 3), (13, .ifCond .eq 15, 3), (28, .iconst (-1), 1), (29, .ireturn, 1)]
set_option maxRecDepth 20000 in
theorem dl_168_0_ok : dl_168_0.all (fun q => decide (decode prog_14_method_182_code q.1 = .ok (q.2.1, q.2.2))) = true := by decide +kernel
def tb_168_0 : Nat → xE := (x_T 7 (x_T 2 (x_T 0 (x_L 0 (0, xi_load 1 0 1, 0, 0)) (x_T 1 (x_L 1 (0, xi_i2l 2, 0, 0)) (x_L 2 (0, xi_push (4, 0, 0) 3, 0, 0)))) (x_T 3 (x_L 3 (0, xi_load 0 2 4, 0, 0)) (x_T 4 (x_L 4 (0, xi_getf 12 40 7, 0, 0)) (x_L 7 (0, xi_push (0, 1, 1) 8, 0, 0))))) (x_T 10 (x_T 8 (x_L 8 (0, xi_bin xF_sub 9, 0, 0)) (x_T 9 (x_L 9 (0, xi_i2l 10, 0, 0)) (x_L 10 (2, x_nof, 103, 3)))) (x_T 13 (x_L 13 (0, xi_if1 0 28 16, 0, 0)) (x_T 28 (x_L 28 (0, xi_push (0, (-1), (-1)) 29, 0, 0)) (x_L 29 (1, x_nof, 1, 0))))))
set_option maxRecDepth 20000 in
set_option maxHeartbeats 4000000 in
theorem tb_168_0_ok (K : xKx) (hK : x_KP K) : ∀ pc, x_EOq cls K xI m_168 pc (tb_168_0 pc) :=
  (x_Tok2
  (x_Tok2
  (x_Tok2
  (x_Lok (x_st (I := xI) (xr_iload_n (i := 1) (x_dk dl_168_0_ok 0 rfl))))
  (x_Tok2
  (x_Lok (x_st (I := xI) (xr_i2l (x_dk dl_168_0_ok 1 rfl))))
  (x_Lok (x_st (I := xI) (xr_lconst (n := 0) (z := 0) (v := 0) (x_dk dl_168_0_ok 2 rfl) (by decide) (by decide))))))
  (x_Tok2
  (x_Lok (x_st (I := xI) (xr_aload_n (i := 0) (x_dk dl_168_0_ok 3 rfl))))
  (x_Tok2
  (x_Lok (x_st (I := xI) (xr_getf (ci := 12) (k := 40) (ix := 279) (N := 119) (C := RX12) (T := TX12) rfl in_X12 (by decide) (in_t9 (List.mem_of_getElem? (i := 155) rfl) rfl) (x_dk dl_168_0_ok 4 rfl))))
  (x_Lok (x_st (I := xI) (xr_iconst (n := 1) (z := 1) (v := 1) (x_dk dl_168_0_ok 5 rfl) (by decide) (by decide)))))))
  (x_Tok2
  (x_Tok2
  (x_Lok (x_st (I := xI) (xr_isub (x_dk dl_168_0_ok 6 rfl))))
  (x_Tok2
  (x_Lok (x_st (I := xI) (xr_i2l (x_dk dl_168_0_ok 7 rfl))))
  (x_Lok (x_ca (I := xI) (q' := m_103) rfl (xr_callS (q' := m_103) (ix := 301) (n := 3) (in_t11 (List.mem_of_getElem? (i := 7) rfl) rfl) good_w (in_t1 (List.mem_of_getElem? (i := 14) rfl) rfl) (in_t11 (List.mem_of_getElem? (i := 5) rfl) rfl) (in_t11 (List.mem_of_getElem? (i := 6) rfl) rfl) (by decide +kernel) (by decide +kernel) (x_dk dl_168_0_ok 8 rfl))))))
  (x_Tok2
  (x_Lok (x_st (I := xI) (xr_ifeq (off := 15) (tg := 28) (x_dk dl_168_0_ok 9 rfl) (by decide))))
  (x_Tok2
  (x_Lok (x_st (I := xI) (xr_iconst (n := (-1)) (z := (-1)) (v := (-1)) (x_dk dl_168_0_ok 10 rfl) (by decide) (by decide))))
  (x_Lok (x_rt (I := xI) (k := 1) ⟨(x_dk dl_168_0_ok 11 rfl), rfl⟩))))))
def tb_168 : Nat → xE := tb_168_0
theorem tb_168_ok (K : xKx) (hK : x_KP K) : ∀ pc, x_EOq cls K xI m_168 pc (tb_168 pc) := tb_168_0_ok K hK
def dl_169_0 : List (Nat × Instr × Nat) := [(0, .iload_n 1, 1), (1, .i2l, 1), (2, .lconst 0, 1), (3, .iconst 3, 1), (4, .aload_n 0, 1), (5, .getfield 285, 3), (8, .iadd, 1), (9, .i2l, 1), (10, .invokestatic 301, 3), (13, .ifCond .ne 5, 3), (16, .iconst (-1), 1), (17, .ireturn, 1), (18, .iload_n 1, 1), (19, .iconst 3, 1), (20, .if_icmp .le 43, 3), (63, .aload_n 0, 1), (64, .getfield 8, 3), (67, .iload_n 1, 1), (68, .ifCond .ne 7, 3), (71, .iconst 1, 1), (72, .goto 22, 3), (75, .iload_n 1, 1), (76, .iconst 1, 1), (77, .if_icmp .ne 7, 3), (80, .iconst 2, 1), (81, .goto 13, 3), (84, .iload_n 1, 1), (85, .iconst 2, 1), (86, .if_icmp .ne 7, 3), (89, .iconst 3, 1), (90, .goto 4, 3), (93, .iconst 4, 1), (94, .iaload, 1), (95, .ireturn, 1)]
set_option maxRecDepth 20000 in
theorem dl_169_0_ok : dl_169_0.all (fun q => decide (decode prog_14_method_183_code q.1 = .ok (q.2.1, q.2.2))) = true := by decide +kernel
def tb_169_0 : Nat → xE := (x_T 64 (x_T 9 (x_T 3 (x_T 1 (x_T 0 (x_L 0 (0, xi_load 1 0 1, 0, 0)) (x_L 1 (0, xi_i2l 2, 0, 0))) (x_T 2 (x_L 2 (0, xi_push (4, 0, 0) 3, 0, 0)) (x_L 3 (0, xi_push (0, 3, 3) 4, 0, 0)))) (x_T 5 (x_T 4 (x_L 4 (0, xi_load 0 2 5, 0, 0)) (x_L 5 (0, xi_getf 12 49 8, 0, 0))) (x_T 8 (x_L 8 (0, xi_bin xF_add 9, 0, 0)) (x_L 9 (0, xi_i2l 10, 0, 0))))) (x_T 17 (x_T 13 (x_T 10 (x_L 10 (2, x_nof, 103, 3)) (x_L 13 (0, xi_if1 1 18 16, 0, 0))) (x_T 16 (x_L 16 (0, xi_push (0, (-1), (-1)) 17, 0, 0)) (x_L 17 (1, x_nof, 1, 0)))) (x_T 19 (x_T 18 (x_L 18 (0, xi_load 1 0 19, 0, 0)) (x_L 19 (0, xi_push (0, 3, 3) 20, 0, 0))) (x_T 20 (x_L 20 (0, xi_if2 5 63 23, 0, 0)) (x_T 63 (x_L 63 (0, xi_load 0 2 64, 0, 0)) (x_L 64 (0, xi_getf 12 0 67, 0, 0))))))) (x_T 80 (x_T 72 (x_T 68 (x_T 67 (x_L 67 (0, xi_load 1 0 68, 0, 0)) (x_L 68 (0, xi_if1 1 75 71, 0, 0))) (x_T 71 (x_L 71 (0, xi_push (0, 1, 1) 72, 0, 0)) (x_L 72 (0, xi_goto 94, 0, 0)))) (x_T 76 (x_T 75 (x_L 75 (0, xi_load 1 0 76, 0, 0)) (x_L 76 (0, xi_push (0, 1, 1) 77, 0, 0))) (x_T 77 (x_L 77 (0, xi_if2 1 84 80, 0, 0)) (x_L 80 (0, xi_push (0, 2, 2) 81, 0, 0))))) (x_T 86 (x_T 84 (x_T 81 (x_L 81 (0, xi_goto 94, 0, 0)) (x_L 84 (0, xi_load 1 0 85, 0, 0))) (x_T 85 (x_L 85 (0, xi_push (0, 2, 2) 86, 0, 0)) (x_L 86 (0, xi_if2 1 93 89, 0, 0)))) (x_T 90 (x_T 89 (x_L 89 (0, xi_push (0, 3, 3) 90, 0, 0)) (x_L 90 (0, xi_goto 94, 0, 0))) (x_T 93 (x_L 93 (0, xi_push (0, 4, 4) 94, 0, 0)) (x_T 94 (x_L 94 (0, xi_ald false 95, 0, 0)) (x_L 95 (1, x_nof, 1, 0))))))))
set_option maxRecDepth 20000 in
set_option maxHeartbeats 4000000 in
theorem tb_169_0_ok (K : xKx) (hK : x_KP K) : ∀ pc, x_EOq cls K xI m_169 pc (tb_169_0 pc) :=
  (x_Tok2
  (x_Tok2
  (x_Tok2
  (x_Tok2
  (x_Tok2
  (x_Lok (x_st (I := xI) (xr_iload_n (i := 1) (x_dk dl_169_0_ok 0 rfl))))
  (x_Lok (x_st (I := xI) (xr_i2l (x_dk dl_169_0_ok 1 rfl)))))
  (x_Tok2
  (x_Lok (x_st (I := xI) (xr_lconst (n := 0) (z := 0) (v := 0) (x_dk dl_169_0_ok 2 rfl) (by decide) (by decide))))
  (x_Lok (x_st (I := xI) (xr_iconst (n := 3) (z := 3) (v := 3) (x_dk dl_169_0_ok 3 rfl) (by decide) (by decide))))))
  (x_Tok2
  (x_Tok2
  (x_Lok (x_st (I := xI) (xr_aload_n (i := 0) (x_dk dl_169_0_ok 4 rfl))))
  (x_Lok (x_st (I := xI) (xr_getf (ci := 12) (k := 49) (ix := 285) (N := 119) (C := RX12) (T := TX12) rfl in_X12 (by decide) (in_t9 (List.mem_of_getElem? (i := 164) rfl) rfl) (x_dk dl_169_0_ok 5 rfl)))))
  (x_Tok2
  (x_Lok (x_st (I := xI) (xr_iadd (x_dk dl_169_0_ok 6 rfl))))
  (x_Lok (x_st (I := xI) (xr_i2l (x_dk dl_169_0_ok 7 rfl)))))))
  (x_Tok2
  (x_Tok2
  (x_Tok2
  (x_Lok (x_ca (I := xI) (q' := m_103) rfl (xr_callS (q' := m_103) (ix := 301) (n := 3) (in_t11 (List.mem_of_getElem? (i := 7) rfl) rfl) good_w (in_t1 (List.mem_of_getElem? (i := 14) rfl) rfl) (in_t11 (List.mem_of_getElem? (i := 5) rfl) rfl) (in_t11 (List.mem_of_getElem? (i := 6) rfl) rfl) (by decide +kernel) (by decide +kernel) (x_dk dl_169_0_ok 8 rfl))))
  (x_Lok (x_st (I := xI) (xr_ifne (off := 5) (tg := 18) (x_dk dl_169_0_ok 9 rfl) (by decide)))))
  (x_Tok2
  (x_Lok (x_st (I := xI) (xr_iconst (n := (-1)) (z := (-1)) (v := (-1)) (x_dk dl_169_0_ok 10 rfl) (by decide) (by decide))))
  (x_Lok (x_rt (I := xI) (k := 1) ⟨(x_dk dl_169_0_ok 11 rfl), rfl⟩))))
  (x_Tok2
  (x_Tok2
  (x_Lok (x_st (I := xI) (xr_iload_n (i := 1) (x_dk dl_169_0_ok 12 rfl))))
  (x_Lok (x_st (I := xI) (xr_iconst (n := 3) (z := 3) (v := 3) (x_dk dl_169_0_ok 13 rfl) (by decide) (by decide)))))
  (x_Tok2
  (x_Lok (x_st (I := xI) (xr_icmple (off := 43) (tg := 63) (x_dk dl_169_0_ok 14 rfl) (by decide))))
  (x_Tok2
  (x_Lok (x_st (I := xI) (xr_aload_n (i := 0) (x_dk dl_169_0_ok 15 rfl))))
  (x_Lok (x_st (I := xI) (xr_getf (ci := 12) (k := 0) (ix := 8) (N := 119) (C := RX12) (T := TX12) rfl in_X12 (by decide) (in_t9 (List.mem_of_getElem? (i := 115) rfl) rfl) (x_dk dl_169_0_ok 16 rfl)))))))))
  (x_Tok2
  (x_Tok2
  (x_Tok2
  (x_Tok2
  (x_Lok (x_st (I := xI) (xr_iload_n (i := 1) (x_dk dl_169_0_ok 17 rfl))))
  (x_Lok (x_st (I := xI) (xr_ifne (off := 7) (tg := 75) (x_dk dl_169_0_ok 18 rfl) (by decide)))))
  (x_Tok2
  (x_Lok (x_st (I := xI) (xr_iconst (n := 1) (z := 1) (v := 1) (x_dk dl_169_0_ok 19 rfl) (by decide) (by decide))))
  (x_Lok (x_st (I := xI) (xr_goto (off := 22) (tg := 94) (x_dk dl_169_0_ok 20 rfl) (by decide))))))
  (x_Tok2
  (x_Tok2
  (x_Lok (x_st (I := xI) (xr_iload_n (i := 1) (x_dk dl_169_0_ok 21 rfl))))
  (x_Lok (x_st (I := xI) (xr_iconst (n := 1) (z := 1) (v := 1) (x_dk dl_169_0_ok 22 rfl) (by decide) (by decide)))))
  (x_Tok2
  (x_Lok (x_st (I := xI) (xr_icmpne (off := 7) (tg := 84) (x_dk dl_169_0_ok 23 rfl) (by decide))))
  (x_Lok (x_st (I := xI) (xr_iconst (n := 2) (z := 2) (v := 2) (x_dk dl_169_0_ok 24 rfl) (by decide) (by decide)))))))
  (x_Tok2
  (x_Tok2
  (x_Tok2
  (x_Lok (x_st (I := xI) (xr_goto (off := 13) (tg := 94) (x_dk dl_169_0_ok 25 rfl) (by decide))))
  (x_Lok (x_st (I := xI) (xr_iload_n (i := 1) (x_dk dl_169_0_ok 26 rfl)))))
  (x_Tok2
  (x_Lok (x_st (I := xI) (xr_iconst (n := 2) (z := 2) (v := 2) (x_dk dl_169_0_ok 27 rfl) (by decide) (by decide))))
  (x_Lok (x_st (I := xI) (xr_icmpne (off := 7) (tg := 93) (x_dk dl_169_0_ok 28 rfl) (by decide))))))
  (x_Tok2
  (x_Tok2
  (x_Lok (x_st (I := xI) (xr_iconst (n := 3) (z := 3) (v := 3) (x_dk dl_169_0_ok 29 rfl) (by decide) (by decide))))
  (x_Lok (x_st (I := xI) (xr_goto (off := 4) (tg := 94) (x_dk dl_169_0_ok 30 rfl) (by decide)))))
  (x_Tok2
  (x_Lok (x_st (I := xI) (xr_iconst (n := 4) (z := 4) (v := 4) (x_dk dl_169_0_ok 31 rfl) (by decide) (by decide))))
  (x_Tok2
  (x_Lok (x_st (I := xI) (xr_iaload (x_dk dl_169_0_ok 32 rfl))))
  (x_Lok (x_rt (I := xI) (k := 1) ⟨(x_dk dl_169_0_ok 33 rfl), rfl⟩))))))))
def tb_169 : Nat → xE := tb_169_0
theorem tb_169_ok (K : xKx) (hK : x_KP K) : ∀ pc, x_EOq cls K xI m_169 pc (tb_169 pc) := tb_169_0_ok K hK
def dl_170_0 : List (Nat × Instr × Nat) := [(0, .aload_n 0, 1), (1, .getfield 8, 3), (4, .iconst 5, 1), (5, .iaload, 1), (6, .ireturn, 1)]
set_option maxRecDepth 20000 in
theorem dl_170_0_ok : dl_170_0.all (fun q => decide (decode prog_14_method_184_code q.1 = .ok (q.2.1, q.2.2))) = true := by decide +kernel
def tb_170_0 : Nat → xE := (x_T 1 (x_T 0 (x_L 0 (0, xi_load 0 2 1, 0, 0)) (x_L 1 (0, xi_getf 12 0 4, 0, 0))) (x_T 4 (x_L 4 (0, xi_push (0, 5, 5) 5, 0, 0)) (x_T 5 (x_L 5 (0, xi_ald false 6, 0, 0)) (x_L 6 (1, x_nof, 1, 0)))))
set_option maxRecDepth 20000 in
set_option maxHeartbeats 4000000 in
theorem tb_170_0_ok (K : xKx) (hK : x_KP K) : ∀ pc, x_EOq cls K xI m_170 pc (tb_170_0 pc) :=
  (x_Tok2
  (x_Tok2
  (x_Lok (x_st (I := xI) (xr_aload_n (i := 0) (x_dk dl_170_0_ok 0 rfl))))
  (x_Lok (x_st (I := xI) (xr_getf (ci := 12) (k := 0) (ix := 8) (N := 119) (C := RX12) (T := TX12) rfl in_X12 (by decide) (in_t9 (List.mem_of_getElem? (i := 115) rfl) rfl) (x_dk dl_170_0_ok 1 rfl)))))
  (x_Tok2
  (x_Lok (x_st (I := xI) (xr_iconst (n := 5) (z := 5) (v := 5) (x_dk dl_170_0_ok 2 rfl) (by decide) (by decide))))
  (x_Tok2
  (x_Lok (x_st (I := xI) (xr_iaload (x_dk dl_170_0_ok 3 rfl))))
  (x_Lok (x_rt (I := xI) (k := 1) ⟨(x_dk dl_170_0_ok 4 rfl), rfl⟩)))))
def tb_170 : Nat → xE := tb_170_0
theorem tb_170_ok (K : xKx) (hK : x_KP K) : ∀ pc, x_EOq cls K xI m_170 pc (tb_170 pc) := tb_170_0_ok K hK
def dl_171_0 : List (Nat × Instr × Nat) := [(0, .iload_n 1, 1), (1, .i2l, 1), (2, .lconst 0, 1), (3, .aload_n 0, 1), (4, .getfield 8, 3), (7, .iconst 5, 1), (8, .iaload, 1), (9, .sipush 2000, 3), (12, .if_icmp .ge 12, 3), (15, .aload_n 0, 1), (16, .getfield 8, 3), (19, .iconst 5, 1), (20, .iaload, 1), (21, .goto 6, 3), (27, .iconst 1, 1), (28, .isub, 1), (29, .i2l, 1), (30, .invokestatic 301, 3), (33, .ifCond .eq 32, 3), (65, .iconst (-1), 1), (66, .ireturn, 1)]
set_option maxRecDepth 20000 in
theorem dl_171_0_ok : dl_171_0.all (fun q => decide (decode prog_14_method_185_code q.1 = .ok (q.2.1, q.2.2))) = true := by decide +kernel
def tb_171_0 : Nat → xE := (x_T 15 (x_T 4 (x_T 1 (x_T 0 (x_L 0 (0, xi_load 1 0 1, 0, 0)) (x_L 1 (0, xi_i2l 2, 0, 0))) (x_T 2 (x_L 2 (0, xi_push (4, 0, 0) 3, 0, 0)) (x_T 3 (x_L 3 (0, xi_load 0 2 4, 0, 0)) (x_L 4 (0, xi_getf 12 0 7, 0, 0))))) (x_T 8 (x_T 7 (x_L 7 (0, xi_push (0, 5, 5) 8, 0, 0)) (x_L 8 (0, xi_ald false 9, 0, 0))) (x_T 9 (x_L 9 (0, xi_push (0, 2000, 2000) 12, 0, 0)) (x_T 12 (x_L 12 (0, xi_if2 3 24 15, 0, 0)) (x_L 15 (0, xi_load 0 2 16, 0, 0)))))) (x_T 27 (x_T 19 (x_T 16 (x_L 16 (0, xi_getf 12 0 19, 0, 0)) (x_L 19 (0, xi_push (0, 5, 5) 20, 0, 0))) (x_T 20 (x_L 20 (0, xi_ald false 21, 0, 0)) (x_T 21 (x_L 21 (0, xi_goto 27, 0, 0)) (x_L 27 (0, xi_push (0, 1, 1) 28, 0, 0))))) (x_T 30 (x_T 28 (x_L 28 (0, xi_bin xF_sub 29, 0, 0)) (x_T 29 (x_L 29 (0, xi_i2l 30, 0, 0)) (x_L 30 (2, x_nof, 103, 3)))) (x_T 33 (x_L 33 (0, xi_if1 0 65 36, 0, 0)) (x_T 65 (x_L 65 (0, xi_push (0, (-1), (-1)) 66, 0, 0)) (x_L 66 (1, x_nof, 1, 0)))))))
set_option maxRecDepth 20000 in
set_option maxHeartbeats 4000000 in
theorem tb_171_0_ok (K : xKx) (hK : x_KP K) : ∀ pc, x_EOq cls K xI m_171 pc (tb_171_0 pc) :=
  (x_Tok2
  (x_Tok2
  (x_Tok2
  (x_Tok2
  (x_Lok (x_st (I := xI) (xr_iload_n (i := 1) (x_dk dl_171_0_ok 0 rfl))))
  (x_Lok (x_st (I := xI) (xr_i2l (x_dk dl_171_0_ok 1 rfl)))))
  (x_Tok2
  (x_Lok (x_st (I := xI) (xr_lconst (n := 0) (z := 0) (v := 0) (x_dk dl_171_0_ok 2 rfl) (by decide) (by decide))))
  (x_Tok2
  (x_Lok (x_st (I := xI) (xr_aload_n (i := 0) (x_dk dl_171_0_ok 3 rfl))))
  (x_Lok (x_st (I := xI) (xr_getf (ci := 12) (k := 0) (ix := 8) (N := 119) (C := RX12) (T := TX12) rfl in_X12 (by decide) (in_t9 (List.mem_of_getElem? (i := 115) rfl) rfl) (x_dk dl_171_0_ok 4 rfl)))))))
  (x_Tok2
  (x_Tok2
  (x_Lok (x_st (I := xI) (xr_iconst (n := 5) (z := 5) (v := 5) (x_dk dl_171_0_ok 5 rfl) (by decide) (by decide))))
  (x_Lok (x_st (I := xI) (xr_iaload (x_dk dl_171_0_ok 6 rfl)))))
  (x_Tok2
  (x_Lok (x_st (I := xI) (xr_sipush (n := 2000) (z := 2000) (v := 2000) (x_dk dl_171_0_ok 7 rfl) (by decide) (by decide))))
  (x_Tok2
  (x_Lok (x_st (I := xI) (xr_icmpge (off := 12) (tg := 24) (x_dk dl_171_0_ok 8 rfl) (by decide))))
  (x_Lok (x_st (I := xI) (xr_aload_n (i := 0) (x_dk dl_171_0_ok 9 rfl))))))))
  (x_Tok2
  (x_Tok2
  (x_Tok2
  (x_Lok (x_st (I := xI) (xr_getf (ci := 12) (k := 0) (ix := 8) (N := 119) (C := RX12) (T := TX12) rfl in_X12 (by decide) (in_t9 (List.mem_of_getElem? (i := 115) rfl) rfl) (x_dk dl_171_0_ok 10 rfl))))
  (x_Lok (x_st (I := xI) (xr_iconst (n := 5) (z := 5) (v := 5) (x_dk dl_171_0_ok 11 rfl) (by decide) (by decide)))))
  (x_Tok2
  (x_Lok (x_st (I := xI) (xr_iaload (x_dk dl_171_0_ok 12 rfl))))
  (x_Tok2
  (x_Lok (x_st (I := xI) (xr_goto (off := 6) (tg := 27) (x_dk dl_171_0_ok 13 rfl) (by decide))))
  (x_Lok (x_st (I := xI) (xr_iconst (n := 1) (z := 1) (v := 1) (x_dk dl_171_0_ok 14 rfl) (by decide) (by decide)))))))
  (x_Tok2
  (x_Tok2
  (x_Lok (x_st (I := xI) (xr_isub (x_dk dl_171_0_ok 15 rfl))))
  (x_Tok2
  (x_Lok (x_st (I := xI) (xr_i2l (x_dk dl_171_0_ok 16 rfl))))
  (x_Lok (x_ca (I := xI) (q' := m_103) rfl (xr_callS (q' := m_103) (ix := 301) (n := 3) (in_t11 (List.mem_of_getElem? (i := 7) rfl) rfl) good_w (in_t1 (List.mem_of_getElem? (i := 14) rfl) rfl) (in_t11 (List.mem_of_getElem? (i := 5) rfl) rfl) (in_t11 (List.mem_of_getElem? (i := 6) rfl) rfl) (by decide +kernel) (by decide +kernel) (x_dk dl_171_0_ok 17 rfl))))))
  (x_Tok2
  (x_Lok (x_st (I := xI) (xr_ifeq (off := 32) (tg := 65) (x_dk dl_171_0_ok 18 rfl) (by decide))))
  (x_Tok2
  (x_Lok (x_st (I := xI) (xr_iconst (n := (-1)) (z := (-1)) (v := (-1)) (x_dk dl_171_0_ok 19 rfl) (by decide) (by decide))))
  (x_Lok (x_rt (I := xI) (k := 1) ⟨(x_dk dl_171_0_ok 20 rfl), rfl⟩)))))))
def tb_171 : Nat → xE := tb_171_0
theorem tb_171_ok (K : xKx) (hK : x_KP K) : ∀ pc, x_EOq cls K xI m_171 pc (tb_171 pc) := tb_171_0_ok K hK
def dl_172_0 : List (Nat × Instr × Nat) := [(0, .iload_n 1, 1), (1, .tableswitch 104 0 8 #[51, 56, 61, 66, 71, 76, 81, 86, 91], 51), (52, .aload_n 0, 1), (53, .getfield 269, 3), (56, .ireturn, 1), (57, .aload_n 0, 1), (58, .getfield 273, 3), (61, .ireturn, 1), (62, .aload_n 0, 1), (63, .getfield 276, 3), (66, .ireturn, 1), (67, .aload_n 0, 1), (68, .getfield 279, 3), (71, .ireturn, 1), (72, .aload_n 0, 1), (73, .getfield 282, 3), (76, .ireturn, 1), (77, .aload_n 0, 1), (78, .getfield 285, 3), (81, .ireturn, 1), (82, .aload_n 0, 1), (83, .getfield 288, 3), (86, .ireturn, 1), (87, .aload_n 0, 1), (88, .getfield 317, 3), (91, .ireturn, 1), (92, .aload_n 0, 1), (93, .getfield 265, 3), (96, .ifCond .eq 7, 3), (103, .iconst 0, 1), (104, .ireturn, 1), (105, .iconst (-1), 1), (106, .ireturn, 1)]
set_option maxRecDepth 20000 in
theorem dl_172_0_ok : dl_172_0.all (fun q => decide (decode prog_14_method_186_code q.1 = .ok (q.2.1, q.2.2))) = true := by decide +kernel
def tb_172_0 : Nat → xE := (x_T 73 (x_T 61 (x_T 53 (x_T 1 (x_T 0 (x_L 0 (0, xi_load 1 0 1, 0, 0)) (x_L 1 (0, xi_sw [((-2147483648), (-1), 105), (0, 0, 52), (1, 1, 57), (2, 2, 62), (3, 3, 67), (4, 4, 72), (5, 5, 77), (6, 6, 82), (7, 7, 87), (8, 8, 92), (9, 2147483647, 105)], 0, 0))) (x_T 52 (x_L 52 (0, xi_load 0 2 53, 0, 0)) (x_L 53 (0, xi_getf 12 10 56, 0, 0)))) (x_T 57 (x_T 56 (x_L 56 (1, x_nof, 1, 0)) (x_L 57 (0, xi_load 0 2 58, 0, 0))) (x_T 58 (x_L 58 (0, xi_getf 12 23 61, 0, 0)) (x_L 61 (1, x_nof, 1, 0))))) (x_T 67 (x_T 63 (x_T 62 (x_L 62 (0, xi_load 0 2 63, 0, 0)) (x_L 63 (0, xi_getf 12 30 66, 0, 0))) (x_T 66 (x_L 66 (1, x_nof, 1, 0)) (x_L 67 (0, xi_load 0 2 68, 0, 0)))) (x_T 71 (x_T 68 (x_L 68 (0, xi_getf 12 40 71, 0, 0)) (x_L 71 (1, x_nof, 1, 0))) (x_T 72 (x_L 72 (0, xi_load 0 2 73, 0, 0)) (x_L 73 (0, xi_getf 12 42 76, 0, 0)))))) (x_T 87 (x_T 81 (x_T 77 (x_T 76 (x_L 76 (1, x_nof, 1, 0)) (x_L 77 (0, xi_load 0 2 78, 0, 0))) (x_T 78 (x_L 78 (0, xi_getf 12 49 81, 0, 0)) (x_L 81 (1, x_nof, 1, 0)))) (x_T 83 (x_T 82 (x_L 82 (0, xi_load 0 2 83, 0, 0)) (x_L 83 (0, xi_getf 12 5 86, 0, 0))) (x_T 86 (x_L 86 (1, x_nof, 1, 0)) (x_L 87 (0, xi_load 0 2 88, 0, 0))))) (x_T 93 (x_T 91 (x_T 88 (x_L 88 (0, xi_getf 12 9 91, 0, 0)) (x_L 91 (1, x_nof, 1, 0))) (x_T 92 (x_L 92 (0, xi_load 0 2 93, 0, 0)) (x_L 93 (0, xi_getf 12 3 96, 0, 0)))) (x_T 103 (x_T 96 (x_L 96 (0, xi_if1 0 103 99, 0, 0)) (x_L 103 (0, xi_push (0, 0, 0) 104, 0, 0))) (x_T 104 (x_L 104 (1, x_nof, 1, 0)) (x_T 105 (x_L 105 (0, xi_push (0, (-1), (-1)) 106, 0, 0)) (x_L 106 (1, x_nof, 1, 0))))))))
set_option maxRecDepth 20000 in
set_option maxHeartbeats 4000000 in
theorem tb_172_0_ok (K : xKx) (hK : x_KP K) : ∀ pc, x_EOq cls K xI m_172 pc (tb_172_0 pc) :=
  (x_Tok2
  (x_Tok2
  (x_Tok2
  (x_Tok2
  (x_Tok2
  (x_Lok (x_st (I := xI) (xr_iload_n (i := 1) (x_dk dl_172_0_ok 0 rfl))))
  (x_Lok (x_st (I := xI) (xr_tswB (dflt := 104) (lo := 0) (hi := 8) (offs := #[51, 56, 61, 66, 71, 76, 81, 86, 91]) (len := 51) (n := 9) (x_dk dl_172_0_ok 1 rfl) (by decide) (by decide +kernel)))))
  (x_Tok2
  (x_Lok (x_st (I := xI) (xr_aload_n (i := 0) (x_dk dl_172_0_ok 2 rfl))))
  (x_Lok (x_st (I := xI) (xr_getf (ci := 12) (k := 10) (ix := 269) (N := 119) (C := RX12) (T := TX12) rfl in_X12 (by decide) (in_t9 (List.mem_of_getElem? (i := 125) rfl) rfl) (x_dk dl_172_0_ok 3 rfl))))))
  (x_Tok2
  (x_Tok2
  (x_Lok (x_rt (I := xI) (k := 1) ⟨(x_dk dl_172_0_ok 4 rfl), rfl⟩))
  (x_Lok (x_st (I := xI) (xr_aload_n (i := 0) (x_dk dl_172_0_ok 5 rfl)))))
  (x_Tok2
  (x_Lok (x_st (I := xI) (xr_getf (ci := 12) (k := 23) (ix := 273) (N := 119) (C := RX12) (T := TX12) rfl in_X12 (by decide) (in_t9 (List.mem_of_getElem? (i := 138) rfl) rfl) (x_dk dl_172_0_ok 6 rfl))))
  (x_Lok (x_rt (I := xI) (k := 1) ⟨(x_dk dl_172_0_ok 7 rfl), rfl⟩)))))
  (x_Tok2
  (x_Tok2
  (x_Tok2
  (x_Lok (x_st (I := xI) (xr_aload_n (i := 0) (x_dk dl_172_0_ok 8 rfl))))
  (x_Lok (x_st (I := xI) (xr_getf (ci := 12) (k := 30) (ix := 276) (N := 119) (C := RX12) (T := TX12) rfl in_X12 (by decide) (in_t9 (List.mem_of_getElem? (i := 145) rfl) rfl) (x_dk dl_172_0_ok 9 rfl)))))
  (x_Tok2
  (x_Lok (x_rt (I := xI) (k := 1) ⟨(x_dk dl_172_0_ok 10 rfl), rfl⟩))
  (x_Lok (x_st (I := xI) (xr_aload_n (i := 0) (x_dk dl_172_0_ok 11 rfl))))))
  (x_Tok2
  (x_Tok2
  (x_Lok (x_st (I := xI) (xr_getf (ci := 12) (k := 40) (ix := 279) (N := 119) (C := RX12) (T := TX12) rfl in_X12 (by decide) (in_t9 (List.mem_of_getElem? (i := 155) rfl) rfl) (x_dk dl_172_0_ok 12 rfl))))
  (x_Lok (x_rt (I := xI) (k := 1) ⟨(x_dk dl_172_0_ok 13 rfl), rfl⟩)))
  (x_Tok2
  (x_Lok (x_st (I := xI) (xr_aload_n (i := 0) (x_dk dl_172_0_ok 14 rfl))))
  (x_Lok (x_st (I := xI) (xr_getf (ci := 12) (k := 42) (ix := 282) (N := 119) (C := RX12) (T := TX12) rfl in_X12 (by decide) (in_t9 (List.mem_of_getElem? (i := 157) rfl) rfl) (x_dk dl_172_0_ok 15 rfl))))))))
  (x_Tok2
  (x_Tok2
  (x_Tok2
  (x_Tok2
  (x_Lok (x_rt (I := xI) (k := 1) ⟨(x_dk dl_172_0_ok 16 rfl), rfl⟩))
  (x_Lok (x_st (I := xI) (xr_aload_n (i := 0) (x_dk dl_172_0_ok 17 rfl)))))
  (x_Tok2
  (x_Lok (x_st (I := xI) (xr_getf (ci := 12) (k := 49) (ix := 285) (N := 119) (C := RX12) (T := TX12) rfl in_X12 (by decide) (in_t9 (List.mem_of_getElem? (i := 164) rfl) rfl) (x_dk dl_172_0_ok 18 rfl))))
  (x_Lok (x_rt (I := xI) (k := 1) ⟨(x_dk dl_172_0_ok 19 rfl), rfl⟩))))
  (x_Tok2
  (x_Tok2
  (x_Lok (x_st (I := xI) (xr_aload_n (i := 0) (x_dk dl_172_0_ok 20 rfl))))
  (x_Lok (x_st (I := xI) (xr_getf (ci := 12) (k := 5) (ix := 288) (N := 119) (C := RX12) (T := TX12) rfl in_X12 (by decide) (in_t9 (List.mem_of_getElem? (i := 120) rfl) rfl) (x_dk dl_172_0_ok 21 rfl)))))
  (x_Tok2
  (x_Lok (x_rt (I := xI) (k := 1) ⟨(x_dk dl_172_0_ok 22 rfl), rfl⟩))
  (x_Lok (x_st (I := xI) (xr_aload_n (i := 0) (x_dk dl_172_0_ok 23 rfl)))))))
  (x_Tok2
  (x_Tok2
  (x_Tok2
  (x_Lok (x_st (I := xI) (xr_getf (ci := 12) (k := 9) (ix := 317) (N := 119) (C := RX12) (T := TX12) rfl in_X12 (by decide) (in_t9 (List.mem_of_getElem? (i := 124) rfl) rfl) (x_dk dl_172_0_ok 24 rfl))))
  (x_Lok (x_rt (I := xI) (k := 1) ⟨(x_dk dl_172_0_ok 25 rfl), rfl⟩)))
  (x_Tok2
  (x_Lok (x_st (I := xI) (xr_aload_n (i := 0) (x_dk dl_172_0_ok 26 rfl))))
  (x_Lok (x_st (I := xI) (xr_getf (ci := 12) (k := 3) (ix := 265) (N := 119) (C := RX12) (T := TX12) rfl in_X12 (by decide) (in_t9 (List.mem_of_getElem? (i := 118) rfl) rfl) (x_dk dl_172_0_ok 27 rfl))))))
  (x_Tok2
  (x_Tok2
  (x_Lok (x_st (I := xI) (xr_ifeq (off := 7) (tg := 103) (x_dk dl_172_0_ok 28 rfl) (by decide))))
  (x_Lok (x_st (I := xI) (xr_iconst (n := 0) (z := 0) (v := 0) (x_dk dl_172_0_ok 29 rfl) (by decide) (by decide)))))
  (x_Tok2
  (x_Lok (x_rt (I := xI) (k := 1) ⟨(x_dk dl_172_0_ok 30 rfl), rfl⟩))
  (x_Tok2
  (x_Lok (x_st (I := xI) (xr_iconst (n := (-1)) (z := (-1)) (v := (-1)) (x_dk dl_172_0_ok 31 rfl) (by decide) (by decide))))
  (x_Lok (x_rt (I := xI) (k := 1) ⟨(x_dk dl_172_0_ok 32 rfl), rfl⟩))))))))
def tb_172 : Nat → xE := tb_172_0
theorem tb_172_ok (K : xKx) (hK : x_KP K) : ∀ pc, x_EOq cls K xI m_172 pc (tb_172 pc) := tb_172_0_ok K hK
def dl_173_0 : List (Nat × Instr × Nat) := [(0, .iload_n 1, 1), (1, .i2l, 1), (2, .lconst 0, 1), (3, .ldc2_w 348, 3), (6, .invokestatic 301, 3), (9, .ifCond .eq 12, 3), (12, .aload_n 0, 1), (13, .getfield 24, 3), (16, .iload_n 1, 1), (17, .iaload, 1), (18, .goto 4, 3), (21, .iconst (-1), 1), (22, .ireturn, 1)]
set_option maxRecDepth 20000 in
theorem dl_173_0_ok : dl_173_0.all (fun q => decide (decode prog_14_method_187_code q.1 = .ok (q.2.1, q.2.2))) = true := by decide +kernel
def tb_173_0 : Nat → xE := (x_T 9 (x_T 2 (x_T 0 (x_L 0 (0, xi_load 1 0 1, 0, 0)) (x_T 1 (x_L 1 (0, xi_i2l 2, 0, 0)) (x_L 2 (0, xi_push (4, 0, 0) 3, 0, 0)))) (x_T 3 (x_L 3 (0, xi_push (4, 3, 3) 6, 0, 0)) (x_T 6 (x_L 6 (2, x_nof, 103, 3)) (x_L 9 (0, xi_if1 0 21 12, 0, 0))))) (x_T 16 (x_T 12 (x_L 12 (0, xi_load 0 2 13, 0, 0)) (x_T 13 (x_L 13 (0, xi_getf 12 7 16, 0, 0)) (x_L 16 (0, xi_load 1 0 17, 0, 0)))) (x_T 18 (x_T 17 (x_L 17 (0, xi_ald false 18, 0, 0)) (x_L 18 (0, xi_goto 22, 0, 0))) (x_T 21 (x_L 21 (0, xi_push (0, (-1), (-1)) 22, 0, 0)) (x_L 22 (1, x_nof, 1, 0))))))
set_option maxRecDepth 20000 in
set_option maxHeartbeats 4000000 in
theorem tb_173_0_ok (K : xKx) (hK : x_KP K) : ∀ pc, x_EOq cls K xI m_173 pc (tb_173_0 pc) :=
  (x_Tok2
  (x_Tok2
  (x_Tok2
  (x_Lok (x_st (I := xI) (xr_iload_n (i := 1) (x_dk dl_173_0_ok 0 rfl))))
  (x_Tok2
  (x_Lok (x_st (I := xI) (xr_i2l (x_dk dl_173_0_ok 1 rfl))))
  (x_Lok (x_st (I := xI) (xr_lconst (n := 0) (z := 0) (v := 0) (x_dk dl_173_0_ok 2 rfl) (by decide) (by decide))))))
  (x_Tok2
  (x_Lok (x_st (I := xI) (xr_ldc2 (ix := 348) (z := 3) (v := 3) (x_dk dl_173_0_ok 3 rfl) (in_t11 (List.mem_of_getElem? (i := 71) rfl) rfl) (by decide))))
  (x_Tok2
  (x_Lok (x_ca (I := xI) (q' := m_103) rfl (xr_callS (q' := m_103) (ix := 301) (n := 3) (in_t11 (List.mem_of_getElem? (i := 7) rfl) rfl) good_w (in_t1 (List.mem_of_getElem? (i := 14) rfl) rfl) (in_t11 (List.mem_of_getElem? (i := 5) rfl) rfl) (in_t11 (List.mem_of_getElem? (i := 6) rfl) rfl) (by decide +kernel) (by decide +kernel) (x_dk dl_173_0_ok 4 rfl))))
  (x_Lok (x_st (I := xI) (xr_ifeq (off := 12) (tg := 21) (x_dk dl_173_0_ok 5 rfl) (by decide)))))))
  (x_Tok2
  (x_Tok2
  (x_Lok (x_st (I := xI) (xr_aload_n (i := 0) (x_dk dl_173_0_ok 6 rfl))))
  (x_Tok2
  (x_Lok (x_st (I := xI) (xr_getf (ci := 12) (k := 7) (ix := 24) (N := 119) (C := RX12) (T := TX12) rfl in_X12 (by decide) (in_t9 (List.mem_of_getElem? (i := 122) rfl) rfl) (x_dk dl_173_0_ok 7 rfl))))
  (x_Lok (x_st (I := xI) (xr_iload_n (i := 1) (x_dk dl_173_0_ok 8 rfl))))))
  (x_Tok2
  (x_Tok2
  (x_Lok (x_st (I := xI) (xr_iaload (x_dk dl_173_0_ok 9 rfl))))
  (x_Lok (x_st (I := xI) (xr_goto (off := 4) (tg := 22) (x_dk dl_173_0_ok 10 rfl) (by decide)))))
  (x_Tok2
  (x_Lok (x_st (I := xI) (xr_iconst (n := (-1)) (z := (-1)) (v := (-1)) (x_dk dl_173_0_ok 11 rfl) (by decide) (by decide))))
  (x_Lok (x_rt (I := xI) (k := 1) ⟨(x_dk dl_173_0_ok 12 rfl), rfl⟩))))))
def tb_173 : Nat → xE := tb_173_0
theorem tb_173_ok (K : xKx) (hK : x_KP K) : ∀ pc, x_EOq cls K xI m_173 pc (tb_173 pc) := tb_173_0_ok K hK
def dl_174_0 : List (Nat × Instr × Nat) := [(0, .iconst 0, 1), (1, .istore_n 2, 1), (2, .aload_n 0, 1), (3, .arraylength, 1), (4, .istore_n 3, 1), (5, .iload_n 2, 1), (6, .iload_n 3, 1), (7, .if_icmp .ge 13, 3), (10, .aload_n 0, 1), (11, .iload_n 2, 1), (12, .iload_n 1, 1), (13, .iastore, 1), (14, .iinc 2 1, 3), (17, .goto (-12), 3), (20, .return_, 1)]
set_option maxRecDepth 20000 in
theorem dl_174_0_ok : dl_174_0.all (fun q => decide (decode prog_20_method_103_code q.1 = .ok (q.2.1, q.2.2))) = true := by decide +kernel
def tb_174_0 : Nat → xE := (x_T 6 (x_T 2 (x_T 0 (x_L 0 (0, xi_push (0, 0, 0) 1, 0, 0)) (x_T 1 (x_L 1 (0, xi_stor 2 0 2, 0, 0)) (x_L 2 (0, xi_load 0 2 3, 0, 0)))) (x_T 4 (x_T 3 (x_L 3 (0, xi_alen 4, 0, 0)) (x_L 4 (0, xi_stor 3 0 5, 0, 0))) (x_T 5 (x_L 5 (0, xi_load 2 0 6, 0, 0)) (x_L 6 (0, xi_load 3 0 7, 0, 0))))) (x_T 12 (x_T 10 (x_T 7 (x_L 7 (0, xi_if2 3 20 10, 0, 0)) (x_L 10 (0, xi_load 0 2 11, 0, 0))) (x_T 11 (x_L 11 (0, xi_load 2 0 12, 0, 0)) (x_L 12 (0, xi_load 1 0 13, 0, 0)))) (x_T 14 (x_T 13 (x_L 13 (0, xi_ast false 14, 0, 0)) (x_L 14 (0, xi_inc 2 1 17, 0, 0))) (x_T 17 (x_L 17 (0, xi_goto 5, 0, 0)) (x_L 20 (1, x_nof, 0, 0))))))
set_option maxRecDepth 20000 in
set_option maxHeartbeats 4000000 in
theorem tb_174_0_ok (K : xKx) (hK : x_KP K) : ∀ pc, x_EOq cls K xI m_174 pc (tb_174_0 pc) :=
  (x_Tok2
  (x_Tok2
  (x_Tok2
  (x_Lok (x_st (I := xI) (xr_iconst (n := 0) (z := 0) (v := 0) (x_dk dl_174_0_ok 0 rfl) (by decide) (by decide))))
  (x_Tok2
  (x_Lok (x_st (I := xI) (xr_istore_n (i := 2) (x_dk dl_174_0_ok 1 rfl) (by decide +kernel))))
  (x_Lok (x_st (I := xI) (xr_aload_n (i := 0) (x_dk dl_174_0_ok 2 rfl))))))
  (x_Tok2
  (x_Tok2
  (x_Lok (x_st (I := xI) (xr_alen (x_dk dl_174_0_ok 3 rfl))))
  (x_Lok (x_st (I := xI) (xr_istore_n (i := 3) (x_dk dl_174_0_ok 4 rfl) (by decide +kernel)))))
  (x_Tok2
  (x_Lok (x_st (I := xI) (xr_iload_n (i := 2) (x_dk dl_174_0_ok 5 rfl))))
  (x_Lok (x_st (I := xI) (xr_iload_n (i := 3) (x_dk dl_174_0_ok 6 rfl)))))))
  (x_Tok2
  (x_Tok2
  (x_Tok2
  (x_Lok (x_st (I := xI) (xr_icmpge (off := 13) (tg := 20) (x_dk dl_174_0_ok 7 rfl) (by decide))))
  (x_Lok (x_st (I := xI) (xr_aload_n (i := 0) (x_dk dl_174_0_ok 8 rfl)))))
  (x_Tok2
  (x_Lok (x_st (I := xI) (xr_iload_n (i := 2) (x_dk dl_174_0_ok 9 rfl))))
  (x_Lok (x_st (I := xI) (xr_iload_n (i := 1) (x_dk dl_174_0_ok 10 rfl))))))
  (x_Tok2
  (x_Tok2
  (x_Lok (x_st (I := xI) (xr_iastore (x_dk dl_174_0_ok 11 rfl))))
  (x_Lok (x_st (I := xI) (xr_iinc (i := 2) (n := 1) (x_dk dl_174_0_ok 12 rfl) (by decide +kernel) (by decide)))))
  (x_Tok2
  (x_Lok (x_st (I := xI) (xr_goto (off := (-12)) (tg := 5) (x_dk dl_174_0_ok 13 rfl) (by decide))))
  (x_Lok (x_rt (I := xI) (k := 0) ⟨(x_dk dl_174_0_ok 14 rfl), rfl⟩))))))
def tb_174 : Nat → xE := tb_174_0
theorem tb_174_ok (K : xKx) (hK : x_KP K) : ∀ pc, x_EOq cls K xI m_174 pc (tb_174 pc) := tb_174_0_ok K hK
end
