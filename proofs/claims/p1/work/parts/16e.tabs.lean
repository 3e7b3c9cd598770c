noncomputable section
def dl_62_0 : List (Nat × Instr × Nat) := [(0, .iload_n 1, 1), (1, .iconst 0, 1), (2, .iconst 1, 1), (3, .invokestatic 82, 3), (6, .ifCond .eq 13, 3), (9, .aload_n 0, 1), (10, .getfield 10, 3), (13, .getfield 226, 3), (16, .ifCond .ge 5, 3), (19, .iconst (-1), 1), (20, .ireturn, 1)]
set_option maxRecDepth 20000 in
theorem dl_62_0_ok : dl_62_0.all (fun q => decide (decode prog_1_method_23_code q.1 = .ok (q.2.1, q.2.2))) = true := by decide +kernel
def tb_62_0 : Nat → xE := (x_T 6 (x_T 1 (x_T 0 (x_L 0 (0, xi_load 1 0 1, 0, 0)) (x_L 1 (0, xi_push (0, 0, 0) 2, 0, 0))) (x_T 2 (x_L 2 (0, xi_push (0, 1, 1) 3, 0, 0)) (x_T 3 (x_L 3 (2, x_nof, 93, 3)) (x_L 6 (0, xi_if1 0 19 9, 0, 0))))) (x_T 13 (x_T 9 (x_L 9 (0, xi_load 0 2 10, 0, 0)) (x_T 10 (x_L 10 (0, xi_getf 11 0 13, 0, 0)) (x_L 13 (0, xi_getf 8 1 16, 0, 0)))) (x_T 16 (x_L 16 (0, xi_if1 3 21 19, 0, 0)) (x_T 19 (x_L 19 (0, xi_push (0, (-1), (-1)) 20, 0, 0)) (x_L 20 (1, x_nof, 1, 0))))))
set_option maxRecDepth 20000 in
set_option maxHeartbeats 4000000 in
theorem tb_62_0_ok (K : xKx) (hK : x_KP K) : ∀ pc, x_EOq cls K xI m_62 pc (tb_62_0 pc) :=
  (x_Tok2
  (x_Tok2
  (x_Tok2
  (x_Lok (x_st (I := xI) (xr_iload_n (i := 1) (x_dk dl_62_0_ok 0 rfl))))
  (x_Lok (x_st (I := xI) (xr_iconst (n := 0) (z := 0) (v := 0) (x_dk dl_62_0_ok 1 rfl) (by decide) (by decide)))))
  (x_Tok2
  (x_Lok (x_st (I := xI) (xr_iconst (n := 1) (z := 1) (v := 1) (x_dk dl_62_0_ok 2 rfl) (by decide) (by decide))))
  (x_Tok2
  (x_Lok (x_ca (I := xI) (q' := m_93) rfl (xr_callS (q' := m_93) (ix := 82) (n := 3) (in_t4 (List.mem_of_getElem? (i := 168) rfl) rfl) good_w (in_t1 (List.mem_of_getElem? (i := 1) rfl) rfl) (in_t4 (List.mem_of_getElem? (i := 166) rfl) rfl) (in_t4 (List.mem_of_getElem? (i := 167) rfl) rfl) (by decide +kernel) (by decide +kernel) (x_dk dl_62_0_ok 3 rfl))))
  (x_Lok (x_st (I := xI) (xr_ifeq (off := 13) (tg := 19) (x_dk dl_62_0_ok 4 rfl) (by decide)))))))
  (x_Tok2
  (x_Tok2
  (x_Lok (x_st (I := xI) (xr_aload_n (i := 0) (x_dk dl_62_0_ok 5 rfl))))
  (x_Tok2
  (x_Lok (x_st (I := xI) (xr_getf (ci := 11) (k := 0) (ix := 10) (N := 15) (C := RX11) (T := TX11) rfl in_X11 (by decide) (in_t4 (List.mem_of_getElem? (i := 108) rfl) rfl) (x_dk dl_62_0_ok 6 rfl))))
  (x_Lok (x_st (I := xI) (xr_getf (ci := 8) (k := 1) (ix := 226) (N := 17) (C := RX8) (T := TX8) rfl in_X8 (by decide) (in_t1 (List.mem_of_getElem? (i := 68) rfl) rfl) (x_dk dl_62_0_ok 7 rfl))))))
  (x_Tok2
  (x_Lok (x_st (I := xI) (xr_ifge (off := 5) (tg := 21) (x_dk dl_62_0_ok 8 rfl) (by decide))))
  (x_Tok2
  (x_Lok (x_st (I := xI) (xr_iconst (n := (-1)) (z := (-1)) (v := (-1)) (x_dk dl_62_0_ok 9 rfl) (by decide) (by decide))))
  (x_Lok (x_rt (I := xI) (k := 1) ⟨(x_dk dl_62_0_ok 10 rfl), rfl⟩))))))
def tb_62 : Nat → xE := tb_62_0
theorem tb_62_ok (K : xKx) (hK : x_KP K) : ∀ pc, x_EOq cls K xI m_62 pc (tb_62 pc) := tb_62_0_ok K hK
def dl_63_0 : List (Nat × Instr × Nat) := [(0, .aload_n 0, 1), (1, .getfield 91, 3), (4, .ifCond .eq 6, 3), (10, .aload_n 0, 1), (11, .iconst 1, 1), (12, .putfield 91, 3), (15, .aload_n 0, 1), (16, .iconst 0, 1), (17, .putfield 246, 3), (20, .aload_n 0, 1), (21, .invokevirtual 249, 3), (24, .aload_n 0, 1), (25, .getfield 94, 3), (28, .ireturn, 1)]
set_option maxRecDepth 20000 in
theorem dl_63_0_ok : dl_63_0.all (fun q => decide (decode prog_1_method_24_code q.1 = .ok (q.2.1, q.2.2))) = true := by decide +kernel
def tb_63_0 : Nat → xE := (x_T 15 (x_T 4 (x_T 0 (x_L 0 (0, xi_load 0 2 1, 0, 0)) (x_T 1 (x_L 1 (0, xi_getf 11 13 4, 0, 0)) (x_L 4 (0, xi_if1 0 10 7, 0, 0)))) (x_T 11 (x_T 10 (x_L 10 (0, xi_load 0 2 11, 0, 0)) (x_L 11 (0, xi_push (0, 1, 1) 12, 0, 0))) (x_T 12 (x_L 12 (0, xi_putf 11 13 1 15, 0, 0)) (x_L 15 (0, xi_load 0 2 16, 0, 0))))) (x_T 20 (x_T 16 (x_L 16 (0, xi_push (0, 0, 0) 17, 0, 0)) (x_T 17 (x_L 17 (0, xi_putf 11 12 0 20, 0, 0)) (x_L 20 (0, xi_load 0 2 21, 0, 0)))) (x_T 24 (x_T 21 (x_L 21 (2, x_nof, 101, 1)) (x_L 24 (0, xi_load 0 2 25, 0, 0))) (x_T 25 (x_L 25 (0, xi_getf 11 11 28, 0, 0)) (x_L 28 (1, x_nof, 1, 0))))))
set_option maxRecDepth 20000 in
set_option maxHeartbeats 4000000 in
theorem tb_63_0_ok (K : xKx) (hK : x_KP K) : ∀ pc, x_EOq cls K xI m_63 pc (tb_63_0 pc) :=
  (x_Tok2
  (x_Tok2
  (x_Tok2
  (x_Lok (x_st (I := xI) (xr_aload_n (i := 0) (x_dk dl_63_0_ok 0 rfl))))
  (x_Tok2
  (x_Lok (x_st (I := xI) (xr_getf (ci := 11) (k := 13) (ix := 91) (N := 15) (C := RX11) (T := TX11) rfl in_X11 (by decide) (in_t4 (List.mem_of_getElem? (i := 121) rfl) rfl) (x_dk dl_63_0_ok 1 rfl))))
  (x_Lok (x_st (I := xI) (xr_ifeq (off := 6) (tg := 10) (x_dk dl_63_0_ok 2 rfl) (by decide))))))
  (x_Tok2
  (x_Tok2
  (x_Lok (x_st (I := xI) (xr_aload_n (i := 0) (x_dk dl_63_0_ok 3 rfl))))
  (x_Lok (x_st (I := xI) (xr_iconst (n := 1) (z := 1) (v := 1) (x_dk dl_63_0_ok 4 rfl) (by decide) (by decide)))))
  (x_Tok2
  (x_Lok (x_st (I := xI) (xr_putf (ci := 11) (k := 13) (ix := 91) (N := 15) (fk := 1) (C := RX11) (T := TX11) (ty0 := tyX11) (ty := .boolean) rfl in_X11 tyX11_ok nmX11 (by decide) (in_t4 (List.mem_of_getElem? (i := 121) rfl) rfl) rfl rfl x_fit_bool (x_dk dl_63_0_ok 5 rfl))))
  (x_Lok (x_st (I := xI) (xr_aload_n (i := 0) (x_dk dl_63_0_ok 6 rfl)))))))
  (x_Tok2
  (x_Tok2
  (x_Lok (x_st (I := xI) (xr_iconst (n := 0) (z := 0) (v := 0) (x_dk dl_63_0_ok 7 rfl) (by decide) (by decide))))
  (x_Tok2
  (x_Lok (x_st (I := xI) (xr_putf (ci := 11) (k := 12) (ix := 246) (N := 15) (fk := 0) (C := RX11) (T := TX11) (ty0 := tyX11) (ty := .int) rfl in_X11 tyX11_ok nmX11 (by decide) (in_t4 (List.mem_of_getElem? (i := 120) rfl) rfl) rfl rfl x_fit_int (x_dk dl_63_0_ok 8 rfl))))
  (x_Lok (x_st (I := xI) (xr_aload_n (i := 0) (x_dk dl_63_0_ok 9 rfl))))))
  (x_Tok2
  (x_Tok2
  (x_Lok (x_ca (I := xI) (q' := m_101) rfl (xr_callV (q' := m_101) (ix := 249) (n := 0) (in_t4 (List.mem_of_getElem? (i := 57) rfl) rfl) good_w (in_t1 (List.mem_of_getElem? (i := 1) rfl) rfl) (in_t4 (List.mem_of_getElem? (i := 54) rfl) rfl) (in_t4 (List.mem_of_getElem? (i := 56) rfl) rfl) (in_s1 (List.mem_of_getElem? (i := 2) rfl)) (by decide +kernel) (by decide +kernel) (by decide +kernel) (x_dk dl_63_0_ok 10 rfl))))
  (x_Lok (x_st (I := xI) (xr_aload_n (i := 0) (x_dk dl_63_0_ok 11 rfl)))))
  (x_Tok2
  (x_Lok (x_st (I := xI) (xr_getf (ci := 11) (k := 11) (ix := 94) (N := 15) (C := RX11) (T := TX11) rfl in_X11 (by decide) (in_t4 (List.mem_of_getElem? (i := 119) rfl) rfl) (x_dk dl_63_0_ok 12 rfl))))
  (x_Lok (x_rt (I := xI) (k := 1) ⟨(x_dk dl_63_0_ok 13 rfl), rfl⟩))))))
def tb_63 : Nat → xE := tb_63_0
theorem tb_63_ok (K : xKx) (hK : x_KP K) : ∀ pc, x_EOq cls K xI m_63 pc (tb_63 pc) := tb_63_0_ok K hK
def dl_64_0 : List (Nat × Instr × Nat) := [(0, .aload_n 0, 1), (1, .iload_n 1, 1), (2, .invokevirtual 103, 3), (5, .ifCond .eq 25, 3), (30, .iconst (-1), 1), (31, .ireturn, 1)]
set_option maxRecDepth 20000 in
theorem dl_64_0_ok : dl_64_0.all (fun q => decide (decode prog_1_method_25_code q.1 = .ok (q.2.1, q.2.2))) = true := by decide +kernel
def tb_64_0 : Nat → xE := (x_T 2 (x_T 0 (x_L 0 (0, xi_load 0 2 1, 0, 0)) (x_T 1 (x_L 1 (0, xi_load 1 0 2, 0, 0)) (x_L 2 (2, x_nof, 97, 2)))) (x_T 5 (x_L 5 (0, xi_if1 0 30 8, 0, 0)) (x_T 30 (x_L 30 (0, xi_push (0, (-1), (-1)) 31, 0, 0)) (x_L 31 (1, x_nof, 1, 0)))))
set_option maxRecDepth 20000 in
set_option maxHeartbeats 4000000 in
theorem tb_64_0_ok (K : xKx) (hK : x_KP K) : ∀ pc, x_EOq cls K xI m_64 pc (tb_64_0 pc) :=
  (x_Tok2
  (x_Tok2
  (x_Lok (x_st (I := xI) (xr_aload_n (i := 0) (x_dk dl_64_0_ok 0 rfl))))
  (x_Tok2
  (x_Lok (x_st (I := xI) (xr_iload_n (i := 1) (x_dk dl_64_0_ok 1 rfl))))
  (x_Lok (x_ca (I := xI) (q' := m_97) rfl (xr_callV (q' := m_97) (ix := 103) (n := 1) (in_t4 (List.mem_of_getElem? (i := 184) rfl) rfl) good_w (in_t1 (List.mem_of_getElem? (i := 1) rfl) rfl) (in_t4 (List.mem_of_getElem? (i := 181) rfl) rfl) (in_t4 (List.mem_of_getElem? (i := 183) rfl) rfl) (in_s1 (List.mem_of_getElem? (i := 8) rfl)) (by decide +kernel) (by decide +kernel) (by decide +kernel) (x_dk dl_64_0_ok 2 rfl))))))
  (x_Tok2
  (x_Lok (x_st (I := xI) (xr_ifeq (off := 25) (tg := 30) (x_dk dl_64_0_ok 3 rfl) (by decide))))
  (x_Tok2
  (x_Lok (x_st (I := xI) (xr_iconst (n := (-1)) (z := (-1)) (v := (-1)) (x_dk dl_64_0_ok 4 rfl) (by decide) (by decide))))
  (x_Lok (x_rt (I := xI) (k := 1) ⟨(x_dk dl_64_0_ok 5 rfl), rfl⟩)))))
def tb_64 : Nat → xE := tb_64_0
theorem tb_64_ok (K : xKx) (hK : x_KP K) : ∀ pc, x_EOq cls K xI m_64 pc (tb_64 pc) := tb_64_0_ok K hK
def dl_65_0 : List (Nat × Instr × Nat) := [(0, .iload_n 1, 1), (1, .iconst 1, 1), (2, .sipush 1000, 3), (5, .invokestatic 82, 3), (8, .ifCond .ne 5, 3), (11, .iconst (-1), 1), (12, .ireturn, 1), (13, .aload_n 0, 1), (14, .getfield 91, 3), (17, .ifCond .ne 6, 3), (20, .bipush (-2), 2), (22, .ireturn, 1)]
set_option maxRecDepth 20000 in
theorem dl_65_0_ok : dl_65_0.all (fun q => decide (decode prog_1_method_26_code q.1 = .ok (q.2.1, q.2.2))) = true := by decide +kernel
def tb_65_0 : Nat → xE := (x_T 11 (x_T 2 (x_T 0 (x_L 0 (0, xi_load 1 0 1, 0, 0)) (x_T 1 (x_L 1 (0, xi_push (0, 1, 1) 2, 0, 0)) (x_L 2 (0, xi_push (0, 1000, 1000) 5, 0, 0)))) (x_T 5 (x_L 5 (2, x_nof, 93, 3)) (x_T 8 (x_L 8 (0, xi_if1 1 13 11, 0, 0)) (x_L 11 (0, xi_push (0, (-1), (-1)) 12, 0, 0))))) (x_T 14 (x_T 12 (x_L 12 (1, x_nof, 1, 0)) (x_T 13 (x_L 13 (0, xi_load 0 2 14, 0, 0)) (x_L 14 (0, xi_getf 11 13 17, 0, 0)))) (x_T 17 (x_L 17 (0, xi_if1 1 23 20, 0, 0)) (x_T 20 (x_L 20 (0, xi_push (0, (-2), (-2)) 22, 0, 0)) (x_L 22 (1, x_nof, 1, 0))))))
set_option maxRecDepth 20000 in
set_option maxHeartbeats 4000000 in
theorem tb_65_0_ok (K : xKx) (hK : x_KP K) : ∀ pc, x_EOq cls K xI m_65 pc (tb_65_0 pc) :=
  (x_Tok2
  (x_Tok2
  (x_Tok2
  (x_Lok (x_st (I := xI) (xr_iload_n (i := 1) (x_dk dl_65_0_ok 0 rfl))))
  (x_Tok2
  (x_Lok (x_st (I := xI) (xr_iconst (n := 1) (z := 1) (v := 1) (x_dk dl_65_0_ok 1 rfl) (by decide) (by decide))))
  (x_Lok (x_st (I := xI) (xr_sipush (n := 1000) (z := 1000) (v := 1000) (x_dk dl_65_0_ok 2 rfl) (by decide) (by decide))))))
  (x_Tok2
  (x_Lok (x_ca (I := xI) (q' := m_93) rfl (xr_callS (q' := m_93) (ix := 82) (n := 3) (in_t4 (List.mem_of_getElem? (i := 168) rfl) rfl) good_w (in_t1 (List.mem_of_getElem? (i := 1) rfl) rfl) (in_t4 (List.mem_of_getElem? (i := 166) rfl) rfl) (in_t4 (List.mem_of_getElem? (i := 167) rfl) rfl) (by decide +kernel) (by decide +kernel) (x_dk dl_65_0_ok 3 rfl))))
  (x_Tok2
  (x_Lok (x_st (I := xI) (xr_ifne (off := 5) (tg := 13) (x_dk dl_65_0_ok 4 rfl) (by decide))))
  (x_Lok (x_st (I := xI) (xr_iconst (n := (-1)) (z := (-1)) (v := (-1)) (x_dk dl_65_0_ok 5 rfl) (by decide) (by decide)))))))
  (x_Tok2
  (x_Tok2
  (x_Lok (x_rt (I := xI) (k := 1) ⟨(x_dk dl_65_0_ok 6 rfl), rfl⟩))
  (x_Tok2
  (x_Lok (x_st (I := xI) (xr_aload_n (i := 0) (x_dk dl_65_0_ok 7 rfl))))
  (x_Lok (x_st (I := xI) (xr_getf (ci := 11) (k := 13) (ix := 91) (N := 15) (C := RX11) (T := TX11) rfl in_X11 (by decide) (in_t4 (List.mem_of_getElem? (i := 121) rfl) rfl) (x_dk dl_65_0_ok 8 rfl))))))
  (x_Tok2
  (x_Lok (x_st (I := xI) (xr_ifne (off := 6) (tg := 23) (x_dk dl_65_0_ok 9 rfl) (by decide))))
  (x_Tok2
  (x_Lok (x_st (I := xI) (xr_bipush (n := (-2)) (z := (-2)) (v := (-2)) (x_dk dl_65_0_ok 10 rfl) (by decide) (by decide))))
  (x_Lok (x_rt (I := xI) (k := 1) ⟨(x_dk dl_65_0_ok 11 rfl), rfl⟩))))))
def tb_65 : Nat → xE := tb_65_0
theorem tb_65_ok (K : xKx) (hK : x_KP K) : ∀ pc, x_EOq cls K xI m_65 pc (tb_65 pc) := tb_65_0_ok K hK
def dl_66_0 : List (Nat × Instr × Nat) := [(0, .iload_n 1, 1), (1, .invokestatic 178, 3), (4, .ifCond .ne 5, 3), (7, .iconst (-1), 1), (8, .ireturn, 1), (9, .aload_n 0, 1), (10, .getfield 91, 3), (13, .ifCond .ne 6, 3), (16, .bipush (-2), 2), (18, .ireturn, 1)]
set_option maxRecDepth 20000 in
theorem dl_66_0_ok : dl_66_0.all (fun q => decide (decode prog_1_method_27_code q.1 = .ok (q.2.1, q.2.2))) = true := by decide +kernel
def tb_66_0 : Nat → xE := (x_T 8 (x_T 1 (x_T 0 (x_L 0 (0, xi_load 1 0 1, 0, 0)) (x_L 1 (2, x_nof, 96, 1))) (x_T 4 (x_L 4 (0, xi_if1 1 9 7, 0, 0)) (x_T 7 (x_L 7 (0, xi_push (0, (-1), (-1)) 8, 0, 0)) (x_L 8 (1, x_nof, 1, 0))))) (x_T 10 (x_T 9 (x_L 9 (0, xi_load 0 2 10, 0, 0)) (x_L 10 (0, xi_getf 11 13 13, 0, 0))) (x_T 13 (x_L 13 (0, xi_if1 1 19 16, 0, 0)) (x_T 16 (x_L 16 (0, xi_push (0, (-2), (-2)) 18, 0, 0)) (x_L 18 (1, x_nof, 1, 0))))))
set_option maxRecDepth 20000 in
set_option maxHeartbeats 4000000 in
theorem tb_66_0_ok (K : xKx) (hK : x_KP K) : ∀ pc, x_EOq cls K xI m_66 pc (tb_66_0 pc) :=
  (x_Tok2
  (x_Tok2
  (x_Tok2
  (x_Lok (x_st (I := xI) (xr_iload_n (i := 1) (x_dk dl_66_0_ok 0 rfl))))
  (x_Lok (x_ca (I := xI) (q' := m_96) rfl (xr_callS (q' := m_96) (ix := 178) (n := 1) (in_t5 (List.mem_of_getElem? (i := 22) rfl) rfl) good_w (in_t1 (List.mem_of_getElem? (i := 1) rfl) rfl) (in_t5 (List.mem_of_getElem? (i := 20) rfl) rfl) (in_t5 (List.mem_of_getElem? (i := 21) rfl) rfl) (by decide +kernel) (by decide +kernel) (x_dk dl_66_0_ok 1 rfl)))))
  (x_Tok2
  (x_Lok (x_st (I := xI) (xr_ifne (off := 5) (tg := 9) (x_dk dl_66_0_ok 2 rfl) (by decide))))
  (x_Tok2
  (x_Lok (x_st (I := xI) (xr_iconst (n := (-1)) (z := (-1)) (v := (-1)) (x_dk dl_66_0_ok 3 rfl) (by decide) (by decide))))
  (x_Lok (x_rt (I := xI) (k := 1) ⟨(x_dk dl_66_0_ok 4 rfl), rfl⟩)))))
  (x_Tok2
  (x_Tok2
  (x_Lok (x_st (I := xI) (xr_aload_n (i := 0) (x_dk dl_66_0_ok 5 rfl))))
  (x_Lok (x_st (I := xI) (xr_getf (ci := 11) (k := 13) (ix := 91) (N := 15) (C := RX11) (T := TX11) rfl in_X11 (by decide) (in_t4 (List.mem_of_getElem? (i := 121) rfl) rfl) (x_dk dl_66_0_ok 6 rfl)))))
  (x_Tok2
  (x_Lok (x_st (I := xI) (xr_ifne (off := 6) (tg := 19) (x_dk dl_66_0_ok 7 rfl) (by decide))))
  (x_Tok2
  (x_Lok (x_st (I := xI) (xr_bipush (n := (-2)) (z := (-2)) (v := (-2)) (x_dk dl_66_0_ok 8 rfl) (by decide) (by decide))))
  (x_Lok (x_rt (I := xI) (k := 1) ⟨(x_dk dl_66_0_ok 9 rfl), rfl⟩))))))
def tb_66 : Nat → xE := tb_66_0
theorem tb_66_ok (K : xKx) (hK : x_KP K) : ∀ pc, x_EOq cls K xI m_66 pc (tb_66 pc) := tb_66_0_ok K hK
def dl_67_0 : List (Nat × Instr × Nat) := [(0, .iload_n 1, 1), (1, .invokestatic 178, 3), (4, .ifCond .ne 5, 3), (7, .iconst (-1), 1), (8, .ireturn, 1), (9, .aload_n 0, 1), (10, .getfield 91, 3), (13, .ifCond .ne 6, 3), (16, .bipush (-2), 2), (18, .ireturn, 1)]
set_option maxRecDepth 20000 in
theorem dl_67_0_ok : dl_67_0.all (fun q => decide (decode prog_1_method_28_code q.1 = .ok (q.2.1, q.2.2))) = true := by decide +kernel
def tb_67_0 : Nat → xE := (x_T 8 (x_T 1 (x_T 0 (x_L 0 (0, xi_load 1 0 1, 0, 0)) (x_L 1 (2, x_nof, 96, 1))) (x_T 4 (x_L 4 (0, xi_if1 1 9 7, 0, 0)) (x_T 7 (x_L 7 (0, xi_push (0, (-1), (-1)) 8, 0, 0)) (x_L 8 (1, x_nof, 1, 0))))) (x_T 10 (x_T 9 (x_L 9 (0, xi_load 0 2 10, 0, 0)) (x_L 10 (0, xi_getf 11 13 13, 0, 0))) (x_T 13 (x_L 13 (0, xi_if1 1 19 16, 0, 0)) (x_T 16 (x_L 16 (0, xi_push (0, (-2), (-2)) 18, 0, 0)) (x_L 18 (1, x_nof, 1, 0))))))
set_option maxRecDepth 20000 in
set_option maxHeartbeats 4000000 in
theorem tb_67_0_ok (K : xKx) (hK : x_KP K) : ∀ pc, x_EOq cls K xI m_67 pc (tb_67_0 pc) :=
  (x_Tok2
  (x_Tok2
  (x_Tok2
  (x_Lok (x_st (I := xI) (xr_iload_n (i := 1) (x_dk dl_67_0_ok 0 rfl))))
  (x_Lok (x_ca (I := xI) (q' := m_96) rfl (xr_callS (q' := m_96) (ix := 178) (n := 1) (in_t5 (List.mem_of_getElem? (i := 22) rfl) rfl) good_w (in_t1 (List.mem_of_getElem? (i := 1) rfl) rfl) (in_t5 (List.mem_of_getElem? (i := 20) rfl) rfl) (in_t5 (List.mem_of_getElem? (i := 21) rfl) rfl) (by decide +kernel) (by decide +kernel) (x_dk dl_67_0_ok 1 rfl)))))
  (x_Tok2
  (x_Lok (x_st (I := xI) (xr_ifne (off := 5) (tg := 9) (x_dk dl_67_0_ok 2 rfl) (by decide))))
  (x_Tok2
  (x_Lok (x_st (I := xI) (xr_iconst (n := (-1)) (z := (-1)) (v := (-1)) (x_dk dl_67_0_ok 3 rfl) (by decide) (by decide))))
  (x_Lok (x_rt (I := xI) (k := 1) ⟨(x_dk dl_67_0_ok 4 rfl), rfl⟩)))))
  (x_Tok2
  (x_Tok2
  (x_Lok (x_st (I := xI) (xr_aload_n (i := 0) (x_dk dl_67_0_ok 5 rfl))))
  (x_Lok (x_st (I := xI) (xr_getf (ci := 11) (k := 13) (ix := 91) (N := 15) (C := RX11) (T := TX11) rfl in_X11 (by decide) (in_t4 (List.mem_of_getElem? (i := 121) rfl) rfl) (x_dk dl_67_0_ok 6 rfl)))))
  (x_Tok2
  (x_Lok (x_st (I := xI) (xr_ifne (off := 6) (tg := 19) (x_dk dl_67_0_ok 7 rfl) (by decide))))
  (x_Tok2
  (x_Lok (x_st (I := xI) (xr_bipush (n := (-2)) (z := (-2)) (v := (-2)) (x_dk dl_67_0_ok 8 rfl) (by decide) (by decide))))
  (x_Lok (x_rt (I := xI) (k := 1) ⟨(x_dk dl_67_0_ok 9 rfl), rfl⟩))))))
def tb_67 : Nat → xE := tb_67_0
theorem tb_67_ok (K : xKx) (hK : x_KP K) : ∀ pc, x_EOq cls K xI m_67 pc (tb_67 pc) := tb_67_0_ok K hK
def dl_68_0 : List (Nat × Instr × Nat) := [(0, .iload_n 1, 1), (1, .iconst 0, 1), (2, .aload_n 0, 1), (3, .getfield 42, 3), (6, .getfield 204, 3), (9, .iconst 1, 1), (10, .isub, 1), (11, .invokestatic 82, 3), (14, .ifCond .ne 5, 3), (17, .iconst (-1), 1), (18, .ireturn, 1)]
set_option maxRecDepth 20000 in
theorem dl_68_0_ok : dl_68_0.all (fun q => decide (decode prog_1_method_29_code q.1 = .ok (q.2.1, q.2.2))) = true := by decide +kernel
def tb_68_0 : Nat → xE := (x_T 6 (x_T 1 (x_T 0 (x_L 0 (0, xi_load 1 0 1, 0, 0)) (x_L 1 (0, xi_push (0, 0, 0) 2, 0, 0))) (x_T 2 (x_L 2 (0, xi_load 0 2 3, 0, 0)) (x_T 3 (x_L 3 (0, xi_getf 11 5 6, 0, 0)) (x_L 6 (0, xi_getf 2 2 9, 0, 0))))) (x_T 11 (x_T 9 (x_L 9 (0, xi_push (0, 1, 1) 10, 0, 0)) (x_T 10 (x_L 10 (0, xi_bin xF_sub 11, 0, 0)) (x_L 11 (2, x_nof, 93, 3)))) (x_T 14 (x_L 14 (0, xi_if1 1 19 17, 0, 0)) (x_T 17 (x_L 17 (0, xi_push (0, (-1), (-1)) 18, 0, 0)) (x_L 18 (1, x_nof, 1, 0))))))
set_option maxRecDepth 20000 in
set_option maxHeartbeats 4000000 in
theorem tb_68_0_ok (K : xKx) (hK : x_KP K) : ∀ pc, x_EOq cls K xI m_68 pc (tb_68_0 pc) :=
  (x_Tok2
  (x_Tok2
  (x_Tok2
  (x_Lok (x_st (I := xI) (xr_iload_n (i := 1) (x_dk dl_68_0_ok 0 rfl))))
  (x_Lok (x_st (I := xI) (xr_iconst (n := 0) (z := 0) (v := 0) (x_dk dl_68_0_ok 1 rfl) (by decide) (by decide)))))
  (x_Tok2
  (x_Lok (x_st (I := xI) (xr_aload_n (i := 0) (x_dk dl_68_0_ok 2 rfl))))
  (x_Tok2
  (x_Lok (x_st (I := xI) (xr_getf (ci := 11) (k := 5) (ix := 42) (N := 15) (C := RX11) (T := TX11) rfl in_X11 (by decide) (in_t4 (List.mem_of_getElem? (i := 113) rfl) rfl) (x_dk dl_68_0_ok 3 rfl))))
  (x_Lok (x_st (I := xI) (xr_getf (ci := 2) (k := 2) (ix := 204) (N := 15) (C := RX2) (T := TX2) rfl in_X2 (by decide) (in_t2 (List.mem_of_getElem? (i := 18) rfl) rfl) (x_dk dl_68_0_ok 4 rfl)))))))
  (x_Tok2
  (x_Tok2
  (x_Lok (x_st (I := xI) (xr_iconst (n := 1) (z := 1) (v := 1) (x_dk dl_68_0_ok 5 rfl) (by decide) (by decide))))
  (x_Tok2
  (x_Lok (x_st (I := xI) (xr_isub (x_dk dl_68_0_ok 6 rfl))))
  (x_Lok (x_ca (I := xI) (q' := m_93) rfl (xr_callS (q' := m_93) (ix := 82) (n := 3) (in_t4 (List.mem_of_getElem? (i := 168) rfl) rfl) good_w (in_t1 (List.mem_of_getElem? (i := 1) rfl) rfl) (in_t4 (List.mem_of_getElem? (i := 166) rfl) rfl) (in_t4 (List.mem_of_getElem? (i := 167) rfl) rfl) (by decide +kernel) (by decide +kernel) (x_dk dl_68_0_ok 7 rfl))))))
  (x_Tok2
  (x_Lok (x_st (I := xI) (xr_ifne (off := 5) (tg := 19) (x_dk dl_68_0_ok 8 rfl) (by decide))))
  (x_Tok2
  (x_Lok (x_st (I := xI) (xr_iconst (n := (-1)) (z := (-1)) (v := (-1)) (x_dk dl_68_0_ok 9 rfl) (by decide) (by decide))))
  (x_Lok (x_rt (I := xI) (k := 1) ⟨(x_dk dl_68_0_ok 10 rfl), rfl⟩))))))
def tb_68 : Nat → xE := tb_68_0
theorem tb_68_ok (K : xKx) (hK : x_KP K) : ∀ pc, x_EOq cls K xI m_68 pc (tb_68 pc) := tb_68_0_ok K hK
def dl_69_0 : List (Nat × Instr × Nat) := [(0, .iload_n 1, 1), (1, .iconst 0, 1), (2, .bipush 7, 2), (4, .invokestatic 82, 3), (7, .ifCond .ne 5, 3), (10, .iconst (-1), 1), (11, .ireturn, 1), (12, .aload_n 0, 1), (13, .getfield 91, 3), (16, .ifCond .eq 35, 3), (51, .bipush (-2), 2), (53, .ireturn, 1)]
set_option maxRecDepth 20000 in
theorem dl_69_0_ok : dl_69_0.all (fun q => decide (decode prog_1_method_30_code q.1 = .ok (q.2.1, q.2.2))) = true := by decide +kernel
def tb_69_0 : Nat → xE := (x_T 10 (x_T 2 (x_T 0 (x_L 0 (0, xi_load 1 0 1, 0, 0)) (x_T 1 (x_L 1 (0, xi_push (0, 0, 0) 2, 0, 0)) (x_L 2 (0, xi_push (0, 7, 7) 4, 0, 0)))) (x_T 4 (x_L 4 (2, x_nof, 93, 3)) (x_T 7 (x_L 7 (0, xi_if1 1 12 10, 0, 0)) (x_L 10 (0, xi_push (0, (-1), (-1)) 11, 0, 0))))) (x_T 13 (x_T 11 (x_L 11 (1, x_nof, 1, 0)) (x_T 12 (x_L 12 (0, xi_load 0 2 13, 0, 0)) (x_L 13 (0, xi_getf 11 13 16, 0, 0)))) (x_T 16 (x_L 16 (0, xi_if1 0 51 19, 0, 0)) (x_T 51 (x_L 51 (0, xi_push (0, (-2), (-2)) 53, 0, 0)) (x_L 53 (1, x_nof, 1, 0))))))
set_option maxRecDepth 20000 in
set_option maxHeartbeats 4000000 in
theorem tb_69_0_ok (K : xKx) (hK : x_KP K) : ∀ pc, x_EOq cls K xI m_69 pc (tb_69_0 pc) :=
  (x_Tok2
  (x_Tok2
  (x_Tok2
  (x_Lok (x_st (I := xI) (xr_iload_n (i := 1) (x_dk dl_69_0_ok 0 rfl))))
  (x_Tok2
  (x_Lok (x_st (I := xI) (xr_iconst (n := 0) (z := 0) (v := 0) (x_dk dl_69_0_ok 1 rfl) (by decide) (by decide))))
  (x_Lok (x_st (I := xI) (xr_bipush (n := 7) (z := 7) (v := 7) (x_dk dl_69_0_ok 2 rfl) (by decide) (by decide))))))
  (x_Tok2
  (x_Lok (x_ca (I := xI) (q' := m_93) rfl (xr_callS (q' := m_93) (ix := 82) (n := 3) (in_t4 (List.mem_of_getElem? (i := 168) rfl) rfl) good_w (in_t1 (List.mem_of_getElem? (i := 1) rfl) rfl) (in_t4 (List.mem_of_getElem? (i := 166) rfl) rfl) (in_t4 (List.mem_of_getElem? (i := 167) rfl) rfl) (by decide +kernel) (by decide +kernel) (x_dk dl_69_0_ok 3 rfl))))
  (x_Tok2
  (x_Lok (x_st (I := xI) (xr_ifne (off := 5) (tg := 12) (x_dk dl_69_0_ok 4 rfl) (by decide))))
  (x_Lok (x_st (I := xI) (xr_iconst (n := (-1)) (z := (-1)) (v := (-1)) (x_dk dl_69_0_ok 5 rfl) (by decide) (by decide)))))))
  (x_Tok2
  (x_Tok2
  (x_Lok (x_rt (I := xI) (k := 1) ⟨(x_dk dl_69_0_ok 6 rfl), rfl⟩))
  (x_Tok2
  (x_Lok (x_st (I := xI) (xr_aload_n (i := 0) (x_dk dl_69_0_ok 7 rfl))))
  (x_Lok (x_st (I := xI) (xr_getf (ci := 11) (k := 13) (ix := 91) (N := 15) (C := RX11) (T := TX11) rfl in_X11 (by decide) (in_t4 (List.mem_of_getElem? (i := 121) rfl) rfl) (x_dk dl_69_0_ok 8 rfl))))))
  (x_Tok2
  (x_Lok (x_st (I := xI) (xr_ifeq (off := 35) (tg := 51) (x_dk dl_69_0_ok 9 rfl) (by decide))))
  (x_Tok2
  (x_Lok (x_st (I := xI) (xr_bipush (n := (-2)) (z := (-2)) (v := (-2)) (x_dk dl_69_0_ok 10 rfl) (by decide) (by decide))))
  (x_Lok (x_rt (I := xI) (k := 1) ⟨(x_dk dl_69_0_ok 11 rfl), rfl⟩))))))
def tb_69 : Nat → xE := tb_69_0
theorem tb_69_ok (K : xKx) (hK : x_KP K) : ∀ pc, x_EOq cls K xI m_69 pc (tb_69 pc) := tb_69_0_ok K hK
def dl_70_0 : List (Nat × Instr × Nat) := [(0, .iload_n 1, 1), (1, .iconst (-1), 1), (2, .if_icmp .eq 13, 3), (5, .aload_n 0, 1), (6, .iload_n 1, 1), (7, .invokevirtual 103, 3), (10, .ifCond .ne 5, 3), (13, .iconst (-1), 1), (14, .ireturn, 1), (15, .aload_n 0, 1), (16, .getfield 91, 3), (19, .ifCond .eq 18, 3), (37, .bipush (-2), 2), (39, .ireturn, 1)]
set_option maxRecDepth 20000 in
theorem dl_70_0_ok : dl_70_0.all (fun q => decide (decode prog_1_method_31_code q.1 = .ok (q.2.1, q.2.2))) = true := by decide +kernel
def tb_70_0 : Nat → xE := (x_T 10 (x_T 2 (x_T 0 (x_L 0 (0, xi_load 1 0 1, 0, 0)) (x_T 1 (x_L 1 (0, xi_push (0, (-1), (-1)) 2, 0, 0)) (x_L 2 (0, xi_if3 15 5 5, 0, 0)))) (x_T 6 (x_T 5 (x_L 5 (0, xi_load 0 2 6, 0, 0)) (x_L 6 (0, xi_load 1 0 7, 0, 0))) (x_T 7 (x_L 7 (2, x_nof, 97, 2)) (x_L 10 (0, xi_if1 1 15 13, 0, 0))))) (x_T 15 (x_T 13 (x_L 13 (0, xi_push (0, (-1), (-1)) 14, 0, 0)) (x_T 14 (x_L 14 (1, x_nof, 1, 0)) (x_L 15 (0, xi_load 0 2 16, 0, 0)))) (x_T 19 (x_T 16 (x_L 16 (0, xi_getf 11 13 19, 0, 0)) (x_L 19 (0, xi_if1 0 37 22, 0, 0))) (x_T 37 (x_L 37 (0, xi_push (0, (-2), (-2)) 39, 0, 0)) (x_L 39 (1, x_nof, 1, 0))))))
set_option maxRecDepth 20000 in
set_option maxHeartbeats 4000000 in
theorem tb_70_0_ok (K : xKx) (hK : x_KP K) : ∀ pc, x_EOq cls K xI m_70 pc (tb_70_0 pc) :=
  (x_Tok2
  (x_Tok2
  (x_Tok2
  (x_Lok (x_st (I := xI) (xr_iload_n (i := 1) (x_dk dl_70_0_ok 0 rfl))))
  (x_Tok2
  (x_Lok (x_st (I := xI) (xr_iconst (n := (-1)) (z := (-1)) (v := (-1)) (x_dk dl_70_0_ok 1 rfl) (by decide) (by decide))))
  (x_Lok (x_st (I := xI) (xr_3eq (off := 13) (tg := 15) (x_dk dl_70_0_ok 2 rfl) (by decide))))))
  (x_Tok2
  (x_Tok2
  (x_Lok (x_st (I := xI) (xr_aload_n (i := 0) (x_dk dl_70_0_ok 3 rfl))))
  (x_Lok (x_st (I := xI) (xr_iload_n (i := 1) (x_dk dl_70_0_ok 4 rfl)))))
  (x_Tok2
  (x_Lok (x_ca (I := xI) (q' := m_97) rfl (xr_callV (q' := m_97) (ix := 103) (n := 1) (in_t4 (List.mem_of_getElem? (i := 184) rfl) rfl) good_w (in_t1 (List.mem_of_getElem? (i := 1) rfl) rfl) (in_t4 (List.mem_of_getElem? (i := 181) rfl) rfl) (in_t4 (List.mem_of_getElem? (i := 183) rfl) rfl) (in_s1 (List.mem_of_getElem? (i := 8) rfl)) (by decide +kernel) (by decide +kernel) (by decide +kernel) (x_dk dl_70_0_ok 5 rfl))))
  (x_Lok (x_st (I := xI) (xr_ifne (off := 5) (tg := 15) (x_dk dl_70_0_ok 6 rfl) (by decide)))))))
  (x_Tok2
  (x_Tok2
  (x_Lok (x_st (I := xI) (xr_iconst (n := (-1)) (z := (-1)) (v := (-1)) (x_dk dl_70_0_ok 7 rfl) (by decide) (by decide))))
  (x_Tok2
  (x_Lok (x_rt (I := xI) (k := 1) ⟨(x_dk dl_70_0_ok 8 rfl), rfl⟩))
  (x_Lok (x_st (I := xI) (xr_aload_n (i := 0) (x_dk dl_70_0_ok 9 rfl))))))
  (x_Tok2
  (x_Tok2
  (x_Lok (x_st (I := xI) (xr_getf (ci := 11) (k := 13) (ix := 91) (N := 15) (C := RX11) (T := TX11) rfl in_X11 (by decide) (in_t4 (List.mem_of_getElem? (i := 121) rfl) rfl) (x_dk dl_70_0_ok 10 rfl))))
  (x_Lok (x_st (I := xI) (xr_ifeq (off := 18) (tg := 37) (x_dk dl_70_0_ok 11 rfl) (by decide)))))
  (x_Tok2
  (x_Lok (x_st (I := xI) (xr_bipush (n := (-2)) (z := (-2)) (v := (-2)) (x_dk dl_70_0_ok 12 rfl) (by decide) (by decide))))
  (x_Lok (x_rt (I := xI) (k := 1) ⟨(x_dk dl_70_0_ok 13 rfl), rfl⟩))))))
def tb_70 : Nat → xE := tb_70_0
theorem tb_70_ok (K : xKx) (hK : x_KP K) : ∀ pc, x_EOq cls K xI m_70 pc (tb_70 pc) := tb_70_0_ok K hK
def dl_71_0 : List (Nat × Instr × Nat) := [(0, .aload_n 0, 1), (1, .iload_n 1, 1), (2, .invokevirtual 103, 3), (5, .ifCond .ne 5, 3), (8, .iconst (-1), 1), (9, .ireturn, 1)]
set_option maxRecDepth 20000 in
theorem dl_71_0_ok : dl_71_0.all (fun q => decide (decode prog_1_method_32_code q.1 = .ok (q.2.1, q.2.2))) = true := by decide +kernel
def tb_71_0 : Nat → xE := (x_T 2 (x_T 0 (x_L 0 (0, xi_load 0 2 1, 0, 0)) (x_T 1 (x_L 1 (0, xi_load 1 0 2, 0, 0)) (x_L 2 (2, x_nof, 97, 2)))) (x_T 5 (x_L 5 (0, xi_if1 1 10 8, 0, 0)) (x_T 8 (x_L 8 (0, xi_push (0, (-1), (-1)) 9, 0, 0)) (x_L 9 (1, x_nof, 1, 0)))))
set_option maxRecDepth 20000 in
set_option maxHeartbeats 4000000 in
theorem tb_71_0_ok (K : xKx) (hK : x_KP K) : ∀ pc, x_EOq cls K xI m_71 pc (tb_71_0 pc) :=
  (x_Tok2
  (x_Tok2
  (x_Lok (x_st (I := xI) (xr_aload_n (i := 0) (x_dk dl_71_0_ok 0 rfl))))
  (x_Tok2
  (x_Lok (x_st (I := xI) (xr_iload_n (i := 1) (x_dk dl_71_0_ok 1 rfl))))
  (x_Lok (x_ca (I := xI) (q' := m_97) rfl (xr_callV (q' := m_97) (ix := 103) (n := 1) (in_t4 (List.mem_of_getElem? (i := 184) rfl) rfl) good_w (in_t1 (List.mem_of_getElem? (i := 1) rfl) rfl) (in_t4 (List.mem_of_getElem? (i := 181) rfl) rfl) (in_t4 (List.mem_of_getElem? (i := 183) rfl) rfl) (in_s1 (List.mem_of_getElem? (i := 8) rfl)) (by decide +kernel) (by decide +kernel) (by decide +kernel) (x_dk dl_71_0_ok 2 rfl))))))
  (x_Tok2
  (x_Lok (x_st (I := xI) (xr_ifne (off := 5) (tg := 10) (x_dk dl_71_0_ok 3 rfl) (by decide))))
  (x_Tok2
  (x_Lok (x_st (I := xI) (xr_iconst (n := (-1)) (z := (-1)) (v := (-1)) (x_dk dl_71_0_ok 4 rfl) (by decide) (by decide))))
  (x_Lok (x_rt (I := xI) (k := 1) ⟨(x_dk dl_71_0_ok 5 rfl), rfl⟩)))))
def tb_71 : Nat → xE := tb_71_0
theorem tb_71_ok (K : xKx) (hK : x_KP K) : ∀ pc, x_EOq cls K xI m_71 pc (tb_71 pc) := tb_71_0_ok K hK
def dl_72_0 : List (Nat × Instr × Nat) := [(0, .aload_n 0, 1), (1, .iload_n 1, 1), (2, .iload_n 2, 1), (3, .invokevirtual 119, 3), (6, .ifCond .eq 21, 3), (27, .iconst (-1), 1), (28, .ireturn, 1)]
set_option maxRecDepth 20000 in
theorem dl_72_0_ok : dl_72_0.all (fun q => decide (decode prog_1_method_33_code q.1 = .ok (q.2.1, q.2.2))) = true := by decide +kernel
def tb_72_0 : Nat → xE := (x_T 2 (x_T 0 (x_L 0 (0, xi_load 0 2 1, 0, 0)) (x_T 1 (x_L 1 (0, xi_load 1 0 2, 0, 0)) (x_L 2 (0, xi_load 2 0 3, 0, 0)))) (x_T 6 (x_T 3 (x_L 3 (2, x_nof, 98, 3)) (x_L 6 (0, xi_if1 0 27 9, 0, 0))) (x_T 27 (x_L 27 (0, xi_push (0, (-1), (-1)) 28, 0, 0)) (x_L 28 (1, x_nof, 1, 0)))))
set_option maxRecDepth 20000 in
set_option maxHeartbeats 4000000 in
theorem tb_72_0_ok (K : xKx) (hK : x_KP K) : ∀ pc, x_EOq cls K xI m_72 pc (tb_72_0 pc) :=
  (x_Tok2
  (x_Tok2
  (x_Lok (x_st (I := xI) (xr_aload_n (i := 0) (x_dk dl_72_0_ok 0 rfl))))
  (x_Tok2
  (x_Lok (x_st (I := xI) (xr_iload_n (i := 1) (x_dk dl_72_0_ok 1 rfl))))
  (x_Lok (x_st (I := xI) (xr_iload_n (i := 2) (x_dk dl_72_0_ok 2 rfl))))))
  (x_Tok2
  (x_Tok2
  (x_Lok (x_ca (I := xI) (q' := m_98) rfl (xr_callV (q' := m_98) (ix := 119) (n := 2) (in_t4 (List.mem_of_getElem? (i := 201) rfl) rfl) good_w (in_t1 (List.mem_of_getElem? (i := 1) rfl) rfl) (in_t4 (List.mem_of_getElem? (i := 198) rfl) rfl) (in_t4 (List.mem_of_getElem? (i := 200) rfl) rfl) (in_s1 (List.mem_of_getElem? (i := 9) rfl)) (by decide +kernel) (by decide +kernel) (by decide +kernel) (x_dk dl_72_0_ok 3 rfl))))
  (x_Lok (x_st (I := xI) (xr_ifeq (off := 21) (tg := 27) (x_dk dl_72_0_ok 4 rfl) (by decide)))))
  (x_Tok2
  (x_Lok (x_st (I := xI) (xr_iconst (n := (-1)) (z := (-1)) (v := (-1)) (x_dk dl_72_0_ok 5 rfl) (by decide) (by decide))))
  (x_Lok (x_rt (I := xI) (k := 1) ⟨(x_dk dl_72_0_ok 6 rfl), rfl⟩)))))
def tb_72 : Nat → xE := tb_72_0
theorem tb_72_ok (K : xKx) (hK : x_KP K) : ∀ pc, x_EOq cls K xI m_72 pc (tb_72 pc) := tb_72_0_ok K hK
def dl_73_0 : List (Nat × Instr × Nat) := [(0, .iload_n 1, 1), (1, .iconst 0, 1), (2, .iconst 5, 1), (3, .invokestatic 82, 3), (6, .ifCond .ne 5, 3), (9, .iconst (-1), 1), (10, .ireturn, 1), (11, .aload_n 0, 1), (12, .getfield 91, 3), (15, .ifCond .ne 6, 3), (18, .bipush (-2), 2), (20, .ireturn, 1)]
set_option maxRecDepth 20000 in
theorem dl_73_0_ok : dl_73_0.all (fun q => decide (decode prog_1_method_34_code q.1 = .ok (q.2.1, q.2.2))) = true := by decide +kernel
def tb_73_0 : Nat → xE := (x_T 9 (x_T 2 (x_T 0 (x_L 0 (0, xi_load 1 0 1, 0, 0)) (x_T 1 (x_L 1 (0, xi_push (0, 0, 0) 2, 0, 0)) (x_L 2 (0, xi_push (0, 5, 5) 3, 0, 0)))) (x_T 3 (x_L 3 (2, x_nof, 93, 3)) (x_T 6 (x_L 6 (0, xi_if1 1 11 9, 0, 0)) (x_L 9 (0, xi_push (0, (-1), (-1)) 10, 0, 0))))) (x_T 12 (x_T 10 (x_L 10 (1, x_nof, 1, 0)) (x_T 11 (x_L 11 (0, xi_load 0 2 12, 0, 0)) (x_L 12 (0, xi_getf 11 13 15, 0, 0)))) (x_T 15 (x_L 15 (0, xi_if1 1 21 18, 0, 0)) (x_T 18 (x_L 18 (0, xi_push (0, (-2), (-2)) 20, 0, 0)) (x_L 20 (1, x_nof, 1, 0))))))
set_option maxRecDepth 20000 in
set_option maxHeartbeats 4000000 in
theorem tb_73_0_ok (K : xKx) (hK : x_KP K) : ∀ pc, x_EOq cls K xI m_73 pc (tb_73_0 pc) :=
  (x_Tok2
  (x_Tok2
  (x_Tok2
  (x_Lok (x_st (I := xI) (xr_iload_n (i := 1) (x_dk dl_73_0_ok 0 rfl))))
  (x_Tok2
  (x_Lok (x_st (I := xI) (xr_iconst (n := 0) (z := 0) (v := 0) (x_dk dl_73_0_ok 1 rfl) (by decide) (by decide))))
  (x_Lok (x_st (I := xI) (xr_iconst (n := 5) (z := 5) (v := 5) (x_dk dl_73_0_ok 2 rfl) (by decide) (by decide))))))
  (x_Tok2
  (x_Lok (x_ca (I := xI) (q' := m_93) rfl (xr_callS (q' := m_93) (ix := 82) (n := 3) (in_t4 (List.mem_of_getElem? (i := 168) rfl) rfl) good_w (in_t1 (List.mem_of_getElem? (i := 1) rfl) rfl) (in_t4 (List.mem_of_getElem? (i := 166) rfl) rfl) (in_t4 (List.mem_of_getElem? (i := 167) rfl) rfl) (by decide +kernel) (by decide +kernel) (x_dk dl_73_0_ok 3 rfl))))
  (x_Tok2
  (x_Lok (x_st (I := xI) (xr_ifne (off := 5) (tg := 11) (x_dk dl_73_0_ok 4 rfl) (by decide))))
  (x_Lok (x_st (I := xI) (xr_iconst (n := (-1)) (z := (-1)) (v := (-1)) (x_dk dl_73_0_ok 5 rfl) (by decide) (by decide)))))))
  (x_Tok2
  (x_Tok2
  (x_Lok (x_rt (I := xI) (k := 1) ⟨(x_dk dl_73_0_ok 6 rfl), rfl⟩))
  (x_Tok2
  (x_Lok (x_st (I := xI) (xr_aload_n (i := 0) (x_dk dl_73_0_ok 7 rfl))))
  (x_Lok (x_st (I := xI) (xr_getf (ci := 11) (k := 13) (ix := 91) (N := 15) (C := RX11) (T := TX11) rfl in_X11 (by decide) (in_t4 (List.mem_of_getElem? (i := 121) rfl) rfl) (x_dk dl_73_0_ok 8 rfl))))))
  (x_Tok2
  (x_Lok (x_st (I := xI) (xr_ifne (off := 6) (tg := 21) (x_dk dl_73_0_ok 9 rfl) (by decide))))
  (x_Tok2
  (x_Lok (x_st (I := xI) (xr_bipush (n := (-2)) (z := (-2)) (v := (-2)) (x_dk dl_73_0_ok 10 rfl) (by decide) (by decide))))
  (x_Lok (x_rt (I := xI) (k := 1) ⟨(x_dk dl_73_0_ok 11 rfl), rfl⟩))))))
def tb_73 : Nat → xE := tb_73_0
theorem tb_73_ok (K : xKx) (hK : x_KP K) : ∀ pc, x_EOq cls K xI m_73 pc (tb_73 pc) := tb_73_0_ok K hK
def dl_74_0 : List (Nat × Instr × Nat) := [(0, .aload_n 0, 1), (1, .iload_n 1, 1), (2, .invokevirtual 103, 3), (5, .ifCond .eq 24, 3), (29, .iconst (-1), 1), (30, .ireturn, 1)]
set_option maxRecDepth 20000 in
theorem dl_74_0_ok : dl_74_0.all (fun q => decide (decode prog_1_method_35_code q.1 = .ok (q.2.1, q.2.2))) = true := by decide +kernel
def tb_74_0 : Nat → xE := (x_T 2 (x_T 0 (x_L 0 (0, xi_load 0 2 1, 0, 0)) (x_T 1 (x_L 1 (0, xi_load 1 0 2, 0, 0)) (x_L 2 (2, x_nof, 97, 2)))) (x_T 5 (x_L 5 (0, xi_if1 0 29 8, 0, 0)) (x_T 29 (x_L 29 (0, xi_push (0, (-1), (-1)) 30, 0, 0)) (x_L 30 (1, x_nof, 1, 0)))))
set_option maxRecDepth 20000 in
set_option maxHeartbeats 4000000 in
theorem tb_74_0_ok (K : xKx) (hK : x_KP K) : ∀ pc, x_EOq cls K xI m_74 pc (tb_74_0 pc) :=
  (x_Tok2
  (x_Tok2
  (x_Lok (x_st (I := xI) (xr_aload_n (i := 0) (x_dk dl_74_0_ok 0 rfl))))
  (x_Tok2
  (x_Lok (x_st (I := xI) (xr_iload_n (i := 1) (x_dk dl_74_0_ok 1 rfl))))
  (x_Lok (x_ca (I := xI) (q' := m_97) rfl (xr_callV (q' := m_97) (ix := 103) (n := 1) (in_t4 (List.mem_of_getElem? (i := 184) rfl) rfl) good_w (in_t1 (List.mem_of_getElem? (i := 1) rfl) rfl) (in_t4 (List.mem_of_getElem? (i := 181) rfl) rfl) (in_t4 (List.mem_of_getElem? (i := 183) rfl) rfl) (in_s1 (List.mem_of_getElem? (i := 8) rfl)) (by decide +kernel) (by decide +kernel) (by decide +kernel) (x_dk dl_74_0_ok 2 rfl))))))
  (x_Tok2
  (x_Lok (x_st (I := xI) (xr_ifeq (off := 24) (tg := 29) (x_dk dl_74_0_ok 3 rfl) (by decide))))
  (x_Tok2
  (x_Lok (x_st (I := xI) (xr_iconst (n := (-1)) (z := (-1)) (v := (-1)) (x_dk dl_74_0_ok 4 rfl) (by decide) (by decide))))
  (x_Lok (x_rt (I := xI) (k := 1) ⟨(x_dk dl_74_0_ok 5 rfl), rfl⟩)))))
def tb_74 : Nat → xE := tb_74_0
theorem tb_74_ok (K : xKx) (hK : x_KP K) : ∀ pc, x_EOq cls K xI m_74 pc (tb_74 pc) := tb_74_0_ok K hK
def dl_75_0 : List (Nat × Instr × Nat) := [(0, .aload_n 0, 1), (1, .iload_n 1, 1), (2, .invokevirtual 103, 3), (5, .ifCond .ne 5, 3), (8, .iconst (-1), 1), (9, .ireturn, 1)]
set_option maxRecDepth 20000 in
theorem dl_75_0_ok : dl_75_0.all (fun q => decide (decode prog_1_method_36_code q.1 = .ok (q.2.1, q.2.2))) = true := by decide +kernel
def tb_75_0 : Nat → xE := (x_T 2 (x_T 0 (x_L 0 (0, xi_load 0 2 1, 0, 0)) (x_T 1 (x_L 1 (0, xi_load 1 0 2, 0, 0)) (x_L 2 (2, x_nof, 97, 2)))) (x_T 5 (x_L 5 (0, xi_if1 1 10 8, 0, 0)) (x_T 8 (x_L 8 (0, xi_push (0, (-1), (-1)) 9, 0, 0)) (x_L 9 (1, x_nof, 1, 0)))))
set_option maxRecDepth 20000 in
set_option maxHeartbeats 4000000 in
theorem tb_75_0_ok (K : xKx) (hK : x_KP K) : ∀ pc, x_EOq cls K xI m_75 pc (tb_75_0 pc) :=
  (x_Tok2
  (x_Tok2
  (x_Lok (x_st (I := xI) (xr_aload_n (i := 0) (x_dk dl_75_0_ok 0 rfl))))
  (x_Tok2
  (x_Lok (x_st (I := xI) (xr_iload_n (i := 1) (x_dk dl_75_0_ok 1 rfl))))
  (x_Lok (x_ca (I := xI) (q' := m_97) rfl (xr_callV (q' := m_97) (ix := 103) (n := 1) (in_t4 (List.mem_of_getElem? (i := 184) rfl) rfl) good_w (in_t1 (List.mem_of_getElem? (i := 1) rfl) rfl) (in_t4 (List.mem_of_getElem? (i := 181) rfl) rfl) (in_t4 (List.mem_of_getElem? (i := 183) rfl) rfl) (in_s1 (List.mem_of_getElem? (i := 8) rfl)) (by decide +kernel) (by decide +kernel) (by decide +kernel) (x_dk dl_75_0_ok 2 rfl))))))
  (x_Tok2
  (x_Lok (x_st (I := xI) (xr_ifne (off := 5) (tg := 10) (x_dk dl_75_0_ok 3 rfl) (by decide))))
  (x_Tok2
  (x_Lok (x_st (I := xI) (xr_iconst (n := (-1)) (z := (-1)) (v := (-1)) (x_dk dl_75_0_ok 4 rfl) (by decide) (by decide))))
  (x_Lok (x_rt (I := xI) (k := 1) ⟨(x_dk dl_75_0_ok 5 rfl), rfl⟩)))))
def tb_75 : Nat → xE := tb_75_0
theorem tb_75_ok (K : xKx) (hK : x_KP K) : ∀ pc, x_EOq cls K xI m_75 pc (tb_75 pc) := tb_75_0_ok K hK
def dl_76_0 : List (Nat × Instr × Nat) := [(0, .iload_n 1, 1), (1, .iconst 0, 1), (2, .aload_n 0, 1), (3, .getfield 246, 3), (6, .invokestatic 82, 3), (9, .ifCond .ne 5, 3), (12, .iconst (-1), 1), (13, .ireturn, 1), (14, .aload_n 0, 1), (15, .getfield 91, 3), (18, .ifCond .ne 6, 3), (21, .bipush (-2), 2), (23, .ireturn, 1)]
set_option maxRecDepth 20000 in
theorem dl_76_0_ok : dl_76_0.all (fun q => decide (decode prog_1_method_37_code q.1 = .ok (q.2.1, q.2.2))) = true := by decide +kernel
def tb_76_0 : Nat → xE := (x_T 9 (x_T 2 (x_T 0 (x_L 0 (0, xi_load 1 0 1, 0, 0)) (x_T 1 (x_L 1 (0, xi_push (0, 0, 0) 2, 0, 0)) (x_L 2 (0, xi_load 0 2 3, 0, 0)))) (x_T 3 (x_L 3 (0, xi_getf 11 12 6, 0, 0)) (x_T 6 (x_L 6 (2, x_nof, 93, 3)) (x_L 9 (0, xi_if1 1 14 12, 0, 0))))) (x_T 14 (x_T 12 (x_L 12 (0, xi_push (0, (-1), (-1)) 13, 0, 0)) (x_T 13 (x_L 13 (1, x_nof, 1, 0)) (x_L 14 (0, xi_load 0 2 15, 0, 0)))) (x_T 18 (x_T 15 (x_L 15 (0, xi_getf 11 13 18, 0, 0)) (x_L 18 (0, xi_if1 1 24 21, 0, 0))) (x_T 21 (x_L 21 (0, xi_push (0, (-2), (-2)) 23, 0, 0)) (x_L 23 (1, x_nof, 1, 0))))))
set_option maxRecDepth 20000 in
set_option maxHeartbeats 4000000 in
theorem tb_76_0_ok (K : xKx) (hK : x_KP K) : ∀ pc, x_EOq cls K xI m_76 pc (tb_76_0 pc) :=
  (x_Tok2
  (x_Tok2
  (x_Tok2
  (x_Lok (x_st (I := xI) (xr_iload_n (i := 1) (x_dk dl_76_0_ok 0 rfl))))
  (x_Tok2
  (x_Lok (x_st (I := xI) (xr_iconst (n := 0) (z := 0) (v := 0) (x_dk dl_76_0_ok 1 rfl) (by decide) (by decide))))
  (x_Lok (x_st (I := xI) (xr_aload_n (i := 0) (x_dk dl_76_0_ok 2 rfl))))))
  (x_Tok2
  (x_Lok (x_st (I := xI) (xr_getf (ci := 11) (k := 12) (ix := 246) (N := 15) (C := RX11) (T := TX11) rfl in_X11 (by decide) (in_t4 (List.mem_of_getElem? (i := 120) rfl) rfl) (x_dk dl_76_0_ok 3 rfl))))
  (x_Tok2
  (x_Lok (x_ca (I := xI) (q' := m_93) rfl (xr_callS (q' := m_93) (ix := 82) (n := 3) (in_t4 (List.mem_of_getElem? (i := 168) rfl) rfl) good_w (in_t1 (List.mem_of_getElem? (i := 1) rfl) rfl) (in_t4 (List.mem_of_getElem? (i := 166) rfl) rfl) (in_t4 (List.mem_of_getElem? (i := 167) rfl) rfl) (by decide +kernel) (by decide +kernel) (x_dk dl_76_0_ok 4 rfl))))
  (x_Lok (x_st (I := xI) (xr_ifne (off := 5) (tg := 14) (x_dk dl_76_0_ok 5 rfl) (by decide)))))))
  (x_Tok2
  (x_Tok2
  (x_Lok (x_st (I := xI) (xr_iconst (n := (-1)) (z := (-1)) (v := (-1)) (x_dk dl_76_0_ok 6 rfl) (by decide) (by decide))))
  (x_Tok2
  (x_Lok (x_rt (I := xI) (k := 1) ⟨(x_dk dl_76_0_ok 7 rfl), rfl⟩))
  (x_Lok (x_st (I := xI) (xr_aload_n (i := 0) (x_dk dl_76_0_ok 8 rfl))))))
  (x_Tok2
  (x_Tok2
  (x_Lok (x_st (I := xI) (xr_getf (ci := 11) (k := 13) (ix := 91) (N := 15) (C := RX11) (T := TX11) rfl in_X11 (by decide) (in_t4 (List.mem_of_getElem? (i := 121) rfl) rfl) (x_dk dl_76_0_ok 9 rfl))))
  (x_Lok (x_st (I := xI) (xr_ifne (off := 6) (tg := 24) (x_dk dl_76_0_ok 10 rfl) (by decide)))))
  (x_Tok2
  (x_Lok (x_st (I := xI) (xr_bipush (n := (-2)) (z := (-2)) (v := (-2)) (x_dk dl_76_0_ok 11 rfl) (by decide) (by decide))))
  (x_Lok (x_rt (I := xI) (k := 1) ⟨(x_dk dl_76_0_ok 12 rfl), rfl⟩))))))
def tb_76 : Nat → xE := tb_76_0
theorem tb_76_ok (K : xKx) (hK : x_KP K) : ∀ pc, x_EOq cls K xI m_76 pc (tb_76 pc) := tb_76_0_ok K hK
def dl_77_0 : List (Nat × Instr × Nat) := [(0, .aload_n 0, 1), (1, .getfield 42, 3), (4, .getfield 86, 3), (7, .ireturn, 1)]
set_option maxRecDepth 20000 in
theorem dl_77_0_ok : dl_77_0.all (fun q => decide (decode prog_1_method_38_code q.1 = .ok (q.2.1, q.2.2))) = true := by decide +kernel
def tb_77_0 : Nat → xE := (x_T 1 (x_T 0 (x_L 0 (0, xi_load 0 2 1, 0, 0)) (x_L 1 (0, xi_getf 11 5 4, 0, 0))) (x_T 4 (x_L 4 (0, xi_getf 2 0 7, 0, 0)) (x_L 7 (1, x_nof, 1, 0))))
set_option maxRecDepth 20000 in
set_option maxHeartbeats 4000000 in
theorem tb_77_0_ok (K : xKx) (hK : x_KP K) : ∀ pc, x_EOq cls K xI m_77 pc (tb_77_0 pc) :=
  (x_Tok2
  (x_Tok2
  (x_Lok (x_st (I := xI) (xr_aload_n (i := 0) (x_dk dl_77_0_ok 0 rfl))))
  (x_Lok (x_st (I := xI) (xr_getf (ci := 11) (k := 5) (ix := 42) (N := 15) (C := RX11) (T := TX11) rfl in_X11 (by decide) (in_t4 (List.mem_of_getElem? (i := 113) rfl) rfl) (x_dk dl_77_0_ok 1 rfl)))))
  (x_Tok2
  (x_Lok (x_st (I := xI) (xr_getf (ci := 2) (k := 0) (ix := 86) (N := 15) (C := RX2) (T := TX2) rfl in_X2 (by decide) (in_t2 (List.mem_of_getElem? (i := 13) rfl) rfl) (x_dk dl_77_0_ok 2 rfl))))
  (x_Lok (x_rt (I := xI) (k := 1) ⟨(x_dk dl_77_0_ok 3 rfl), rfl⟩))))
def tb_77 : Nat → xE := tb_77_0
theorem tb_77_ok (K : xKx) (hK : x_KP K) : ∀ pc, x_EOq cls K xI m_77 pc (tb_77 pc) := tb_77_0_ok K hK
def dl_78_0 : List (Nat × Instr × Nat) := [(0, .aload_n 0, 1), (1, .iload_n 1, 1), (2, .invokevirtual 103, 3), (5, .ifCond .ne 5, 3), (8, .iconst (-1), 1), (9, .ireturn, 1)]
set_option maxRecDepth 20000 in
theorem dl_78_0_ok : dl_78_0.all (fun q => decide (decode prog_1_method_39_code q.1 = .ok (q.2.1, q.2.2))) = true := by decide +kernel
def tb_78_0 : Nat → xE := (x_T 2 (x_T 0 (x_L 0 (0, xi_load 0 2 1, 0, 0)) (x_T 1 (x_L 1 (0, xi_load 1 0 2, 0, 0)) (x_L 2 (2, x_nof, 97, 2)))) (x_T 5 (x_L 5 (0, xi_if1 1 10 8, 0, 0)) (x_T 8 (x_L 8 (0, xi_push (0, (-1), (-1)) 9, 0, 0)) (x_L 9 (1, x_nof, 1, 0)))))
set_option maxRecDepth 20000 in
set_option maxHeartbeats 4000000 in
theorem tb_78_0_ok (K : xKx) (hK : x_KP K) : ∀ pc, x_EOq cls K xI m_78 pc (tb_78_0 pc) :=
  (x_Tok2
  (x_Tok2
  (x_Lok (x_st (I := xI) (xr_aload_n (i := 0) (x_dk dl_78_0_ok 0 rfl))))
  (x_Tok2
  (x_Lok (x_st (I := xI) (xr_iload_n (i := 1) (x_dk dl_78_0_ok 1 rfl))))
  (x_Lok (x_ca (I := xI) (q' := m_97) rfl (xr_callV (q' := m_97) (ix := 103) (n := 1) (in_t4 (List.mem_of_getElem? (i := 184) rfl) rfl) good_w (in_t1 (List.mem_of_getElem? (i := 1) rfl) rfl) (in_t4 (List.mem_of_getElem? (i := 181) rfl) rfl) (in_t4 (List.mem_of_getElem? (i := 183) rfl) rfl) (in_s1 (List.mem_of_getElem? (i := 8) rfl)) (by decide +kernel) (by decide +kernel) (by decide +kernel) (x_dk dl_78_0_ok 2 rfl))))))
  (x_Tok2
  (x_Lok (x_st (I := xI) (xr_ifne (off := 5) (tg := 10) (x_dk dl_78_0_ok 3 rfl) (by decide))))
  (x_Tok2
  (x_Lok (x_st (I := xI) (xr_iconst (n := (-1)) (z := (-1)) (v := (-1)) (x_dk dl_78_0_ok 4 rfl) (by decide) (by decide))))
  (x_Lok (x_rt (I := xI) (k := 1) ⟨(x_dk dl_78_0_ok 5 rfl), rfl⟩)))))
def tb_78 : Nat → xE := tb_78_0
theorem tb_78_ok (K : xKx) (hK : x_KP K) : ∀ pc, x_EOq cls K xI m_78 pc (tb_78 pc) := tb_78_0_ok K hK
def dl_79_0 : List (Nat × Instr × Nat) := [(0, .aload_n 0, 1), (1, .iload_n 1, 1), (2, .iload_n 2, 1), (3, .invokevirtual 119, 3), (6, .ifCond .eq 20, 3), (26, .iconst (-1), 1), (27, .ireturn, 1)]
set_option maxRecDepth 20000 in
theorem dl_79_0_ok : dl_79_0.all (fun q => decide (decode prog_1_method_40_code q.1 = .ok (q.2.1, q.2.2))) = true := by decide +kernel
def tb_79_0 : Nat → xE := (x_T 2 (x_T 0 (x_L 0 (0, xi_load 0 2 1, 0, 0)) (x_T 1 (x_L 1 (0, xi_load 1 0 2, 0, 0)) (x_L 2 (0, xi_load 2 0 3, 0, 0)))) (x_T 6 (x_T 3 (x_L 3 (2, x_nof, 98, 3)) (x_L 6 (0, xi_if1 0 26 9, 0, 0))) (x_T 26 (x_L 26 (0, xi_push (0, (-1), (-1)) 27, 0, 0)) (x_L 27 (1, x_nof, 1, 0)))))
set_option maxRecDepth 20000 in
set_option maxHeartbeats 4000000 in
theorem tb_79_0_ok (K : xKx) (hK : x_KP K) : ∀ pc, x_EOq cls K xI m_79 pc (tb_79_0 pc) :=
  (x_Tok2
  (x_Tok2
  (x_Lok (x_st (I := xI) (xr_aload_n (i := 0) (x_dk dl_79_0_ok 0 rfl))))
  (x_Tok2
  (x_Lok (x_st (I := xI) (xr_iload_n (i := 1) (x_dk dl_79_0_ok 1 rfl))))
  (x_Lok (x_st (I := xI) (xr_iload_n (i := 2) (x_dk dl_79_0_ok 2 rfl))))))
  (x_Tok2
  (x_Tok2
  (x_Lok (x_ca (I := xI) (q' := m_98) rfl (xr_callV (q' := m_98) (ix := 119) (n := 2) (in_t4 (List.mem_of_getElem? (i := 201) rfl) rfl) good_w (in_t1 (List.mem_of_getElem? (i := 1) rfl) rfl) (in_t4 (List.mem_of_getElem? (i := 198) rfl) rfl) (in_t4 (List.mem_of_getElem? (i := 200) rfl) rfl) (in_s1 (List.mem_of_getElem? (i := 9) rfl)) (by decide +kernel) (by decide +kernel) (by decide +kernel) (x_dk dl_79_0_ok 3 rfl))))
  (x_Lok (x_st (I := xI) (xr_ifeq (off := 20) (tg := 26) (x_dk dl_79_0_ok 4 rfl) (by decide)))))
  (x_Tok2
  (x_Lok (x_st (I := xI) (xr_iconst (n := (-1)) (z := (-1)) (v := (-1)) (x_dk dl_79_0_ok 5 rfl) (by decide) (by decide))))
  (x_Lok (x_rt (I := xI) (k := 1) ⟨(x_dk dl_79_0_ok 6 rfl), rfl⟩)))))
def tb_79 : Nat → xE := tb_79_0
theorem tb_79_ok (K : xKx) (hK : x_KP K) : ∀ pc, x_EOq cls K xI m_79 pc (tb_79 pc) := tb_79_0_ok K hK
def dl_80_0 : List (Nat × Instr × Nat) := [(0, .aload_n 0, 1), (1, .iload_n 1, 1), (2, .invokevirtual 103, 3), (5, .ifCond .eq 29, 3), (34, .iconst (-1), 1), (35, .ireturn, 1)]
set_option maxRecDepth 20000 in
theorem dl_80_0_ok : dl_80_0.all (fun q => decide (decode prog_1_method_41_code q.1 = .ok (q.2.1, q.2.2))) = true := by decide +kernel
def tb_80_0 : Nat → xE := (x_T 2 (x_T 0 (x_L 0 (0, xi_load 0 2 1, 0, 0)) (x_T 1 (x_L 1 (0, xi_load 1 0 2, 0, 0)) (x_L 2 (2, x_nof, 97, 2)))) (x_T 5 (x_L 5 (0, xi_if1 0 34 8, 0, 0)) (x_T 34 (x_L 34 (0, xi_push (0, (-1), (-1)) 35, 0, 0)) (x_L 35 (1, x_nof, 1, 0)))))
set_option maxRecDepth 20000 in
set_option maxHeartbeats 4000000 in
theorem tb_80_0_ok (K : xKx) (hK : x_KP K) : ∀ pc, x_EOq cls K xI m_80 pc (tb_80_0 pc) :=
  (x_Tok2
  (x_Tok2
  (x_Lok (x_st (I := xI) (xr_aload_n (i := 0) (x_dk dl_80_0_ok 0 rfl))))
  (x_Tok2
  (x_Lok (x_st (I := xI) (xr_iload_n (i := 1) (x_dk dl_80_0_ok 1 rfl))))
  (x_Lok (x_ca (I := xI) (q' := m_97) rfl (xr_callV (q' := m_97) (ix := 103) (n := 1) (in_t4 (List.mem_of_getElem? (i := 184) rfl) rfl) good_w (in_t1 (List.mem_of_getElem? (i := 1) rfl) rfl) (in_t4 (List.mem_of_getElem? (i := 181) rfl) rfl) (in_t4 (List.mem_of_getElem? (i := 183) rfl) rfl) (in_s1 (List.mem_of_getElem? (i := 8) rfl)) (by decide +kernel) (by decide +kernel) (by decide +kernel) (x_dk dl_80_0_ok 2 rfl))))))
  (x_Tok2
  (x_Lok (x_st (I := xI) (xr_ifeq (off := 29) (tg := 34) (x_dk dl_80_0_ok 3 rfl) (by decide))))
  (x_Tok2
  (x_Lok (x_st (I := xI) (xr_iconst (n := (-1)) (z := (-1)) (v := (-1)) (x_dk dl_80_0_ok 4 rfl) (by decide) (by decide))))
  (x_Lok (x_rt (I := xI) (k := 1) ⟨(x_dk dl_80_0_ok 5 rfl), rfl⟩)))))
def tb_80 : Nat → xE := tb_80_0
theorem tb_80_ok (K : xKx) (hK : x_KP K) : ∀ pc, x_EOq cls K xI m_80 pc (tb_80 pc) := tb_80_0_ok K hK
def dl_81_0 : List (Nat × Instr × Nat) := [(0, .aload_n 0, 1), (1, .iload_n 1, 1), (2, .invokevirtual 103, 3), (5, .ifCond .eq 15, 3), (20, .iconst (-1), 1), (21, .ireturn, 1)]
set_option maxRecDepth 20000 in
theorem dl_81_0_ok : dl_81_0.all (fun q => decide (decode prog_1_method_42_code q.1 = .ok (q.2.1, q.2.2))) = true := by decide +kernel
def tb_81_0 : Nat → xE := (x_T 2 (x_T 0 (x_L 0 (0, xi_load 0 2 1, 0, 0)) (x_T 1 (x_L 1 (0, xi_load 1 0 2, 0, 0)) (x_L 2 (2, x_nof, 97, 2)))) (x_T 5 (x_L 5 (0, xi_if1 0 20 8, 0, 0)) (x_T 20 (x_L 20 (0, xi_push (0, (-1), (-1)) 21, 0, 0)) (x_L 21 (1, x_nof, 1, 0)))))
set_option maxRecDepth 20000 in
set_option maxHeartbeats 4000000 in
theorem tb_81_0_ok (K : xKx) (hK : x_KP K) : ∀ pc, x_EOq cls K xI m_81 pc (tb_81_0 pc) :=
  (x_Tok2
  (x_Tok2
  (x_Lok (x_st (I := xI) (xr_aload_n (i := 0) (x_dk dl_81_0_ok 0 rfl))))
  (x_Tok2
  (x_Lok (x_st (I := xI) (xr_iload_n (i := 1) (x_dk dl_81_0_ok 1 rfl))))
  (x_Lok (x_ca (I := xI) (q' := m_97) rfl (xr_callV (q' := m_97) (ix := 103) (n := 1) (in_t4 (List.mem_of_getElem? (i := 184) rfl) rfl) good_w (in_t1 (List.mem_of_getElem? (i := 1) rfl) rfl) (in_t4 (List.mem_of_getElem? (i := 181) rfl) rfl) (in_t4 (List.mem_of_getElem? (i := 183) rfl) rfl) (in_s1 (List.mem_of_getElem? (i := 8) rfl)) (by decide +kernel) (by decide +kernel) (by decide +kernel) (x_dk dl_81_0_ok 2 rfl))))))
  (x_Tok2
  (x_Lok (x_st (I := xI) (xr_ifeq (off := 15) (tg := 20) (x_dk dl_81_0_ok 3 rfl) (by decide))))
  (x_Tok2
  (x_Lok (x_st (I := xI) (xr_iconst (n := (-1)) (z := (-1)) (v := (-1)) (x_dk dl_81_0_ok 4 rfl) (by decide) (by decide))))
  (x_Lok (x_rt (I := xI) (k := 1) ⟨(x_dk dl_81_0_ok 5 rfl), rfl⟩)))))
def tb_81 : Nat → xE := tb_81_0
theorem tb_81_ok (K : xKx) (hK : x_KP K) : ∀ pc, x_EOq cls K xI m_81 pc (tb_81 pc) := tb_81_0_ok K hK
def dl_82_0 : List (Nat × Instr × Nat) := [(0, .iload_n 1, 1), (1, .iconst 0, 1), (2, .bipush 15, 2), (4, .invokestatic 82, 3), (7, .ifCond .ne 5, 3), (10, .iconst (-1), 1), (11, .ireturn, 1), (12, .aload_n 0, 1), (13, .getfield 19, 3), (16, .getfield 338, 3), (19, .iload_n 1, 1), (20, .aaload, 1), (21, .astore_n 3, 1), (22, .iload_n 2, 1), (23, .tableswitch 49 0 3 #[29, 34, 39, 44], 29), (52, .aload_n 3, 1), (53, .getfield 342, 3), (56, .ireturn, 1), (57, .aload_n 3, 1), (58, .getfield 345, 3), (61, .ireturn, 1), (62, .aload_n 3, 1), (63, .getfield 348, 3), (66, .ireturn, 1), (67, .aload_n 3, 1), (68, .getfield 351, 3), (71, .ireturn, 1), (72, .iconst (-1), 1), (73, .ireturn, 1)]
set_option maxRecDepth 20000 in
theorem dl_82_0_ok : dl_82_0.all (fun q => decide (decode prog_1_method_43_code q.1 = .ok (q.2.1, q.2.2))) = true := by decide +kernel
def tb_82_0 : Nat → xE := (x_T 22 (x_T 11 (x_T 2 (x_T 0 (x_L 0 (0, xi_load 1 0 1, 0, 0)) (x_T 1 (x_L 1 (0, xi_push (0, 0, 0) 2, 0, 0)) (x_L 2 (0, xi_push (0, 15, 15) 4, 0, 0)))) (x_T 7 (x_T 4 (x_L 4 (2, x_nof, 93, 3)) (x_L 7 (0, xi_if1 1 12 10, 0, 0))) (x_T 10 (x_L 10 (0, xi_push (0, (-1), (-1)) 11, 0, 0)) (x_L 11 (1, x_nof, 1, 0))))) (x_T 16 (x_T 12 (x_L 12 (0, xi_load 0 2 13, 0, 0)) (x_T 13 (x_L 13 (0, xi_getf 11 1 16, 0, 0)) (x_L 16 (0, xi_getf 3 4 19, 0, 0)))) (x_T 20 (x_T 19 (x_L 19 (0, xi_load 1 0 20, 0, 0)) (x_L 20 (0, xi_splC 1 (xi_aald 21), 0, 0))) (x_T 21 (x_L 21 (0, xi_stor 3 2 22, 0, 0)) (x_L 22 (0, xi_load 2 0 23, 0, 0)))))) (x_T 61 (x_T 53 (x_T 23 (x_L 23 (0, xi_sw [((-2147483648), (-1), 72), (0, 0, 52), (1, 1, 57), (2, 2, 62), (3, 3, 67), (4, 2147483647, 72)], 0, 0)) (x_T 52 (x_L 52 (0, xi_load 3 2 53, 0, 0)) (x_L 53 (0, xi_getf 10 1 56, 0, 0)))) (x_T 57 (x_T 56 (x_L 56 (1, x_nof, 1, 0)) (x_L 57 (0, xi_load 3 2 58, 0, 0))) (x_T 58 (x_L 58 (0, xi_getf 10 2 61, 0, 0)) (x_L 61 (1, x_nof, 1, 0))))) (x_T 67 (x_T 63 (x_T 62 (x_L 62 (0, xi_load 3 2 63, 0, 0)) (x_L 63 (0, xi_getf 10 5 66, 0, 0))) (x_T 66 (x_L 66 (1, x_nof, 1, 0)) (x_L 67 (0, xi_load 3 2 68, 0, 0)))) (x_T 71 (x_T 68 (x_L 68 (0, xi_getf 10 4 71, 0, 0)) (x_L 71 (1, x_nof, 1, 0))) (x_T 72 (x_L 72 (0, xi_push (0, (-1), (-1)) 73, 0, 0)) (x_L 73 (1, x_nof, 1, 0)))))))
set_option maxRecDepth 20000 in
set_option maxHeartbeats 4000000 in
theorem tb_82_0_ok (K : xKx) (hK : x_KP K) : ∀ pc, x_EOq cls K xI m_82 pc (tb_82_0 pc) :=
  (x_Tok2
  (x_Tok2
  (x_Tok2
  (x_Tok2
  (x_Lok (x_st (I := xI) (xr_iload_n (i := 1) (x_dk dl_82_0_ok 0 rfl))))
  (x_Tok2
  (x_Lok (x_st (I := xI) (xr_iconst (n := 0) (z := 0) (v := 0) (x_dk dl_82_0_ok 1 rfl) (by decide) (by decide))))
  (x_Lok (x_st (I := xI) (xr_bipush (n := 15) (z := 15) (v := 15) (x_dk dl_82_0_ok 2 rfl) (by decide) (by decide))))))
  (x_Tok2
  (x_Tok2
  (x_Lok (x_ca (I := xI) (q' := m_93) rfl (xr_callS (q' := m_93) (ix := 82) (n := 3) (in_t4 (List.mem_of_getElem? (i := 168) rfl) rfl) good_w (in_t1 (List.mem_of_getElem? (i := 1) rfl) rfl) (in_t4 (List.mem_of_getElem? (i := 166) rfl) rfl) (in_t4 (List.mem_of_getElem? (i := 167) rfl) rfl) (by decide +kernel) (by decide +kernel) (x_dk dl_82_0_ok 3 rfl))))
  (x_Lok (x_st (I := xI) (xr_ifne (off := 5) (tg := 12) (x_dk dl_82_0_ok 4 rfl) (by decide)))))
  (x_Tok2
  (x_Lok (x_st (I := xI) (xr_iconst (n := (-1)) (z := (-1)) (v := (-1)) (x_dk dl_82_0_ok 5 rfl) (by decide) (by decide))))
  (x_Lok (x_rt (I := xI) (k := 1) ⟨(x_dk dl_82_0_ok 6 rfl), rfl⟩)))))
  (x_Tok2
  (x_Tok2
  (x_Lok (x_st (I := xI) (xr_aload_n (i := 0) (x_dk dl_82_0_ok 7 rfl))))
  (x_Tok2
  (x_Lok (x_st (I := xI) (xr_getf (ci := 11) (k := 1) (ix := 19) (N := 15) (C := RX11) (T := TX11) rfl in_X11 (by decide) (in_t4 (List.mem_of_getElem? (i := 109) rfl) rfl) (x_dk dl_82_0_ok 8 rfl))))
  (x_Lok (x_st (I := xI) (xr_getf (ci := 3) (k := 4) (ix := 338) (N := 12) (C := RX3) (T := TX3) rfl in_X3 (by decide) (in_t3 (List.mem_of_getElem? (i := 97) rfl) rfl) (x_dk dl_82_0_ok 9 rfl))))))
  (x_Tok2
  (x_Tok2
  (x_Lok (x_st (I := xI) (xr_iload_n (i := 1) (x_dk dl_82_0_ok 10 rfl))))
  (x_Lok (x_st (I := xI) (xi_splC_ok (xr_aaload (x_dk dl_82_0_ok 11 rfl))))))
  (x_Tok2
  (x_Lok (x_st (I := xI) (xr_astore_n (i := 3) (x_dk dl_82_0_ok 12 rfl) (by decide +kernel))))
  (x_Lok (x_st (I := xI) (xr_iload_n (i := 2) (x_dk dl_82_0_ok 13 rfl))))))))
  (x_Tok2
  (x_Tok2
  (x_Tok2
  (x_Lok (x_st (I := xI) (xr_tswB (dflt := 49) (lo := 0) (hi := 3) (offs := #[29, 34, 39, 44]) (len := 29) (n := 4) (x_dk dl_82_0_ok 14 rfl) (by decide) (by decide +kernel))))
  (x_Tok2
  (x_Lok (x_st (I := xI) (xr_aload_n (i := 3) (x_dk dl_82_0_ok 15 rfl))))
  (x_Lok (x_st (I := xI) (xr_getf (ci := 10) (k := 1) (ix := 342) (N := 21) (C := RX10) (T := TX10) rfl in_X10 (by decide) (in_t3 (List.mem_of_getElem? (i := 13) rfl) rfl) (x_dk dl_82_0_ok 16 rfl))))))
  (x_Tok2
  (x_Tok2
  (x_Lok (x_rt (I := xI) (k := 1) ⟨(x_dk dl_82_0_ok 17 rfl), rfl⟩))
  (x_Lok (x_st (I := xI) (xr_aload_n (i := 3) (x_dk dl_82_0_ok 18 rfl)))))
  (x_Tok2
  (x_Lok (x_st (I := xI) (xr_getf (ci := 10) (k := 2) (ix := 345) (N := 21) (C := RX10) (T := TX10) rfl in_X10 (by decide) (in_t3 (List.mem_of_getElem? (i := 16) rfl) rfl) (x_dk dl_82_0_ok 19 rfl))))
  (x_Lok (x_rt (I := xI) (k := 1) ⟨(x_dk dl_82_0_ok 20 rfl), rfl⟩)))))
  (x_Tok2
  (x_Tok2
  (x_Tok2
  (x_Lok (x_st (I := xI) (xr_aload_n (i := 3) (x_dk dl_82_0_ok 21 rfl))))
  (x_Lok (x_st (I := xI) (xr_getf (ci := 10) (k := 5) (ix := 348) (N := 21) (C := RX10) (T := TX10) rfl in_X10 (by decide) (in_t3 (List.mem_of_getElem? (i := 24) rfl) rfl) (x_dk dl_82_0_ok 22 rfl)))))
  (x_Tok2
  (x_Lok (x_rt (I := xI) (k := 1) ⟨(x_dk dl_82_0_ok 23 rfl), rfl⟩))
  (x_Lok (x_st (I := xI) (xr_aload_n (i := 3) (x_dk dl_82_0_ok 24 rfl))))))
  (x_Tok2
  (x_Tok2
  (x_Lok (x_st (I := xI) (xr_getf (ci := 10) (k := 4) (ix := 351) (N := 21) (C := RX10) (T := TX10) rfl in_X10 (by decide) (in_t3 (List.mem_of_getElem? (i := 21) rfl) rfl) (x_dk dl_82_0_ok 25 rfl))))
  (x_Lok (x_rt (I := xI) (k := 1) ⟨(x_dk dl_82_0_ok 26 rfl), rfl⟩)))
  (x_Tok2
  (x_Lok (x_st (I := xI) (xr_iconst (n := (-1)) (z := (-1)) (v := (-1)) (x_dk dl_82_0_ok 27 rfl) (by decide) (by decide))))
  (x_Lok (x_rt (I := xI) (k := 1) ⟨(x_dk dl_82_0_ok 28 rfl), rfl⟩)))))))
def tb_82 : Nat → xE := tb_82_0
theorem tb_82_ok (K : xKx) (hK : x_KP K) : ∀ pc, x_EOq cls K xI m_82 pc (tb_82 pc) := tb_82_0_ok K hK
def dl_83_0 : List (Nat × Instr × Nat) := [(0, .aload_n 0, 1), (1, .iload_n 1, 1), (2, .invokevirtual 103, 3), (5, .ifCond .eq 25, 3), (30, .iconst (-1), 1), (31, .ireturn, 1)]
set_option maxRecDepth 20000 in
theorem dl_83_0_ok : dl_83_0.all (fun q => decide (decode prog_1_method_44_code q.1 = .ok (q.2.1, q.2.2))) = true := by decide +kernel
def tb_83_0 : Nat → xE := (x_T 2 (x_T 0 (x_L 0 (0, xi_load 0 2 1, 0, 0)) (x_T 1 (x_L 1 (0, xi_load 1 0 2, 0, 0)) (x_L 2 (2, x_nof, 97, 2)))) (x_T 5 (x_L 5 (0, xi_if1 0 30 8, 0, 0)) (x_T 30 (x_L 30 (0, xi_push (0, (-1), (-1)) 31, 0, 0)) (x_L 31 (1, x_nof, 1, 0)))))
set_option maxRecDepth 20000 in
set_option maxHeartbeats 4000000 in
theorem tb_83_0_ok (K : xKx) (hK : x_KP K) : ∀ pc, x_EOq cls K xI m_83 pc (tb_83_0 pc) :=
  (x_Tok2
  (x_Tok2
  (x_Lok (x_st (I := xI) (xr_aload_n (i := 0) (x_dk dl_83_0_ok 0 rfl))))
  (x_Tok2
  (x_Lok (x_st (I := xI) (xr_iload_n (i := 1) (x_dk dl_83_0_ok 1 rfl))))
  (x_Lok (x_ca (I := xI) (q' := m_97) rfl (xr_callV (q' := m_97) (ix := 103) (n := 1) (in_t4 (List.mem_of_getElem? (i := 184) rfl) rfl) good_w (in_t1 (List.mem_of_getElem? (i := 1) rfl) rfl) (in_t4 (List.mem_of_getElem? (i := 181) rfl) rfl) (in_t4 (List.mem_of_getElem? (i := 183) rfl) rfl) (in_s1 (List.mem_of_getElem? (i := 8) rfl)) (by decide +kernel) (by decide +kernel) (by decide +kernel) (x_dk dl_83_0_ok 2 rfl))))))
  (x_Tok2
  (x_Lok (x_st (I := xI) (xr_ifeq (off := 25) (tg := 30) (x_dk dl_83_0_ok 3 rfl) (by decide))))
  (x_Tok2
  (x_Lok (x_st (I := xI) (xr_iconst (n := (-1)) (z := (-1)) (v := (-1)) (x_dk dl_83_0_ok 4 rfl) (by decide) (by decide))))
  (x_Lok (x_rt (I := xI) (k := 1) ⟨(x_dk dl_83_0_ok 5 rfl), rfl⟩)))))
def tb_83 : Nat → xE := tb_83_0
theorem tb_83_ok (K : xKx) (hK : x_KP K) : ∀ pc, x_EOq cls K xI m_83 pc (tb_83 pc) := tb_83_0_ok K hK
def dl_84_0 : List (Nat × Instr × Nat) := [(0, .iload_n 1, 1), (1, .invokestatic 178, 3), (4, .ifCond .ne 5, 3), (7, .iconst (-1), 1), (8, .ireturn, 1), (9, .iload_n 2, 1), (10, .tableswitch 56 0 2 #[26, 36, 46], 26), (36, .aload_n 0, 1), (37, .getfield 32, 3), (40, .getfield 360, 3), (43, .iload_n 1, 1), (44, .iaload, 1), (45, .ireturn, 1), (46, .aload_n 0, 1), (47, .getfield 32, 3), (50, .getfield 362, 3), (53, .iload_n 1, 1), (54, .iaload, 1), (55, .ireturn, 1), (56, .aload_n 0, 1), (57, .getfield 32, 3), (60, .getfield 365, 3), (63, .iload_n 1, 1), (64, .iaload, 1), (65, .ireturn, 1), (66, .iconst (-1), 1), (67, .ireturn, 1)]
set_option maxRecDepth 20000 in
theorem dl_84_0_ok : dl_84_0.all (fun q => decide (decode prog_1_method_45_code q.1 = .ok (q.2.1, q.2.2))) = true := by decide +kernel
def tb_84_0 : Nat → xE := (x_T 45 (x_T 9 (x_T 4 (x_T 0 (x_L 0 (0, xi_load 1 0 1, 0, 0)) (x_T 1 (x_L 1 (2, x_nof, 96, 1)) (x_L 4 (0, xi_if1 1 9 7, 0, 0)))) (x_T 7 (x_L 7 (0, xi_push (0, (-1), (-1)) 8, 0, 0)) (x_T 8 (x_L 8 (1, x_nof, 1, 0)) (x_L 9 (0, xi_load 2 0 10, 0, 0))))) (x_T 37 (x_T 10 (x_L 10 (0, xi_sw [((-2147483648), (-1), 66), (0, 0, 36), (1, 1, 46), (2, 2, 56), (3, 2147483647, 66)], 0, 0)) (x_T 36 (x_L 36 (0, xi_load 0 2 37, 0, 0)) (x_L 37 (0, xi_getf 11 3 40, 0, 0)))) (x_T 43 (x_T 40 (x_L 40 (0, xi_getf 7 1 43, 0, 0)) (x_L 43 (0, xi_load 1 0 44, 0, 0))) (x_T 44 (x_L 44 (0, xi_ald false 45, 0, 0)) (x_L 45 (1, x_nof, 1, 0)))))) (x_T 56 (x_T 50 (x_T 46 (x_L 46 (0, xi_load 0 2 47, 0, 0)) (x_T 47 (x_L 47 (0, xi_getf 11 3 50, 0, 0)) (x_L 50 (0, xi_getf 7 0 53, 0, 0)))) (x_T 54 (x_T 53 (x_L 53 (0, xi_load 1 0 54, 0, 0)) (x_L 54 (0, xi_ald false 55, 0, 0))) (x_T 55 (x_L 55 (1, x_nof, 1, 0)) (x_L 56 (0, xi_load 0 2 57, 0, 0))))) (x_T 63 (x_T 57 (x_L 57 (0, xi_getf 11 3 60, 0, 0)) (x_T 60 (x_L 60 (0, xi_getf 7 2 63, 0, 0)) (x_L 63 (0, xi_load 1 0 64, 0, 0)))) (x_T 65 (x_T 64 (x_L 64 (0, xi_ald false 65, 0, 0)) (x_L 65 (1, x_nof, 1, 0))) (x_T 66 (x_L 66 (0, xi_push (0, (-1), (-1)) 67, 0, 0)) (x_L 67 (1, x_nof, 1, 0)))))))
set_option maxRecDepth 20000 in
set_option maxHeartbeats 4000000 in
theorem tb_84_0_ok (K : xKx) (hK : x_KP K) : ∀ pc, x_EOq cls K xI m_84 pc (tb_84_0 pc) :=
  (x_Tok2
  (x_Tok2
  (x_Tok2
  (x_Tok2
  (x_Lok (x_st (I := xI) (xr_iload_n (i := 1) (x_dk dl_84_0_ok 0 rfl))))
  (x_Tok2
  (x_Lok (x_ca (I := xI) (q' := m_96) rfl (xr_callS (q' := m_96) (ix := 178) (n := 1) (in_t5 (List.mem_of_getElem? (i := 22) rfl) rfl) good_w (in_t1 (List.mem_of_getElem? (i := 1) rfl) rfl) (in_t5 (List.mem_of_getElem? (i := 20) rfl) rfl) (in_t5 (List.mem_of_getElem? (i := 21) rfl) rfl) (by decide +kernel) (by decide +kernel) (x_dk dl_84_0_ok 1 rfl))))
  (x_Lok (x_st (I := xI) (xr_ifne (off := 5) (tg := 9) (x_dk dl_84_0_ok 2 rfl) (by decide))))))
  (x_Tok2
  (x_Lok (x_st (I := xI) (xr_iconst (n := (-1)) (z := (-1)) (v := (-1)) (x_dk dl_84_0_ok 3 rfl) (by decide) (by decide))))
  (x_Tok2
  (x_Lok (x_rt (I := xI) (k := 1) ⟨(x_dk dl_84_0_ok 4 rfl), rfl⟩))
  (x_Lok (x_st (I := xI) (xr_iload_n (i := 2) (x_dk dl_84_0_ok 5 rfl)))))))
  (x_Tok2
  (x_Tok2
  (x_Lok (x_st (I := xI) (xr_tswB (dflt := 56) (lo := 0) (hi := 2) (offs := #[26, 36, 46]) (len := 26) (n := 3) (x_dk dl_84_0_ok 6 rfl) (by decide) (by decide +kernel))))
  (x_Tok2
  (x_Lok (x_st (I := xI) (xr_aload_n (i := 0) (x_dk dl_84_0_ok 7 rfl))))
  (x_Lok (x_st (I := xI) (xr_getf (ci := 11) (k := 3) (ix := 32) (N := 15) (C := RX11) (T := TX11) rfl in_X11 (by decide) (in_t4 (List.mem_of_getElem? (i := 111) rfl) rfl) (x_dk dl_84_0_ok 8 rfl))))))
  (x_Tok2
  (x_Tok2
  (x_Lok (x_st (I := xI) (xr_getf (ci := 7) (k := 1) (ix := 360) (N := 8) (C := RX7) (T := TX7) rfl in_X7 (by decide) (in_t1 (List.mem_of_getElem? (i := 140) rfl) rfl) (x_dk dl_84_0_ok 9 rfl))))
  (x_Lok (x_st (I := xI) (xr_iload_n (i := 1) (x_dk dl_84_0_ok 10 rfl)))))
  (x_Tok2
  (x_Lok (x_st (I := xI) (xr_iaload (x_dk dl_84_0_ok 11 rfl))))
  (x_Lok (x_rt (I := xI) (k := 1) ⟨(x_dk dl_84_0_ok 12 rfl), rfl⟩))))))
  (x_Tok2
  (x_Tok2
  (x_Tok2
  (x_Lok (x_st (I := xI) (xr_aload_n (i := 0) (x_dk dl_84_0_ok 13 rfl))))
  (x_Tok2
  (x_Lok (x_st (I := xI) (xr_getf (ci := 11) (k := 3) (ix := 32) (N := 15) (C := RX11) (T := TX11) rfl in_X11 (by decide) (in_t4 (List.mem_of_getElem? (i := 111) rfl) rfl) (x_dk dl_84_0_ok 14 rfl))))
  (x_Lok (x_st (I := xI) (xr_getf (ci := 7) (k := 0) (ix := 362) (N := 8) (C := RX7) (T := TX7) rfl in_X7 (by decide) (in_t1 (List.mem_of_getElem? (i := 137) rfl) rfl) (x_dk dl_84_0_ok 15 rfl))))))
  (x_Tok2
  (x_Tok2
  (x_Lok (x_st (I := xI) (xr_iload_n (i := 1) (x_dk dl_84_0_ok 16 rfl))))
  (x_Lok (x_st (I := xI) (xr_iaload (x_dk dl_84_0_ok 17 rfl)))))
  (x_Tok2
  (x_Lok (x_rt (I := xI) (k := 1) ⟨(x_dk dl_84_0_ok 18 rfl), rfl⟩))
  (x_Lok (x_st (I := xI) (xr_aload_n (i := 0) (x_dk dl_84_0_ok 19 rfl)))))))
  (x_Tok2
  (x_Tok2
  (x_Lok (x_st (I := xI) (xr_getf (ci := 11) (k := 3) (ix := 32) (N := 15) (C := RX11) (T := TX11) rfl in_X11 (by decide) (in_t4 (List.mem_of_getElem? (i := 111) rfl) rfl) (x_dk dl_84_0_ok 20 rfl))))
  (x_Tok2
  (x_Lok (x_st (I := xI) (xr_getf (ci := 7) (k := 2) (ix := 365) (N := 8) (C := RX7) (T := TX7) rfl in_X7 (by decide) (in_t1 (List.mem_of_getElem? (i := 143) rfl) rfl) (x_dk dl_84_0_ok 21 rfl))))
  (x_Lok (x_st (I := xI) (xr_iload_n (i := 1) (x_dk dl_84_0_ok 22 rfl))))))
  (x_Tok2
  (x_Tok2
  (x_Lok (x_st (I := xI) (xr_iaload (x_dk dl_84_0_ok 23 rfl))))
  (x_Lok (x_rt (I := xI) (k := 1) ⟨(x_dk dl_84_0_ok 24 rfl), rfl⟩)))
  (x_Tok2
  (x_Lok (x_st (I := xI) (xr_iconst (n := (-1)) (z := (-1)) (v := (-1)) (x_dk dl_84_0_ok 25 rfl) (by decide) (by decide))))
  (x_Lok (x_rt (I := xI) (k := 1) ⟨(x_dk dl_84_0_ok 26 rfl), rfl⟩)))))))
def tb_84 : Nat → xE := tb_84_0
theorem tb_84_ok (K : xKx) (hK : x_KP K) : ∀ pc, x_EOq cls K xI m_84 pc (tb_84 pc) := tb_84_0_ok K hK
def dl_85_0 : List (Nat × Instr × Nat) := [(0, .iload_n 1, 1), (1, .iconst 0, 1), (2, .bipush 7, 2), (4, .invokestatic 82, 3), (7, .ifCond .eq 15, 3), (10, .aload_n 0, 1), (11, .getfield 19, 3), (14, .getfield 368, 3), (17, .iload_n 1, 1), (18, .iaload, 1), (19, .goto 4, 3), (22, .iconst (-1), 1), (23, .ireturn, 1)]
set_option maxRecDepth 20000 in
theorem dl_85_0_ok : dl_85_0.all (fun q => decide (decode prog_1_method_46_code q.1 = .ok (q.2.1, q.2.2))) = true := by decide +kernel
def tb_85_0 : Nat → xE := (x_T 10 (x_T 2 (x_T 0 (x_L 0 (0, xi_load 1 0 1, 0, 0)) (x_T 1 (x_L 1 (0, xi_push (0, 0, 0) 2, 0, 0)) (x_L 2 (0, xi_push (0, 7, 7) 4, 0, 0)))) (x_T 4 (x_L 4 (2, x_nof, 93, 3)) (x_T 7 (x_L 7 (0, xi_if1 0 22 10, 0, 0)) (x_L 10 (0, xi_load 0 2 11, 0, 0))))) (x_T 17 (x_T 11 (x_L 11 (0, xi_getf 11 1 14, 0, 0)) (x_T 14 (x_L 14 (0, xi_getf 3 5 17, 0, 0)) (x_L 17 (0, xi_load 1 0 18, 0, 0)))) (x_T 19 (x_T 18 (x_L 18 (0, xi_ald false 19, 0, 0)) (x_L 19 (0, xi_goto 23, 0, 0))) (x_T 22 (x_L 22 (0, xi_push (0, (-1), (-1)) 23, 0, 0)) (x_L 23 (1, x_nof, 1, 0))))))
set_option maxRecDepth 20000 in
set_option maxHeartbeats 4000000 in
theorem tb_85_0_ok (K : xKx) (hK : x_KP K) : ∀ pc, x_EOq cls K xI m_85 pc (tb_85_0 pc) :=
  (x_Tok2
  (x_Tok2
  (x_Tok2
  (x_Lok (x_st (I := xI) (xr_iload_n (i := 1) (x_dk dl_85_0_ok 0 rfl))))
  (x_Tok2
  (x_Lok (x_st (I := xI) (xr_iconst (n := 0) (z := 0) (v := 0) (x_dk dl_85_0_ok 1 rfl) (by decide) (by decide))))
  (x_Lok (x_st (I := xI) (xr_bipush (n := 7) (z := 7) (v := 7) (x_dk dl_85_0_ok 2 rfl) (by decide) (by decide))))))
  (x_Tok2
  (x_Lok (x_ca (I := xI) (q' := m_93) rfl (xr_callS (q' := m_93) (ix := 82) (n := 3) (in_t4 (List.mem_of_getElem? (i := 168) rfl) rfl) good_w (in_t1 (List.mem_of_getElem? (i := 1) rfl) rfl) (in_t4 (List.mem_of_getElem? (i := 166) rfl) rfl) (in_t4 (List.mem_of_getElem? (i := 167) rfl) rfl) (by decide +kernel) (by decide +kernel) (x_dk dl_85_0_ok 3 rfl))))
  (x_Tok2
  (x_Lok (x_st (I := xI) (xr_ifeq (off := 15) (tg := 22) (x_dk dl_85_0_ok 4 rfl) (by decide))))
  (x_Lok (x_st (I := xI) (xr_aload_n (i := 0) (x_dk dl_85_0_ok 5 rfl)))))))
  (x_Tok2
  (x_Tok2
  (x_Lok (x_st (I := xI) (xr_getf (ci := 11) (k := 1) (ix := 19) (N := 15) (C := RX11) (T := TX11) rfl in_X11 (by decide) (in_t4 (List.mem_of_getElem? (i := 109) rfl) rfl) (x_dk dl_85_0_ok 6 rfl))))
  (x_Tok2
  (x_Lok (x_st (I := xI) (xr_getf (ci := 3) (k := 5) (ix := 368) (N := 12) (C := RX3) (T := TX3) rfl in_X3 (by decide) (in_t3 (List.mem_of_getElem? (i := 99) rfl) rfl) (x_dk dl_85_0_ok 7 rfl))))
  (x_Lok (x_st (I := xI) (xr_iload_n (i := 1) (x_dk dl_85_0_ok 8 rfl))))))
  (x_Tok2
  (x_Tok2
  (x_Lok (x_st (I := xI) (xr_iaload (x_dk dl_85_0_ok 9 rfl))))
  (x_Lok (x_st (I := xI) (xr_goto (off := 4) (tg := 23) (x_dk dl_85_0_ok 10 rfl) (by decide)))))
  (x_Tok2
  (x_Lok (x_st (I := xI) (xr_iconst (n := (-1)) (z := (-1)) (v := (-1)) (x_dk dl_85_0_ok 11 rfl) (by decide) (by decide))))
  (x_Lok (x_rt (I := xI) (k := 1) ⟨(x_dk dl_85_0_ok 12 rfl), rfl⟩))))))
def tb_85 : Nat → xE := tb_85_0
theorem tb_85_ok (K : xKx) (hK : x_KP K) : ∀ pc, x_EOq cls K xI m_85 pc (tb_85 pc) := tb_85_0_ok K hK
def dl_86_0 : List (Nat × Instr × Nat) := [(0, .iload_n 1, 1), (1, .iconst 0, 1), (2, .aload_n 0, 1), (3, .getfield 37, 3), (6, .getfield 371, 3), (9, .iconst 1, 1), (10, .isub, 1), (11, .invokestatic 82, 3), (14, .ifCond .ne 5, 3), (17, .iconst (-1), 1), (18, .ireturn, 1)]
set_option maxRecDepth 20000 in
theorem dl_86_0_ok : dl_86_0.all (fun q => decide (decode prog_1_method_47_code q.1 = .ok (q.2.1, q.2.2))) = true := by decide +kernel
def tb_86_0 : Nat → xE := (x_T 6 (x_T 1 (x_T 0 (x_L 0 (0, xi_load 1 0 1, 0, 0)) (x_L 1 (0, xi_push (0, 0, 0) 2, 0, 0))) (x_T 2 (x_L 2 (0, xi_load 0 2 3, 0, 0)) (x_T 3 (x_L 3 (0, xi_getf 11 4 6, 0, 0)) (x_L 6 (0, xi_getf 4 1 9, 0, 0))))) (x_T 11 (x_T 9 (x_L 9 (0, xi_push (0, 1, 1) 10, 0, 0)) (x_T 10 (x_L 10 (0, xi_bin xF_sub 11, 0, 0)) (x_L 11 (2, x_nof, 93, 3)))) (x_T 14 (x_L 14 (0, xi_if1 1 19 17, 0, 0)) (x_T 17 (x_L 17 (0, xi_push (0, (-1), (-1)) 18, 0, 0)) (x_L 18 (1, x_nof, 1, 0))))))
set_option maxRecDepth 20000 in
set_option maxHeartbeats 4000000 in
theorem tb_86_0_ok (K : xKx) (hK : x_KP K) : ∀ pc, x_EOq cls K xI m_86 pc (tb_86_0 pc) :=
  (x_Tok2
  (x_Tok2
  (x_Tok2
  (x_Lok (x_st (I := xI) (xr_iload_n (i := 1) (x_dk dl_86_0_ok 0 rfl))))
  (x_Lok (x_st (I := xI) (xr_iconst (n := 0) (z := 0) (v := 0) (x_dk dl_86_0_ok 1 rfl) (by decide) (by decide)))))
  (x_Tok2
  (x_Lok (x_st (I := xI) (xr_aload_n (i := 0) (x_dk dl_86_0_ok 2 rfl))))
  (x_Tok2
  (x_Lok (x_st (I := xI) (xr_getf (ci := 11) (k := 4) (ix := 37) (N := 15) (C := RX11) (T := TX11) rfl in_X11 (by decide) (in_t4 (List.mem_of_getElem? (i := 112) rfl) rfl) (x_dk dl_86_0_ok 3 rfl))))
  (x_Lok (x_st (I := xI) (xr_getf (ci := 4) (k := 1) (ix := 371) (N := 20) (C := RX4) (T := TX4) rfl in_X4 (by decide) (in_t1 (List.mem_of_getElem? (i := 178) rfl) rfl) (x_dk dl_86_0_ok 4 rfl)))))))
  (x_Tok2
  (x_Tok2
  (x_Lok (x_st (I := xI) (xr_iconst (n := 1) (z := 1) (v := 1) (x_dk dl_86_0_ok 5 rfl) (by decide) (by decide))))
  (x_Tok2
  (x_Lok (x_st (I := xI) (xr_isub (x_dk dl_86_0_ok 6 rfl))))
  (x_Lok (x_ca (I := xI) (q' := m_93) rfl (xr_callS (q' := m_93) (ix := 82) (n := 3) (in_t4 (List.mem_of_getElem? (i := 168) rfl) rfl) good_w (in_t1 (List.mem_of_getElem? (i := 1) rfl) rfl) (in_t4 (List.mem_of_getElem? (i := 166) rfl) rfl) (in_t4 (List.mem_of_getElem? (i := 167) rfl) rfl) (by decide +kernel) (by decide +kernel) (x_dk dl_86_0_ok 7 rfl))))))
  (x_Tok2
  (x_Lok (x_st (I := xI) (xr_ifne (off := 5) (tg := 19) (x_dk dl_86_0_ok 8 rfl) (by decide))))
  (x_Tok2
  (x_Lok (x_st (I := xI) (xr_iconst (n := (-1)) (z := (-1)) (v := (-1)) (x_dk dl_86_0_ok 9 rfl) (by decide) (by decide))))
  (x_Lok (x_rt (I := xI) (k := 1) ⟨(x_dk dl_86_0_ok 10 rfl), rfl⟩))))))
def tb_86 : Nat → xE := tb_86_0
theorem tb_86_ok (K : xKx) (hK : x_KP K) : ∀ pc, x_EOq cls K xI m_86 pc (tb_86 pc) := tb_86_0_ok K hK
def dl_87_0 : List (Nat × Instr × Nat) := [(0, .iload_n 1, 1), (1, .tableswitch 71 0 3 #[31, 47, 55, 63], 31), (32, .aload_n 0, 1), (33, .getfield 42, 3), (36, .getfield 274, 3), (39, .ifCond .eq 7, 3), (46, .iconst 0, 1), (47, .ireturn, 1), (48, .aload_n 0, 1), (49, .getfield 42, 3), (52, .getfield 385, 3), (55, .ireturn, 1), (56, .aload_n 0, 1), (57, .getfield 42, 3), (60, .getfield 388, 3), (63, .ireturn, 1), (64, .aload_n 0, 1), (65, .getfield 42, 3), (68, .getfield 391, 3), (71, .ireturn, 1), (72, .iload_n 1, 1), (73, .iconst 4, 1), (74, .iconst 3, 1), (75, .aload_n 0, 1), (76, .getfield 42, 3), (79, .getfield 204, 3), (82, .iadd, 1), (83, .invokestatic 82, 3), (86, .ifCond .eq 16, 3), (102, .iconst (-1), 1), (103, .ireturn, 1)]
set_option maxRecDepth 20000 in
theorem dl_87_0_ok : dl_87_0.all (fun q => decide (decode prog_1_method_48_code q.1 = .ok (q.2.1, q.2.2))) = true := by decide +kernel
def tb_87_0 : Nat → xE := (x_T 60 (x_T 46 (x_T 32 (x_T 0 (x_L 0 (0, xi_load 1 0 1, 0, 0)) (x_T 1 (x_L 1 (0, xi_sw [((-2147483648), (-1), 72), (0, 0, 32), (1, 1, 48), (2, 2, 56), (3, 3, 64), (4, 2147483647, 72)], 0, 0)) (x_L 32 (0, xi_load 0 2 33, 0, 0)))) (x_T 36 (x_T 33 (x_L 33 (0, xi_getf 11 5 36, 0, 0)) (x_L 36 (0, xi_getf 2 3 39, 0, 0))) (x_T 39 (x_L 39 (0, xi_if1 0 46 42, 0, 0)) (x_L 46 (0, xi_push (0, 0, 0) 47, 0, 0))))) (x_T 52 (x_T 48 (x_T 47 (x_L 47 (1, x_nof, 1, 0)) (x_L 48 (0, xi_load 0 2 49, 0, 0))) (x_T 49 (x_L 49 (0, xi_getf 11 5 52, 0, 0)) (x_L 52 (0, xi_getf 2 4 55, 0, 0)))) (x_T 56 (x_T 55 (x_L 55 (1, x_nof, 1, 0)) (x_L 56 (0, xi_load 0 2 57, 0, 0))) (x_T 57 (x_L 57 (0, xi_getf 11 5 60, 0, 0)) (x_L 60 (0, xi_getf 2 5 63, 0, 0)))))) (x_T 74 (x_T 68 (x_T 64 (x_T 63 (x_L 63 (1, x_nof, 1, 0)) (x_L 64 (0, xi_load 0 2 65, 0, 0))) (x_T 65 (x_L 65 (0, xi_getf 11 5 68, 0, 0)) (x_L 68 (0, xi_getf 2 6 71, 0, 0)))) (x_T 72 (x_T 71 (x_L 71 (1, x_nof, 1, 0)) (x_L 72 (0, xi_load 1 0 73, 0, 0))) (x_T 73 (x_L 73 (0, xi_push (0, 4, 4) 74, 0, 0)) (x_L 74 (0, xi_push (0, 3, 3) 75, 0, 0))))) (x_T 82 (x_T 76 (x_T 75 (x_L 75 (0, xi_load 0 2 76, 0, 0)) (x_L 76 (0, xi_getf 11 5 79, 0, 0))) (x_T 79 (x_L 79 (0, xi_getf 2 2 82, 0, 0)) (x_L 82 (0, xi_bin xF_add 83, 0, 0)))) (x_T 86 (x_T 83 (x_L 83 (2, x_nof, 93, 3)) (x_L 86 (0, xi_if1 0 102 89, 0, 0))) (x_T 102 (x_L 102 (0, xi_push (0, (-1), (-1)) 103, 0, 0)) (x_L 103 (1, x_nof, 1, 0)))))))
set_option maxRecDepth 20000 in
set_option maxHeartbeats 4000000 in
theorem tb_87_0_ok (K : xKx) (hK : x_KP K) : ∀ pc, x_EOq cls K xI m_87 pc (tb_87_0 pc) :=
  (x_Tok2
  (x_Tok2
  (x_Tok2
  (x_Tok2
  (x_Lok (x_st (I := xI) (xr_iload_n (i := 1) (x_dk dl_87_0_ok 0 rfl))))
  (x_Tok2
  (x_Lok (x_st (I := xI) (xr_tswB (dflt := 71) (lo := 0) (hi := 3) (offs := #[31, 47, 55, 63]) (len := 31) (n := 4) (x_dk dl_87_0_ok 1 rfl) (by decide) (by decide +kernel))))
  (x_Lok (x_st (I := xI) (xr_aload_n (i := 0) (x_dk dl_87_0_ok 2 rfl))))))
  (x_Tok2
  (x_Tok2
  (x_Lok (x_st (I := xI) (xr_getf (ci := 11) (k := 5) (ix := 42) (N := 15) (C := RX11) (T := TX11) rfl in_X11 (by decide) (in_t4 (List.mem_of_getElem? (i := 113) rfl) rfl) (x_dk dl_87_0_ok 3 rfl))))
  (x_Lok (x_st (I := xI) (xr_getf (ci := 2) (k := 3) (ix := 274) (N := 15) (C := RX2) (T := TX2) rfl in_X2 (by decide) (in_t2 (List.mem_of_getElem? (i := 21) rfl) rfl) (x_dk dl_87_0_ok 4 rfl)))))
  (x_Tok2
  (x_Lok (x_st (I := xI) (xr_ifeq (off := 7) (tg := 46) (x_dk dl_87_0_ok 5 rfl) (by decide))))
  (x_Lok (x_st (I := xI) (xr_iconst (n := 0) (z := 0) (v := 0) (x_dk dl_87_0_ok 6 rfl) (by decide) (by decide)))))))
  (x_Tok2
  (x_Tok2
  (x_Tok2
  (x_Lok (x_rt (I := xI) (k := 1) ⟨(x_dk dl_87_0_ok 7 rfl), rfl⟩))
  (x_Lok (x_st (I := xI) (xr_aload_n (i := 0) (x_dk dl_87_0_ok 8 rfl)))))
  (x_Tok2
  (x_Lok (x_st (I := xI) (xr_getf (ci := 11) (k := 5) (ix := 42) (N := 15) (C := RX11) (T := TX11) rfl in_X11 (by decide) (in_t4 (List.mem_of_getElem? (i := 113) rfl) rfl) (x_dk dl_87_0_ok 9 rfl))))
  (x_Lok (x_st (I := xI) (xr_getf (ci := 2) (k := 4) (ix := 385) (N := 15) (C := RX2) (T := TX2) rfl in_X2 (by decide) (in_t2 (List.mem_of_getElem? (i := 23) rfl) rfl) (x_dk dl_87_0_ok 10 rfl))))))
  (x_Tok2
  (x_Tok2
  (x_Lok (x_rt (I := xI) (k := 1) ⟨(x_dk dl_87_0_ok 11 rfl), rfl⟩))
  (x_Lok (x_st (I := xI) (xr_aload_n (i := 0) (x_dk dl_87_0_ok 12 rfl)))))
  (x_Tok2
  (x_Lok (x_st (I := xI) (xr_getf (ci := 11) (k := 5) (ix := 42) (N := 15) (C := RX11) (T := TX11) rfl in_X11 (by decide) (in_t4 (List.mem_of_getElem? (i := 113) rfl) rfl) (x_dk dl_87_0_ok 13 rfl))))
  (x_Lok (x_st (I := xI) (xr_getf (ci := 2) (k := 5) (ix := 388) (N := 15) (C := RX2) (T := TX2) rfl in_X2 (by decide) (in_t2 (List.mem_of_getElem? (i := 25) rfl) rfl) (x_dk dl_87_0_ok 14 rfl))))))))
  (x_Tok2
  (x_Tok2
  (x_Tok2
  (x_Tok2
  (x_Lok (x_rt (I := xI) (k := 1) ⟨(x_dk dl_87_0_ok 15 rfl), rfl⟩))
  (x_Lok (x_st (I := xI) (xr_aload_n (i := 0) (x_dk dl_87_0_ok 16 rfl)))))
  (x_Tok2
  (x_Lok (x_st (I := xI) (xr_getf (ci := 11) (k := 5) (ix := 42) (N := 15) (C := RX11) (T := TX11) rfl in_X11 (by decide) (in_t4 (List.mem_of_getElem? (i := 113) rfl) rfl) (x_dk dl_87_0_ok 17 rfl))))
  (x_Lok (x_st (I := xI) (xr_getf (ci := 2) (k := 6) (ix := 391) (N := 15) (C := RX2) (T := TX2) rfl in_X2 (by decide) (in_t2 (List.mem_of_getElem? (i := 27) rfl) rfl) (x_dk dl_87_0_ok 18 rfl))))))
  (x_Tok2
  (x_Tok2
  (x_Lok (x_rt (I := xI) (k := 1) ⟨(x_dk dl_87_0_ok 19 rfl), rfl⟩))
  (x_Lok (x_st (I := xI) (xr_iload_n (i := 1) (x_dk dl_87_0_ok 20 rfl)))))
  (x_Tok2
  (x_Lok (x_st (I := xI) (xr_iconst (n := 4) (z := 4) (v := 4) (x_dk dl_87_0_ok 21 rfl) (by decide) (by decide))))
  (x_Lok (x_st (I := xI) (xr_iconst (n := 3) (z := 3) (v := 3) (x_dk dl_87_0_ok 22 rfl) (by decide) (by decide)))))))
  (x_Tok2
  (x_Tok2
  (x_Tok2
  (x_Lok (x_st (I := xI) (xr_aload_n (i := 0) (x_dk dl_87_0_ok 23 rfl))))
  (x_Lok (x_st (I := xI) (xr_getf (ci := 11) (k := 5) (ix := 42) (N := 15) (C := RX11) (T := TX11) rfl in_X11 (by decide) (in_t4 (List.mem_of_getElem? (i := 113) rfl) rfl) (x_dk dl_87_0_ok 24 rfl)))))
  (x_Tok2
  (x_Lok (x_st (I := xI) (xr_getf (ci := 2) (k := 2) (ix := 204) (N := 15) (C := RX2) (T := TX2) rfl in_X2 (by decide) (in_t2 (List.mem_of_getElem? (i := 18) rfl) rfl) (x_dk dl_87_0_ok 25 rfl))))
  (x_Lok (x_st (I := xI) (xr_iadd (x_dk dl_87_0_ok 26 rfl))))))
  (x_Tok2
  (x_Tok2
  (x_Lok (x_ca (I := xI) (q' := m_93) rfl (xr_callS (q' := m_93) (ix := 82) (n := 3) (in_t4 (List.mem_of_getElem? (i := 168) rfl) rfl) good_w (in_t1 (List.mem_of_getElem? (i := 1) rfl) rfl) (in_t4 (List.mem_of_getElem? (i := 166) rfl) rfl) (in_t4 (List.mem_of_getElem? (i := 167) rfl) rfl) (by decide +kernel) (by decide +kernel) (x_dk dl_87_0_ok 27 rfl))))
  (x_Lok (x_st (I := xI) (xr_ifeq (off := 16) (tg := 102) (x_dk dl_87_0_ok 28 rfl) (by decide)))))
  (x_Tok2
  (x_Lok (x_st (I := xI) (xr_iconst (n := (-1)) (z := (-1)) (v := (-1)) (x_dk dl_87_0_ok 29 rfl) (by decide) (by decide))))
  (x_Lok (x_rt (I := xI) (k := 1) ⟨(x_dk dl_87_0_ok 30 rfl), rfl⟩)))))))
def tb_87 : Nat → xE := tb_87_0
theorem tb_87_ok (K : xKx) (hK : x_KP K) : ∀ pc, x_EOq cls K xI m_87 pc (tb_87 pc) := tb_87_0_ok K hK
def dl_88_0 : List (Nat × Instr × Nat) := [(0, .aload_n 0, 1), (1, .getfield 42, 3), (4, .getfield 397, 3), (7, .ireturn, 1)]
set_option maxRecDepth 20000 in
theorem dl_88_0_ok : dl_88_0.all (fun q => decide (decode prog_1_method_49_code q.1 = .ok (q.2.1, q.2.2))) = true := by decide +kernel
def tb_88_0 : Nat → xE := (x_T 1 (x_T 0 (x_L 0 (0, xi_load 0 2 1, 0, 0)) (x_L 1 (0, xi_getf 11 5 4, 0, 0))) (x_T 4 (x_L 4 (0, xi_getf 2 1 7, 0, 0)) (x_L 7 (1, x_nof, 1, 0))))
set_option maxRecDepth 20000 in
set_option maxHeartbeats 4000000 in
theorem tb_88_0_ok (K : xKx) (hK : x_KP K) : ∀ pc, x_EOq cls K xI m_88 pc (tb_88_0 pc) :=
  (x_Tok2
  (x_Tok2
  (x_Lok (x_st (I := xI) (xr_aload_n (i := 0) (x_dk dl_88_0_ok 0 rfl))))
  (x_Lok (x_st (I := xI) (xr_getf (ci := 11) (k := 5) (ix := 42) (N := 15) (C := RX11) (T := TX11) rfl in_X11 (by decide) (in_t4 (List.mem_of_getElem? (i := 113) rfl) rfl) (x_dk dl_88_0_ok 1 rfl)))))
  (x_Tok2
  (x_Lok (x_st (I := xI) (xr_getf (ci := 2) (k := 1) (ix := 397) (N := 15) (C := RX2) (T := TX2) rfl in_X2 (by decide) (in_t2 (List.mem_of_getElem? (i := 16) rfl) rfl) (x_dk dl_88_0_ok 2 rfl))))
  (x_Lok (x_rt (I := xI) (k := 1) ⟨(x_dk dl_88_0_ok 3 rfl), rfl⟩))))
def tb_88 : Nat → xE := tb_88_0
theorem tb_88_ok (K : xKx) (hK : x_KP K) : ∀ pc, x_EOq cls K xI m_88 pc (tb_88 pc) := tb_88_0_ok K hK
def dl_89_0 : List (Nat × Instr × Nat) := [(0, .iload_n 1, 1), (1, .iconst 0, 1), (2, .aload_n 0, 1), (3, .getfield 42, 3), (6, .getfield 397, 3), (9, .sipush 2000, 3), (12, .invokestatic 258, 3), (15, .iconst 1, 1), (16, .isub, 1), (17, .invokestatic 82, 3), (20, .ifCond .eq 12, 3), (32, .iconst (-1), 1), (33, .ireturn, 1)]
set_option maxRecDepth 20000 in
theorem dl_89_0_ok : dl_89_0.all (fun q => decide (decode prog_1_method_50_code q.1 = .ok (q.2.1, q.2.2))) = true := by decide +kernel
def tb_89_0 : Nat → xE := (x_T 9 (x_T 2 (x_T 0 (x_L 0 (0, xi_load 1 0 1, 0, 0)) (x_T 1 (x_L 1 (0, xi_push (0, 0, 0) 2, 0, 0)) (x_L 2 (0, xi_load 0 2 3, 0, 0)))) (x_T 3 (x_L 3 (0, xi_getf 11 5 6, 0, 0)) (x_T 6 (x_L 6 (0, xi_getf 2 1 9, 0, 0)) (x_L 9 (0, xi_push (0, 2000, 2000) 12, 0, 0))))) (x_T 16 (x_T 12 (x_L 12 (0, xi_min (xm_c m_89) (xm_s m_89) 15, 0, 0)) (x_T 15 (x_L 15 (0, xi_push (0, 1, 1) 16, 0, 0)) (x_L 16 (0, xi_bin xF_sub 17, 0, 0)))) (x_T 20 (x_T 17 (x_L 17 (2, x_nof, 93, 3)) (x_L 20 (0, xi_if1 0 32 23, 0, 0))) (x_T 32 (x_L 32 (0, xi_push (0, (-1), (-1)) 33, 0, 0)) (x_L 33 (1, x_nof, 1, 0))))))
set_option maxRecDepth 20000 in
set_option maxHeartbeats 4000000 in
theorem tb_89_0_ok (K : xKx) (hK : x_KP K) : ∀ pc, x_EOq cls K xI m_89 pc (tb_89_0 pc) :=
  (x_Tok2
  (x_Tok2
  (x_Tok2
  (x_Lok (x_st (I := xI) (xr_iload_n (i := 1) (x_dk dl_89_0_ok 0 rfl))))
  (x_Tok2
  (x_Lok (x_st (I := xI) (xr_iconst (n := 0) (z := 0) (v := 0) (x_dk dl_89_0_ok 1 rfl) (by decide) (by decide))))
  (x_Lok (x_st (I := xI) (xr_aload_n (i := 0) (x_dk dl_89_0_ok 2 rfl))))))
  (x_Tok2
  (x_Lok (x_st (I := xI) (xr_getf (ci := 11) (k := 5) (ix := 42) (N := 15) (C := RX11) (T := TX11) rfl in_X11 (by decide) (in_t4 (List.mem_of_getElem? (i := 113) rfl) rfl) (x_dk dl_89_0_ok 3 rfl))))
  (x_Tok2
  (x_Lok (x_st (I := xI) (xr_getf (ci := 2) (k := 1) (ix := 397) (N := 15) (C := RX2) (T := TX2) rfl in_X2 (by decide) (in_t2 (List.mem_of_getElem? (i := 16) rfl) rfl) (x_dk dl_89_0_ok 4 rfl))))
  (x_Lok (x_st (I := xI) (xr_sipush (n := 2000) (z := 2000) (v := 2000) (x_dk dl_89_0_ok 5 rfl) (by decide) (by decide)))))))
  (x_Tok2
  (x_Tok2
  (x_Lok (x_st (I := xI) (xr_min (ix := 258) (in_t7 (List.mem_of_getElem? (i := 46) rfl) rfl) (in_t5 (List.mem_of_getElem? (i := 187) rfl) rfl) (in_t1 (List.mem_of_getElem? (i := 15) rfl) rfl) (in_t5 (List.mem_of_getElem? (i := 188) rfl) rfl) (x_dk dl_89_0_ok 6 rfl))))
  (x_Tok2
  (x_Lok (x_st (I := xI) (xr_iconst (n := 1) (z := 1) (v := 1) (x_dk dl_89_0_ok 7 rfl) (by decide) (by decide))))
  (x_Lok (x_st (I := xI) (xr_isub (x_dk dl_89_0_ok 8 rfl))))))
  (x_Tok2
  (x_Tok2
  (x_Lok (x_ca (I := xI) (q' := m_93) rfl (xr_callS (q' := m_93) (ix := 82) (n := 3) (in_t4 (List.mem_of_getElem? (i := 168) rfl) rfl) good_w (in_t1 (List.mem_of_getElem? (i := 1) rfl) rfl) (in_t4 (List.mem_of_getElem? (i := 166) rfl) rfl) (in_t4 (List.mem_of_getElem? (i := 167) rfl) rfl) (by decide +kernel) (by decide +kernel) (x_dk dl_89_0_ok 9 rfl))))
  (x_Lok (x_st (I := xI) (xr_ifeq (off := 12) (tg := 32) (x_dk dl_89_0_ok 10 rfl) (by decide)))))
  (x_Tok2
  (x_Lok (x_st (I := xI) (xr_iconst (n := (-1)) (z := (-1)) (v := (-1)) (x_dk dl_89_0_ok 11 rfl) (by decide) (by decide))))
  (x_Lok (x_rt (I := xI) (k := 1) ⟨(x_dk dl_89_0_ok 12 rfl), rfl⟩))))))
def tb_89 : Nat → xE := tb_89_0
theorem tb_89_ok (K : xKx) (hK : x_KP K) : ∀ pc, x_EOq cls K xI m_89 pc (tb_89 pc) := tb_89_0_ok K hK
def dl_90_0 : List (Nat × Instr × Nat) := [(0, .aload_n 0, 1), (1, .iload_n 1, 1), (2, .invokevirtual 103, 3), (5, .ifCond .eq 14, 3), (19, .iconst (-1), 1), (20, .ireturn, 1)]
set_option maxRecDepth 20000 in
theorem dl_90_0_ok : dl_90_0.all (fun q => decide (decode prog_1_method_51_code q.1 = .ok (q.2.1, q.2.2))) = true := by decide +kernel
def tb_90_0 : Nat → xE := (x_T 2 (x_T 0 (x_L 0 (0, xi_load 0 2 1, 0, 0)) (x_T 1 (x_L 1 (0, xi_load 1 0 2, 0, 0)) (x_L 2 (2, x_nof, 97, 2)))) (x_T 5 (x_L 5 (0, xi_if1 0 19 8, 0, 0)) (x_T 19 (x_L 19 (0, xi_push (0, (-1), (-1)) 20, 0, 0)) (x_L 20 (1, x_nof, 1, 0)))))
set_option maxRecDepth 20000 in
set_option maxHeartbeats 4000000 in
theorem tb_90_0_ok (K : xKx) (hK : x_KP K) : ∀ pc, x_EOq cls K xI m_90 pc (tb_90_0 pc) :=
  (x_Tok2
  (x_Tok2
  (x_Lok (x_st (I := xI) (xr_aload_n (i := 0) (x_dk dl_90_0_ok 0 rfl))))
  (x_Tok2
  (x_Lok (x_st (I := xI) (xr_iload_n (i := 1) (x_dk dl_90_0_ok 1 rfl))))
  (x_Lok (x_ca (I := xI) (q' := m_97) rfl (xr_callV (q' := m_97) (ix := 103) (n := 1) (in_t4 (List.mem_of_getElem? (i := 184) rfl) rfl) good_w (in_t1 (List.mem_of_getElem? (i := 1) rfl) rfl) (in_t4 (List.mem_of_getElem? (i := 181) rfl) rfl) (in_t4 (List.mem_of_getElem? (i := 183) rfl) rfl) (in_s1 (List.mem_of_getElem? (i := 8) rfl)) (by decide +kernel) (by decide +kernel) (by decide +kernel) (x_dk dl_90_0_ok 2 rfl))))))
  (x_Tok2
  (x_Lok (x_st (I := xI) (xr_ifeq (off := 14) (tg := 19) (x_dk dl_90_0_ok 3 rfl) (by decide))))
  (x_Tok2
  (x_Lok (x_st (I := xI) (xr_iconst (n := (-1)) (z := (-1)) (v := (-1)) (x_dk dl_90_0_ok 4 rfl) (by decide) (by decide))))
  (x_Lok (x_rt (I := xI) (k := 1) ⟨(x_dk dl_90_0_ok 5 rfl), rfl⟩)))))
def tb_90 : Nat → xE := tb_90_0
theorem tb_90_ok (K : xKx) (hK : x_KP K) : ∀ pc, x_EOq cls K xI m_90 pc (tb_90 pc) := tb_90_0_ok K hK
def dl_91_0 : List (Nat × Instr × Nat) := [(0, .iload_n 1, 1), (1, .tableswitch 122 0 8 #[51, 56, 64, 72, 80, 88, 96, 101, 109], 51), (52, .aload_n 0, 1), (53, .getfield 94, 3), (56, .ireturn, 1), (57, .aload_n 0, 1), (58, .getfield 46, 3), (61, .getfield 149, 3), (64, .ireturn, 1), (65, .aload_n 0, 1), (66, .getfield 37, 3), (69, .getfield 167, 3), (72, .ireturn, 1), (73, .aload_n 0, 1), (74, .getfield 37, 3), (77, .getfield 371, 3), (80, .ireturn, 1), (81, .aload_n 0, 1), (82, .getfield 46, 3), (85, .getfield 198, 3), (88, .ireturn, 1), (89, .aload_n 0, 1), (90, .getfield 42, 3), (93, .getfield 204, 3), (96, .ireturn, 1), (97, .aload_n 0, 1), (98, .getfield 246, 3), (101, .ireturn, 1), (102, .aload_n 0, 1), (103, .getfield 10, 3), (106, .getfield 74, 3), (109, .ireturn, 1), (110, .aload_n 0, 1), (111, .getfield 91, 3), (114, .ifCond .eq 7, 3), (121, .iconst 0, 1), (122, .ireturn, 1), (123, .iconst (-1), 1), (124, .ireturn, 1)]
set_option maxRecDepth 20000 in
theorem dl_91_0_ok : dl_91_0.all (fun q => decide (decode prog_1_method_52_code q.1 = .ok (q.2.1, q.2.2))) = true := by decide +kernel
def tb_91_0 : Nat → xE := (x_T 82 (x_T 64 (x_T 53 (x_T 1 (x_T 0 (x_L 0 (0, xi_load 1 0 1, 0, 0)) (x_L 1 (0, xi_sw [((-2147483648), (-1), 123), (0, 0, 52), (1, 1, 57), (2, 2, 65), (3, 3, 73), (4, 4, 81), (5, 5, 89), (6, 6, 97), (7, 7, 102), (8, 8, 110), (9, 2147483647, 123)], 0, 0))) (x_T 52 (x_L 52 (0, xi_load 0 2 53, 0, 0)) (x_L 53 (0, xi_getf 11 11 56, 0, 0)))) (x_T 57 (x_T 56 (x_L 56 (1, x_nof, 1, 0)) (x_L 57 (0, xi_load 0 2 58, 0, 0))) (x_T 58 (x_L 58 (0, xi_getf 11 6 61, 0, 0)) (x_T 61 (x_L 61 (0, xi_getf 9 0 64, 0, 0)) (x_L 64 (1, x_nof, 1, 0)))))) (x_T 73 (x_T 66 (x_T 65 (x_L 65 (0, xi_load 0 2 66, 0, 0)) (x_L 66 (0, xi_getf 11 4 69, 0, 0))) (x_T 69 (x_L 69 (0, xi_getf 4 0 72, 0, 0)) (x_T 72 (x_L 72 (1, x_nof, 1, 0)) (x_L 73 (0, xi_load 0 2 74, 0, 0))))) (x_T 77 (x_T 74 (x_L 74 (0, xi_getf 11 4 77, 0, 0)) (x_L 77 (0, xi_getf 4 1 80, 0, 0))) (x_T 80 (x_L 80 (1, x_nof, 1, 0)) (x_T 81 (x_L 81 (0, xi_load 0 2 82, 0, 0)) (x_L 82 (0, xi_getf 11 6 85, 0, 0))))))) (x_T 102 (x_T 93 (x_T 88 (x_T 85 (x_L 85 (0, xi_getf 9 1 88, 0, 0)) (x_L 88 (1, x_nof, 1, 0))) (x_T 89 (x_L 89 (0, xi_load 0 2 90, 0, 0)) (x_T 90 (x_L 90 (0, xi_getf 11 5 93, 0, 0)) (x_L 93 (0, xi_getf 2 2 96, 0, 0))))) (x_T 97 (x_T 96 (x_L 96 (1, x_nof, 1, 0)) (x_L 97 (0, xi_load 0 2 98, 0, 0))) (x_T 98 (x_L 98 (0, xi_getf 11 12 101, 0, 0)) (x_T 101 (x_L 101 (1, x_nof, 1, 0)) (x_L 102 (0, xi_load 0 2 103, 0, 0)))))) (x_T 111 (x_T 106 (x_T 103 (x_L 103 (0, xi_getf 11 0 106, 0, 0)) (x_L 106 (0, xi_getf 8 0 109, 0, 0))) (x_T 109 (x_L 109 (1, x_nof, 1, 0)) (x_T 110 (x_L 110 (0, xi_load 0 2 111, 0, 0)) (x_L 111 (0, xi_getf 11 13 114, 0, 0))))) (x_T 121 (x_T 114 (x_L 114 (0, xi_if1 0 121 117, 0, 0)) (x_L 121 (0, xi_push (0, 0, 0) 122, 0, 0))) (x_T 122 (x_L 122 (1, x_nof, 1, 0)) (x_T 123 (x_L 123 (0, xi_push (0, (-1), (-1)) 124, 0, 0)) (x_L 124 (1, x_nof, 1, 0))))))))
set_option maxRecDepth 20000 in
set_option maxHeartbeats 4000000 in
theorem tb_91_0_ok (K : xKx) (hK : x_KP K) : ∀ pc, x_EOq cls K xI m_91 pc (tb_91_0 pc) :=
  (x_Tok2
  (x_Tok2
  (x_Tok2
  (x_Tok2
  (x_Tok2
  (x_Lok (x_st (I := xI) (xr_iload_n (i := 1) (x_dk dl_91_0_ok 0 rfl))))
  (x_Lok (x_st (I := xI) (xr_tswB (dflt := 122) (lo := 0) (hi := 8) (offs := #[51, 56, 64, 72, 80, 88, 96, 101, 109]) (len := 51) (n := 9) (x_dk dl_91_0_ok 1 rfl) (by decide) (by decide +kernel)))))
  (x_Tok2
  (x_Lok (x_st (I := xI) (xr_aload_n (i := 0) (x_dk dl_91_0_ok 2 rfl))))
  (x_Lok (x_st (I := xI) (xr_getf (ci := 11) (k := 11) (ix := 94) (N := 15) (C := RX11) (T := TX11) rfl in_X11 (by decide) (in_t4 (List.mem_of_getElem? (i := 119) rfl) rfl) (x_dk dl_91_0_ok 3 rfl))))))
  (x_Tok2
  (x_Tok2
  (x_Lok (x_rt (I := xI) (k := 1) ⟨(x_dk dl_91_0_ok 4 rfl), rfl⟩))
  (x_Lok (x_st (I := xI) (xr_aload_n (i := 0) (x_dk dl_91_0_ok 5 rfl)))))
  (x_Tok2
  (x_Lok (x_st (I := xI) (xr_getf (ci := 11) (k := 6) (ix := 46) (N := 15) (C := RX11) (T := TX11) rfl in_X11 (by decide) (in_t4 (List.mem_of_getElem? (i := 114) rfl) rfl) (x_dk dl_91_0_ok 6 rfl))))
  (x_Tok2
  (x_Lok (x_st (I := xI) (xr_getf (ci := 9) (k := 0) (ix := 149) (N := 17) (C := RX9) (T := TX9) rfl in_X9 (by decide) (in_t3 (List.mem_of_getElem? (i := 138) rfl) rfl) (x_dk dl_91_0_ok 7 rfl))))
  (x_Lok (x_rt (I := xI) (k := 1) ⟨(x_dk dl_91_0_ok 8 rfl), rfl⟩))))))
  (x_Tok2
  (x_Tok2
  (x_Tok2
  (x_Lok (x_st (I := xI) (xr_aload_n (i := 0) (x_dk dl_91_0_ok 9 rfl))))
  (x_Lok (x_st (I := xI) (xr_getf (ci := 11) (k := 4) (ix := 37) (N := 15) (C := RX11) (T := TX11) rfl in_X11 (by decide) (in_t4 (List.mem_of_getElem? (i := 112) rfl) rfl) (x_dk dl_91_0_ok 10 rfl)))))
  (x_Tok2
  (x_Lok (x_st (I := xI) (xr_getf (ci := 4) (k := 0) (ix := 167) (N := 20) (C := RX4) (T := TX4) rfl in_X4 (by decide) (in_t1 (List.mem_of_getElem? (i := 176) rfl) rfl) (x_dk dl_91_0_ok 11 rfl))))
  (x_Tok2
  (x_Lok (x_rt (I := xI) (k := 1) ⟨(x_dk dl_91_0_ok 12 rfl), rfl⟩))
  (x_Lok (x_st (I := xI) (xr_aload_n (i := 0) (x_dk dl_91_0_ok 13 rfl)))))))
  (x_Tok2
  (x_Tok2
  (x_Lok (x_st (I := xI) (xr_getf (ci := 11) (k := 4) (ix := 37) (N := 15) (C := RX11) (T := TX11) rfl in_X11 (by decide) (in_t4 (List.mem_of_getElem? (i := 112) rfl) rfl) (x_dk dl_91_0_ok 14 rfl))))
  (x_Lok (x_st (I := xI) (xr_getf (ci := 4) (k := 1) (ix := 371) (N := 20) (C := RX4) (T := TX4) rfl in_X4 (by decide) (in_t1 (List.mem_of_getElem? (i := 178) rfl) rfl) (x_dk dl_91_0_ok 15 rfl)))))
  (x_Tok2
  (x_Lok (x_rt (I := xI) (k := 1) ⟨(x_dk dl_91_0_ok 16 rfl), rfl⟩))
  (x_Tok2
  (x_Lok (x_st (I := xI) (xr_aload_n (i := 0) (x_dk dl_91_0_ok 17 rfl))))
  (x_Lok (x_st (I := xI) (xr_getf (ci := 11) (k := 6) (ix := 46) (N := 15) (C := RX11) (T := TX11) rfl in_X11 (by decide) (in_t4 (List.mem_of_getElem? (i := 114) rfl) rfl) (x_dk dl_91_0_ok 18 rfl)))))))))
  (x_Tok2
  (x_Tok2
  (x_Tok2
  (x_Tok2
  (x_Lok (x_st (I := xI) (xr_getf (ci := 9) (k := 1) (ix := 198) (N := 17) (C := RX9) (T := TX9) rfl in_X9 (by decide) (in_t3 (List.mem_of_getElem? (i := 140) rfl) rfl) (x_dk dl_91_0_ok 19 rfl))))
  (x_Lok (x_rt (I := xI) (k := 1) ⟨(x_dk dl_91_0_ok 20 rfl), rfl⟩)))
  (x_Tok2
  (x_Lok (x_st (I := xI) (xr_aload_n (i := 0) (x_dk dl_91_0_ok 21 rfl))))
  (x_Tok2
  (x_Lok (x_st (I := xI) (xr_getf (ci := 11) (k := 5) (ix := 42) (N := 15) (C := RX11) (T := TX11) rfl in_X11 (by decide) (in_t4 (List.mem_of_getElem? (i := 113) rfl) rfl) (x_dk dl_91_0_ok 22 rfl))))
  (x_Lok (x_st (I := xI) (xr_getf (ci := 2) (k := 2) (ix := 204) (N := 15) (C := RX2) (T := TX2) rfl in_X2 (by decide) (in_t2 (List.mem_of_getElem? (i := 18) rfl) rfl) (x_dk dl_91_0_ok 23 rfl)))))))
  (x_Tok2
  (x_Tok2
  (x_Lok (x_rt (I := xI) (k := 1) ⟨(x_dk dl_91_0_ok 24 rfl), rfl⟩))
  (x_Lok (x_st (I := xI) (xr_aload_n (i := 0) (x_dk dl_91_0_ok 25 rfl)))))
  (x_Tok2
  (x_Lok (x_st (I := xI) (xr_getf (ci := 11) (k := 12) (ix := 246) (N := 15) (C := RX11) (T := TX11) rfl in_X11 (by decide) (in_t4 (List.mem_of_getElem? (i := 120) rfl) rfl) (x_dk dl_91_0_ok 26 rfl))))
  (x_Tok2
  (x_Lok (x_rt (I := xI) (k := 1) ⟨(x_dk dl_91_0_ok 27 rfl), rfl⟩))
  (x_Lok (x_st (I := xI) (xr_aload_n (i := 0) (x_dk dl_91_0_ok 28 rfl))))))))
  (x_Tok2
  (x_Tok2
  (x_Tok2
  (x_Lok (x_st (I := xI) (xr_getf (ci := 11) (k := 0) (ix := 10) (N := 15) (C := RX11) (T := TX11) rfl in_X11 (by decide) (in_t4 (List.mem_of_getElem? (i := 108) rfl) rfl) (x_dk dl_91_0_ok 29 rfl))))
  (x_Lok (x_st (I := xI) (xr_getf (ci := 8) (k := 0) (ix := 74) (N := 17) (C := RX8) (T := TX8) rfl in_X8 (by decide) (in_t1 (List.mem_of_getElem? (i := 65) rfl) rfl) (x_dk dl_91_0_ok 30 rfl)))))
  (x_Tok2
  (x_Lok (x_rt (I := xI) (k := 1) ⟨(x_dk dl_91_0_ok 31 rfl), rfl⟩))
  (x_Tok2
  (x_Lok (x_st (I := xI) (xr_aload_n (i := 0) (x_dk dl_91_0_ok 32 rfl))))
  (x_Lok (x_st (I := xI) (xr_getf (ci := 11) (k := 13) (ix := 91) (N := 15) (C := RX11) (T := TX11) rfl in_X11 (by decide) (in_t4 (List.mem_of_getElem? (i := 121) rfl) rfl) (x_dk dl_91_0_ok 33 rfl)))))))
  (x_Tok2
  (x_Tok2
  (x_Lok (x_st (I := xI) (xr_ifeq (off := 7) (tg := 121) (x_dk dl_91_0_ok 34 rfl) (by decide))))
  (x_Lok (x_st (I := xI) (xr_iconst (n := 0) (z := 0) (v := 0) (x_dk dl_91_0_ok 35 rfl) (by decide) (by decide)))))
  (x_Tok2
  (x_Lok (x_rt (I := xI) (k := 1) ⟨(x_dk dl_91_0_ok 36 rfl), rfl⟩))
  (x_Tok2
  (x_Lok (x_st (I := xI) (xr_iconst (n := (-1)) (z := (-1)) (v := (-1)) (x_dk dl_91_0_ok 37 rfl) (by decide) (by decide))))
  (x_Lok (x_rt (I := xI) (k := 1) ⟨(x_dk dl_91_0_ok 38 rfl), rfl⟩))))))))
def tb_91 : Nat → xE := tb_91_0
theorem tb_91_ok (K : xKx) (hK : x_KP K) : ∀ pc, x_EOq cls K xI m_91 pc (tb_91 pc) := tb_91_0_ok K hK
end
