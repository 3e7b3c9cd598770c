noncomputable section
def dl_25_0 : List (Nat × Instr × Nat) := [(0, .aload_n 0, 1), (1, .getfield 24, 3), (4, .iconst (-1), 1), (5, .invokestatic 37, 3), (8, .aload_n 0, 1), (9, .invokevirtual 43, 3), (12, .return_, 1)]
set_option maxRecDepth 20000 in
theorem dl_25_0_ok : dl_25_0.all (fun q => decide (decode prog_9_method_2_code q.1 = .ok (q.2.1, q.2.2))) = true := by decide +kernel
def tb_25_0 : Nat → xE := (x_T 4 (x_T 0 (x_L 0 (0, xi_load 0 2 1, 0, 0)) (x_T 1 (x_L 1 (0, xi_getf 7 4 4, 0, 0)) (x_L 4 (0, xi_push (0, (-1), (-1)) 5, 0, 0)))) (x_T 8 (x_T 5 (x_L 5 (2, x_nof, 174, 2)) (x_L 8 (0, xi_load 0 2 9, 0, 0))) (x_T 9 (x_L 9 (2, x_nof, 29, 1)) (x_L 12 (1, x_nof, 0, 0)))))
set_option maxRecDepth 20000 in
set_option maxHeartbeats 4000000 in
theorem tb_25_0_ok (K : xKx) (hK : x_KP K) : ∀ pc, x_EOq cls K xI m_25 pc (tb_25_0 pc) :=
  (x_Tok2
  (x_Tok2
  (x_Lok (x_st (I := xI) (xr_aload_n (i := 0) (x_dk dl_25_0_ok 0 rfl))))
  (x_Tok2
  (x_Lok (x_st (I := xI) (xr_getf (ci := 7) (k := 4) (ix := 24) (N := 8) (C := RX7) (T := TX7) rfl in_X7 (by decide) (in_t1 (List.mem_of_getElem? (i := 145) rfl) rfl) (x_dk dl_25_0_ok 1 rfl))))
  (x_Lok (x_st (I := xI) (xr_iconst (n := (-1)) (z := (-1)) (v := (-1)) (x_dk dl_25_0_ok 2 rfl) (by decide) (by decide))))))
  (x_Tok2
  (x_Tok2
  (x_Lok (x_ca (I := xI) (q' := m_174) rfl (xr_callS (q' := m_174) (ix := 37) (n := 2) (in_t4 (List.mem_of_getElem? (i := 9) rfl) rfl) good_w (in_t1 (List.mem_of_getElem? (i := 13) rfl) rfl) (in_t4 (List.mem_of_getElem? (i := 44) rfl) rfl) (in_t4 (List.mem_of_getElem? (i := 8) rfl) rfl) (by decide +kernel) (by decide +kernel) (x_dk dl_25_0_ok 3 rfl))))
  (x_Lok (x_st (I := xI) (xr_aload_n (i := 0) (x_dk dl_25_0_ok 4 rfl)))))
  (x_Tok2
  (x_Lok (x_ca (I := xI) (q' := m_29) rfl (xr_callV (q' := m_29) (ix := 43) (n := 0) (in_t4 (List.mem_of_getElem? (i := 48) rfl) rfl) good_w (in_t1 (List.mem_of_getElem? (i := 5) rfl) rfl) (in_t4 (List.mem_of_getElem? (i := 45) rfl) rfl) (in_t4 (List.mem_of_getElem? (i := 47) rfl) rfl) (in_s1 (List.mem_of_getElem? (i := 1) rfl)) (by decide +kernel) (by decide +kernel) (by decide +kernel) (x_dk dl_25_0_ok 5 rfl))))
  (x_Lok (x_rt (I := xI) (k := 0) ⟨(x_dk dl_25_0_ok 6 rfl), rfl⟩)))))
def tb_25 : Nat → xE := tb_25_0
theorem tb_25_ok (K : xKx) (hK : x_KP K) : ∀ pc, x_EOq cls K xI m_25 pc (tb_25 pc) := tb_25_0_ok K hK
def dl_26_0 : List (Nat × Instr × Nat) := [(0, .aload_n 0, 1), (1, .getfield 9, 3), (4, .iconst 0, 1), (5, .invokestatic 37, 3), (8, .iconst 0, 1), (9, .istore_n 1, 1), (10, .iload_n 1, 1), (11, .bipush 64, 2), (13, .if_icmp .ge 16, 3), (16, .aload_n 0, 1), (17, .getfield 27, 3), (20, .iload_n 1, 1), (21, .iconst 0, 1), (22, .bastore, 1), (23, .iinc 1 1, 3), (26, .goto (-16), 3), (29, .aload_n 0, 1), (30, .invokevirtual 46, 3), (33, .aload_n 0, 1), (34, .getfield 18, 3), (37, .iconst 0, 1), (38, .invokestatic 37, 3), (41, .return_, 1)]
set_option maxRecDepth 20000 in
theorem dl_26_0_ok : dl_26_0.all (fun q => decide (decode prog_9_method_3_code q.1 = .ok (q.2.1, q.2.2))) = true := by decide +kernel
def tb_26_0 : Nat → xE := (x_T 17 (x_T 8 (x_T 1 (x_T 0 (x_L 0 (0, xi_load 0 2 1, 0, 0)) (x_L 1 (0, xi_getf 7 0 4, 0, 0))) (x_T 4 (x_L 4 (0, xi_push (0, 0, 0) 5, 0, 0)) (x_T 5 (x_L 5 (2, x_nof, 174, 2)) (x_L 8 (0, xi_push (0, 0, 0) 9, 0, 0))))) (x_T 11 (x_T 9 (x_L 9 (0, xi_stor 1 0 10, 0, 0)) (x_T 10 (x_L 10 (0, xi_load 1 0 11, 0, 0)) (x_L 11 (0, xi_push (0, 64, 64) 13, 0, 0)))) (x_T 13 (x_L 13 (0, xi_if2 3 29 16, 0, 0)) (x_T 16 (x_L 16 (0, xi_load 0 2 17, 0, 0)) (x_L 17 (0, xi_getf 7 5 20, 0, 0)))))) (x_T 29 (x_T 22 (x_T 20 (x_L 20 (0, xi_load 1 0 21, 0, 0)) (x_T 21 (x_L 21 (0, xi_push (0, 0, 0) 22, 0, 0)) (x_L 22 (0, xi_ast true 23, 0, 0)))) (x_T 23 (x_L 23 (0, xi_inc 1 1 26, 0, 0)) (x_T 26 (x_L 26 (0, xi_goto 10, 0, 0)) (x_L 29 (0, xi_load 0 2 30, 0, 0))))) (x_T 34 (x_T 30 (x_L 30 (2, x_nof, 30, 1)) (x_T 33 (x_L 33 (0, xi_load 0 2 34, 0, 0)) (x_L 34 (0, xi_getf 7 2 37, 0, 0)))) (x_T 37 (x_L 37 (0, xi_push (0, 0, 0) 38, 0, 0)) (x_T 38 (x_L 38 (2, x_nof, 174, 2)) (x_L 41 (1, x_nof, 0, 0)))))))
set_option maxRecDepth 20000 in
set_option maxHeartbeats 4000000 in
theorem tb_26_0_ok (K : xKx) (hK : x_KP K) : ∀ pc, x_EOq cls K xI m_26 pc (tb_26_0 pc) :=
  (x_Tok2
  (x_Tok2
  (x_Tok2
  (x_Tok2
  (x_Lok (x_st (I := xI) (xr_aload_n (i := 0) (x_dk dl_26_0_ok 0 rfl))))
  (x_Lok (x_st (I := xI) (xr_getf (ci := 7) (k := 0) (ix := 9) (N := 8) (C := RX7) (T := TX7) rfl in_X7 (by decide) (in_t1 (List.mem_of_getElem? (i := 136) rfl) rfl) (x_dk dl_26_0_ok 1 rfl)))))
  (x_Tok2
  (x_Lok (x_st (I := xI) (xr_iconst (n := 0) (z := 0) (v := 0) (x_dk dl_26_0_ok 2 rfl) (by decide) (by decide))))
  (x_Tok2
  (x_Lok (x_ca (I := xI) (q' := m_174) rfl (xr_callS (q' := m_174) (ix := 37) (n := 2) (in_t4 (List.mem_of_getElem? (i := 9) rfl) rfl) good_w (in_t1 (List.mem_of_getElem? (i := 13) rfl) rfl) (in_t4 (List.mem_of_getElem? (i := 44) rfl) rfl) (in_t4 (List.mem_of_getElem? (i := 8) rfl) rfl) (by decide +kernel) (by decide +kernel) (x_dk dl_26_0_ok 3 rfl))))
  (x_Lok (x_st (I := xI) (xr_iconst (n := 0) (z := 0) (v := 0) (x_dk dl_26_0_ok 4 rfl) (by decide) (by decide)))))))
  (x_Tok2
  (x_Tok2
  (x_Lok (x_st (I := xI) (xr_istore_n (i := 1) (x_dk dl_26_0_ok 5 rfl) (by decide +kernel))))
  (x_Tok2
  (x_Lok (x_st (I := xI) (xr_iload_n (i := 1) (x_dk dl_26_0_ok 6 rfl))))
  (x_Lok (x_st (I := xI) (xr_bipush (n := 64) (z := 64) (v := 64) (x_dk dl_26_0_ok 7 rfl) (by decide) (by decide))))))
  (x_Tok2
  (x_Lok (x_st (I := xI) (xr_icmpge (off := 16) (tg := 29) (x_dk dl_26_0_ok 8 rfl) (by decide))))
  (x_Tok2
  (x_Lok (x_st (I := xI) (xr_aload_n (i := 0) (x_dk dl_26_0_ok 9 rfl))))
  (x_Lok (x_st (I := xI) (xr_getf (ci := 7) (k := 5) (ix := 27) (N := 8) (C := RX7) (T := TX7) rfl in_X7 (by decide) (in_t1 (List.mem_of_getElem? (i := 146) rfl) rfl) (x_dk dl_26_0_ok 10 rfl))))))))
  (x_Tok2
  (x_Tok2
  (x_Tok2
  (x_Lok (x_st (I := xI) (xr_iload_n (i := 1) (x_dk dl_26_0_ok 11 rfl))))
  (x_Tok2
  (x_Lok (x_st (I := xI) (xr_iconst (n := 0) (z := 0) (v := 0) (x_dk dl_26_0_ok 12 rfl) (by decide) (by decide))))
  (x_Lok (x_st (I := xI) (xr_bastore (x_dk dl_26_0_ok 13 rfl))))))
  (x_Tok2
  (x_Lok (x_st (I := xI) (xr_iinc (i := 1) (n := 1) (x_dk dl_26_0_ok 14 rfl) (by decide +kernel) (by decide))))
  (x_Tok2
  (x_Lok (x_st (I := xI) (xr_goto (off := (-16)) (tg := 10) (x_dk dl_26_0_ok 15 rfl) (by decide))))
  (x_Lok (x_st (I := xI) (xr_aload_n (i := 0) (x_dk dl_26_0_ok 16 rfl)))))))
  (x_Tok2
  (x_Tok2
  (x_Lok (x_ca (I := xI) (q' := m_30) rfl (xr_callV (q' := m_30) (ix := 46) (n := 0) (in_t4 (List.mem_of_getElem? (i := 66) rfl) rfl) good_w (in_t1 (List.mem_of_getElem? (i := 5) rfl) rfl) (in_t4 (List.mem_of_getElem? (i := 63) rfl) rfl) (in_t4 (List.mem_of_getElem? (i := 65) rfl) rfl) (in_s1 (List.mem_of_getElem? (i := 3) rfl)) (by decide +kernel) (by decide +kernel) (by decide +kernel) (x_dk dl_26_0_ok 17 rfl))))
  (x_Tok2
  (x_Lok (x_st (I := xI) (xr_aload_n (i := 0) (x_dk dl_26_0_ok 18 rfl))))
  (x_Lok (x_st (I := xI) (xr_getf (ci := 7) (k := 2) (ix := 18) (N := 8) (C := RX7) (T := TX7) rfl in_X7 (by decide) (in_t1 (List.mem_of_getElem? (i := 141) rfl) rfl) (x_dk dl_26_0_ok 19 rfl))))))
  (x_Tok2
  (x_Lok (x_st (I := xI) (xr_iconst (n := 0) (z := 0) (v := 0) (x_dk dl_26_0_ok 20 rfl) (by decide) (by decide))))
  (x_Tok2
  (x_Lok (x_ca (I := xI) (q' := m_174) rfl (xr_callS (q' := m_174) (ix := 37) (n := 2) (in_t4 (List.mem_of_getElem? (i := 9) rfl) rfl) good_w (in_t1 (List.mem_of_getElem? (i := 13) rfl) rfl) (in_t4 (List.mem_of_getElem? (i := 44) rfl) rfl) (in_t4 (List.mem_of_getElem? (i := 8) rfl) rfl) (by decide +kernel) (by decide +kernel) (x_dk dl_26_0_ok 21 rfl))))
  (x_Lok (x_rt (I := xI) (k := 0) ⟨(x_dk dl_26_0_ok 22 rfl), rfl⟩)))))))
def tb_26 : Nat → xE := tb_26_0
theorem tb_26_ok (K : xKx) (hK : x_KP K) : ∀ pc, x_EOq cls K xI m_26 pc (tb_26 pc) := tb_26_0_ok K hK
def dl_29_0 : List (Nat × Instr × Nat) := [(0, .iconst 0, 1), (1, .istore_n 1, 1), (2, .iconst 0, 1), (3, .istore_n 2, 1), (4, .iload_n 2, 1), (5, .bipush 64, 2), (7, .if_icmp .ge 28, 3), (10, .aload_n 0, 1), (11, .getfield 24, 3), (14, .iload_n 2, 1), (15, .iaload, 1), (16, .ifCond .ge 13, 3), (19, .aload_n 0, 1), (20, .getfield 34, 3), (23, .iload_n 1, 1), (24, .iload_n 2, 1), (25, .iastore, 1), (26, .iinc 1 1, 3), (29, .iinc 2 1, 3), (32, .goto (-28), 3), (35, .iconst 0, 1), (36, .istore_n 2, 1), (37, .iload_n 2, 1), (38, .iload_n 1, 1), (39, .if_icmp .ge 60, 3), (42, .iload_n 1, 1), (43, .bipush 64, 2), (45, .if_icmp .ge 54, 3), (99, .return_, 1)]
set_option maxRecDepth 20000 in
theorem dl_29_0_ok : dl_29_0.all (fun q => decide (decode prog_9_method_8_code q.1 = .ok (q.2.1, q.2.2))) = true := by decide +kernel
def tb_29_0 : Nat → xE := (x_T 20 (x_T 7 (x_T 2 (x_T 0 (x_L 0 (0, xi_push (0, 0, 0) 1, 0, 0)) (x_T 1 (x_L 1 (0, xi_stor 1 0 2, 0, 0)) (x_L 2 (0, xi_push (0, 0, 0) 3, 0, 0)))) (x_T 4 (x_T 3 (x_L 3 (0, xi_stor 2 0 4, 0, 0)) (x_L 4 (0, xi_load 2 0 5, 0, 0))) (x_T 5 (x_L 5 (0, xi_push (0, 64, 64) 7, 0, 0)) (x_L 7 (0, xi_if2 3 35 10, 0, 0))))) (x_T 14 (x_T 10 (x_L 10 (0, xi_load 0 2 11, 0, 0)) (x_T 11 (x_L 11 (0, xi_getf 7 4 14, 0, 0)) (x_L 14 (0, xi_load 2 0 15, 0, 0)))) (x_T 16 (x_T 15 (x_L 15 (0, xi_ald false 16, 0, 0)) (x_L 16 (0, xi_if1 3 29 19, 0, 0))) (x_T 19 (x_L 19 (0, xi_load 0 2 20, 0, 0)) (x_L 20 (0, xi_getf 7 7 23, 0, 0)))))) (x_T 35 (x_T 25 (x_T 23 (x_L 23 (0, xi_load 1 0 24, 0, 0)) (x_T 24 (x_L 24 (0, xi_load 2 0 25, 0, 0)) (x_L 25 (0, xi_ast false 26, 0, 0)))) (x_T 29 (x_T 26 (x_L 26 (0, xi_inc 1 1 29, 0, 0)) (x_L 29 (0, xi_inc 2 1 32, 0, 0))) (x_T 32 (x_L 32 (0, xi_goto 4, 0, 0)) (x_L 35 (0, xi_push (0, 0, 0) 36, 0, 0))))) (x_T 39 (x_T 37 (x_T 36 (x_L 36 (0, xi_stor 2 0 37, 0, 0)) (x_L 37 (0, xi_load 2 0 38, 0, 0))) (x_T 38 (x_L 38 (0, xi_load 1 0 39, 0, 0)) (x_L 39 (0, xi_if2 3 99 42, 0, 0)))) (x_T 43 (x_T 42 (x_L 42 (0, xi_load 1 0 43, 0, 0)) (x_L 43 (0, xi_push (0, 64, 64) 45, 0, 0))) (x_T 45 (x_L 45 (0, xi_if2 3 99 48, 0, 0)) (x_L 99 (1, x_nof, 0, 0)))))))
set_option maxRecDepth 20000 in
set_option maxHeartbeats 4000000 in
theorem tb_29_0_ok (K : xKx) (hK : x_KP K) : ∀ pc, x_EOq cls K xI m_29 pc (tb_29_0 pc) :=
  (x_Tok2
  (x_Tok2
  (x_Tok2
  (x_Tok2
  (x_Lok (x_st (I := xI) (xr_iconst (n := 0) (z := 0) (v := 0) (x_dk dl_29_0_ok 0 rfl) (by decide) (by decide))))
  (x_Tok2
  (x_Lok (x_st (I := xI) (xr_istore_n (i := 1) (x_dk dl_29_0_ok 1 rfl) (by decide +kernel))))
  (x_Lok (x_st (I := xI) (xr_iconst (n := 0) (z := 0) (v := 0) (x_dk dl_29_0_ok 2 rfl) (by decide) (by decide))))))
  (x_Tok2
  (x_Tok2
  (x_Lok (x_st (I := xI) (xr_istore_n (i := 2) (x_dk dl_29_0_ok 3 rfl) (by decide +kernel))))
  (x_Lok (x_st (I := xI) (xr_iload_n (i := 2) (x_dk dl_29_0_ok 4 rfl)))))
  (x_Tok2
  (x_Lok (x_st (I := xI) (xr_bipush (n := 64) (z := 64) (v := 64) (x_dk dl_29_0_ok 5 rfl) (by decide) (by decide))))
  (x_Lok (x_st (I := xI) (xr_icmpge (off := 28) (tg := 35) (x_dk dl_29_0_ok 6 rfl) (by decide)))))))
  (x_Tok2
  (x_Tok2
  (x_Lok (x_st (I := xI) (xr_aload_n (i := 0) (x_dk dl_29_0_ok 7 rfl))))
  (x_Tok2
  (x_Lok (x_st (I := xI) (xr_getf (ci := 7) (k := 4) (ix := 24) (N := 8) (C := RX7) (T := TX7) rfl in_X7 (by decide) (in_t1 (List.mem_of_getElem? (i := 145) rfl) rfl) (x_dk dl_29_0_ok 8 rfl))))
  (x_Lok (x_st (I := xI) (xr_iload_n (i := 2) (x_dk dl_29_0_ok 9 rfl))))))
  (x_Tok2
  (x_Tok2
  (x_Lok (x_st (I := xI) (xr_iaload (x_dk dl_29_0_ok 10 rfl))))
  (x_Lok (x_st (I := xI) (xr_ifge (off := 13) (tg := 29) (x_dk dl_29_0_ok 11 rfl) (by decide)))))
  (x_Tok2
  (x_Lok (x_st (I := xI) (xr_aload_n (i := 0) (x_dk dl_29_0_ok 12 rfl))))
  (x_Lok (x_st (I := xI) (xr_getf (ci := 7) (k := 7) (ix := 34) (N := 8) (C := RX7) (T := TX7) rfl in_X7 (by decide) (in_t1 (List.mem_of_getElem? (i := 148) rfl) rfl) (x_dk dl_29_0_ok 13 rfl))))))))
  (x_Tok2
  (x_Tok2
  (x_Tok2
  (x_Lok (x_st (I := xI) (xr_iload_n (i := 1) (x_dk dl_29_0_ok 14 rfl))))
  (x_Tok2
  (x_Lok (x_st (I := xI) (xr_iload_n (i := 2) (x_dk dl_29_0_ok 15 rfl))))
  (x_Lok (x_st (I := xI) (xr_iastore (x_dk dl_29_0_ok 16 rfl))))))
  (x_Tok2
  (x_Tok2
  (x_Lok (x_st (I := xI) (xr_iinc (i := 1) (n := 1) (x_dk dl_29_0_ok 17 rfl) (by decide +kernel) (by decide))))
  (x_Lok (x_st (I := xI) (xr_iinc (i := 2) (n := 1) (x_dk dl_29_0_ok 18 rfl) (by decide +kernel) (by decide)))))
  (x_Tok2
  (x_Lok (x_st (I := xI) (xr_goto (off := (-28)) (tg := 4) (x_dk dl_29_0_ok 19 rfl) (by decide))))
  (x_Lok (x_st (I := xI) (xr_iconst (n := 0) (z := 0) (v := 0) (x_dk dl_29_0_ok 20 rfl) (by decide) (by decide)))))))
  (x_Tok2
  (x_Tok2
  (x_Tok2
  (x_Lok (x_st (I := xI) (xr_istore_n (i := 2) (x_dk dl_29_0_ok 21 rfl) (by decide +kernel))))
  (x_Lok (x_st (I := xI) (xr_iload_n (i := 2) (x_dk dl_29_0_ok 22 rfl)))))
  (x_Tok2
  (x_Lok (x_st (I := xI) (xr_iload_n (i := 1) (x_dk dl_29_0_ok 23 rfl))))
  (x_Lok (x_st (I := xI) (xr_icmpge (off := 60) (tg := 99) (x_dk dl_29_0_ok 24 rfl) (by decide))))))
  (x_Tok2
  (x_Tok2
  (x_Lok (x_st (I := xI) (xr_iload_n (i := 1) (x_dk dl_29_0_ok 25 rfl))))
  (x_Lok (x_st (I := xI) (xr_bipush (n := 64) (z := 64) (v := 64) (x_dk dl_29_0_ok 26 rfl) (by decide) (by decide)))))
  (x_Tok2
  (x_Lok (x_st (I := xI) (xr_icmpge (off := 54) (tg := 99) (x_dk dl_29_0_ok 27 rfl) (by decide))))
  (x_Lok (x_rt (I := xI) (k := 0) ⟨(x_dk dl_29_0_ok 28 rfl), rfl⟩)))))))
def tb_29 : Nat → xE := tb_29_0
theorem tb_29_ok (K : xKx) (hK : x_KP K) : ∀ pc, x_EOq cls K xI m_29 pc (tb_29 pc) := tb_29_0_ok K hK
def dl_30_0 : List (Nat × Instr × Nat) := [(0, .iconst 0, 1), (1, .istore_n 1, 1), (2, .iload_n 1, 1), (3, .bipush 64, 2), (5, .if_icmp .ge 52, 3), (8, .aload_n 0, 1), (9, .getfield 34, 3), (12, .iload_n 1, 1), (13, .iaload, 1), (14, .istore_n 2, 1), (15, .aload_n 0, 1), (16, .iload_n 2, 1), (17, .invokevirtual 52, 3), (20, .istore_n 3, 1), (21, .aload_n 0, 1), (22, .getfield 15, 3), (25, .iload_n 2, 1), (26, .iaload, 1), (27, .ifCond .ne 17, 3), (30, .iload_n 3, 1), (31, .ifCond .eq 13, 3), (44, .aload_n 0, 1), (45, .getfield 15, 3), (48, .iload_n 2, 1), (49, .iload_n 3, 1), (50, .iastore, 1), (51, .iinc 1 1, 3), (54, .goto (-52), 3), (57, .return_, 1)]
set_option maxRecDepth 20000 in
theorem dl_30_0_ok : dl_30_0.all (fun q => decide (decode prog_9_method_9_code q.1 = .ok (q.2.1, q.2.2))) = true := by decide +kernel
def tb_30_0 : Nat → xE := (x_T 20 (x_T 9 (x_T 2 (x_T 0 (x_L 0 (0, xi_push (0, 0, 0) 1, 0, 0)) (x_T 1 (x_L 1 (0, xi_stor 1 0 2, 0, 0)) (x_L 2 (3, xi_load 1 0 3, 4, 0)))) (x_T 5 (x_T 3 (x_L 3 (0, xi_push (0, 64, 64) 5, 0, 0)) (x_L 5 (0, xi_if2 3 57 8, 0, 0))) (x_T 8 (x_L 8 (0, xi_load 0 2 9, 0, 0)) (x_L 9 (0, xi_getf 7 7 12, 0, 0))))) (x_T 14 (x_T 12 (x_L 12 (0, xi_load 1 0 13, 0, 0)) (x_T 13 (x_L 13 (0, xi_aldH false 14, 0, 0)) (x_L 14 (0, xi_stor 2 0 15, 0, 0)))) (x_T 16 (x_T 15 (x_L 15 (0, xi_load 0 2 16, 0, 0)) (x_L 16 (0, xi_load 2 0 17, 0, 0))) (x_T 17 (x_L 17 (2, x_nof, 31, 2)) (x_L 20 (0, xi_stor 3 0 21, 0, 0)))))) (x_T 31 (x_T 25 (x_T 21 (x_L 21 (0, xi_load 0 2 22, 0, 0)) (x_T 22 (x_L 22 (0, xi_getf 7 1 25, 0, 0)) (x_L 25 (0, xi_load 2 0 26, 0, 0)))) (x_T 27 (x_T 26 (x_L 26 (0, xi_ald false 27, 0, 0)) (x_L 27 (0, xi_if1 1 44 30, 0, 0))) (x_T 30 (x_L 30 (0, xi_load 3 0 31, 0, 0)) (x_L 31 (0, xi_if1 0 44 34, 0, 0))))) (x_T 49 (x_T 45 (x_T 44 (x_L 44 (0, xi_load 0 2 45, 0, 0)) (x_L 45 (0, xi_getf 7 1 48, 0, 0))) (x_T 48 (x_L 48 (0, xi_load 2 0 49, 0, 0)) (x_L 49 (0, xi_load 3 0 50, 0, 0)))) (x_T 51 (x_T 50 (x_L 50 (0, xi_ast false 51, 0, 0)) (x_L 51 (0, xi_incT 1 54, 0, 0))) (x_T 54 (x_L 54 (0, xi_goto 2, 0, 0)) (x_L 57 (1, x_nof, 0, 0)))))))
set_option maxRecDepth 20000 in
set_option maxHeartbeats 4000000 in
theorem tb_30_0_ok (K : xKx) (hK : x_KP K) : ∀ pc, x_EOq cls K xI m_30 pc (tb_30_0 pc) :=
  (x_Tok2
  (x_Tok2
  (x_Tok2
  (x_Tok2
  (x_Lok (x_st (I := xI) (xr_iconst (n := 0) (z := 0) (v := 0) (x_dk dl_30_0_ok 0 rfl) (by decide) (by decide))))
  (x_Tok2
  (x_Lok (x_st (I := xI) (xr_istore_n (i := 1) (x_dk dl_30_0_ok 1 rfl) (by decide +kernel))))
  (x_Lok (x_lo (I := xI) (L := 4) (xr_iload_n (i := 1) (x_dk dl_30_0_ok 2 rfl))))))
  (x_Tok2
  (x_Tok2
  (x_Lok (x_st (I := xI) (xr_bipush (n := 64) (z := 64) (v := 64) (x_dk dl_30_0_ok 3 rfl) (by decide) (by decide))))
  (x_Lok (x_st (I := xI) (xr_icmpge (off := 52) (tg := 57) (x_dk dl_30_0_ok 4 rfl) (by decide)))))
  (x_Tok2
  (x_Lok (x_st (I := xI) (xr_aload_n (i := 0) (x_dk dl_30_0_ok 5 rfl))))
  (x_Lok (x_st (I := xI) (xr_getf (ci := 7) (k := 7) (ix := 34) (N := 8) (C := RX7) (T := TX7) rfl in_X7 (by decide) (in_t1 (List.mem_of_getElem? (i := 148) rfl) rfl) (x_dk dl_30_0_ok 6 rfl)))))))
  (x_Tok2
  (x_Tok2
  (x_Lok (x_st (I := xI) (xr_iload_n (i := 1) (x_dk dl_30_0_ok 7 rfl))))
  (x_Tok2
  (x_Lok (x_st (I := xI) (xr_ialdH (x_dk dl_30_0_ok 8 rfl))))
  (x_Lok (x_st (I := xI) (xr_istore_n (i := 2) (x_dk dl_30_0_ok 9 rfl) (by decide +kernel))))))
  (x_Tok2
  (x_Tok2
  (x_Lok (x_st (I := xI) (xr_aload_n (i := 0) (x_dk dl_30_0_ok 10 rfl))))
  (x_Lok (x_st (I := xI) (xr_iload_n (i := 2) (x_dk dl_30_0_ok 11 rfl)))))
  (x_Tok2
  (x_Lok (x_ca (I := xI) (q' := m_31) rfl (xr_callV (q' := m_31) (ix := 52) (n := 1) (in_t4 (List.mem_of_getElem? (i := 70) rfl) rfl) good_w (in_t1 (List.mem_of_getElem? (i := 5) rfl) rfl) (in_t4 (List.mem_of_getElem? (i := 67) rfl) rfl) (in_t4 (List.mem_of_getElem? (i := 69) rfl) rfl) (in_s1 (List.mem_of_getElem? (i := 4) rfl)) (by decide +kernel) (by decide +kernel) (by decide +kernel) (x_dk dl_30_0_ok 12 rfl))))
  (x_Lok (x_st (I := xI) (xr_istore_n (i := 3) (x_dk dl_30_0_ok 13 rfl) (by decide +kernel))))))))
  (x_Tok2
  (x_Tok2
  (x_Tok2
  (x_Lok (x_st (I := xI) (xr_aload_n (i := 0) (x_dk dl_30_0_ok 14 rfl))))
  (x_Tok2
  (x_Lok (x_st (I := xI) (xr_getf (ci := 7) (k := 1) (ix := 15) (N := 8) (C := RX7) (T := TX7) rfl in_X7 (by decide) (in_t1 (List.mem_of_getElem? (i := 138) rfl) rfl) (x_dk dl_30_0_ok 15 rfl))))
  (x_Lok (x_st (I := xI) (xr_iload_n (i := 2) (x_dk dl_30_0_ok 16 rfl))))))
  (x_Tok2
  (x_Tok2
  (x_Lok (x_st (I := xI) (xr_iaload (x_dk dl_30_0_ok 17 rfl))))
  (x_Lok (x_st (I := xI) (xr_ifne (off := 17) (tg := 44) (x_dk dl_30_0_ok 18 rfl) (by decide)))))
  (x_Tok2
  (x_Lok (x_st (I := xI) (xr_iload_n (i := 3) (x_dk dl_30_0_ok 19 rfl))))
  (x_Lok (x_st (I := xI) (xr_ifeq (off := 13) (tg := 44) (x_dk dl_30_0_ok 20 rfl) (by decide)))))))
  (x_Tok2
  (x_Tok2
  (x_Tok2
  (x_Lok (x_st (I := xI) (xr_aload_n (i := 0) (x_dk dl_30_0_ok 21 rfl))))
  (x_Lok (x_st (I := xI) (xr_getf (ci := 7) (k := 1) (ix := 15) (N := 8) (C := RX7) (T := TX7) rfl in_X7 (by decide) (in_t1 (List.mem_of_getElem? (i := 138) rfl) rfl) (x_dk dl_30_0_ok 22 rfl)))))
  (x_Tok2
  (x_Lok (x_st (I := xI) (xr_iload_n (i := 2) (x_dk dl_30_0_ok 23 rfl))))
  (x_Lok (x_st (I := xI) (xr_iload_n (i := 3) (x_dk dl_30_0_ok 24 rfl))))))
  (x_Tok2
  (x_Tok2
  (x_Lok (x_st (I := xI) (xr_iastore (x_dk dl_30_0_ok 25 rfl))))
  (x_Lok (x_st (I := xI) (xr_iincT (i := 1) (x_hev hK) (x_dk dl_30_0_ok 26 rfl) (by decide +kernel)))))
  (x_Tok2
  (x_Lok (x_st (I := xI) (xr_goto (off := (-52)) (tg := 2) (x_dk dl_30_0_ok 27 rfl) (by decide))))
  (x_Lok (x_rt (I := xI) (k := 0) ⟨(x_dk dl_30_0_ok 28 rfl), rfl⟩)))))))
def tb_30 : Nat → xE := tb_30_0
theorem tb_30_ok (K : xKx) (hK : x_KP K) : ∀ pc, x_EOq cls K xI m_30 pc (tb_30 pc) := tb_30_0_ok K hK
def dl_31_0 : List (Nat × Instr × Nat) := [(0, .aload_n 0, 1), (1, .getfield 27, 3), (4, .iload_n 1, 1), (5, .baload, 1), (6, .ifCond .eq 10, 3), (16, .aload_n 0, 1), (17, .getfield 24, 3), (20, .iload_n 1, 1), (21, .iaload, 1), (22, .ifCond .ge 10, 3), (25, .aload_n 0, 1), (26, .getfield 9, 3), (29, .iload_n 1, 1), (30, .iaload, 1), (31, .ireturn, 1)]
set_option maxRecDepth 20000 in
theorem dl_31_0_ok : dl_31_0.all (fun q => decide (decode prog_9_method_10_code q.1 = .ok (q.2.1, q.2.2))) = true := by decide +kernel
def tb_31_0 : Nat → xE := (x_T 17 (x_T 4 (x_T 0 (x_L 0 (0, xi_load 0 2 1, 0, 0)) (x_T 1 (x_L 1 (0, xi_getf 7 5 4, 0, 0)) (x_L 4 (0, xi_load 1 0 5, 0, 0)))) (x_T 6 (x_T 5 (x_L 5 (0, xi_ald true 6, 0, 0)) (x_L 6 (0, xi_if1 0 16 9, 0, 0))) (x_T 16 (x_L 16 (0, xi_load 0 2 17, 0, 0)) (x_L 17 (0, xi_getf 7 4 20, 0, 0))))) (x_T 25 (x_T 21 (x_T 20 (x_L 20 (0, xi_load 1 0 21, 0, 0)) (x_L 21 (0, xi_ald false 22, 0, 0))) (x_T 22 (x_L 22 (0, xi_if1 3 32 25, 0, 0)) (x_L 25 (0, xi_load 0 2 26, 0, 0)))) (x_T 29 (x_T 26 (x_L 26 (0, xi_getf 7 0 29, 0, 0)) (x_L 29 (0, xi_load 1 0 30, 0, 0))) (x_T 30 (x_L 30 (0, xi_ald false 31, 0, 0)) (x_L 31 (1, x_nof, 1, 0))))))
set_option maxRecDepth 20000 in
set_option maxHeartbeats 4000000 in
theorem tb_31_0_ok (K : xKx) (hK : x_KP K) : ∀ pc, x_EOq cls K xI m_31 pc (tb_31_0 pc) :=
  (x_Tok2
  (x_Tok2
  (x_Tok2
  (x_Lok (x_st (I := xI) (xr_aload_n (i := 0) (x_dk dl_31_0_ok 0 rfl))))
  (x_Tok2
  (x_Lok (x_st (I := xI) (xr_getf (ci := 7) (k := 5) (ix := 27) (N := 8) (C := RX7) (T := TX7) rfl in_X7 (by decide) (in_t1 (List.mem_of_getElem? (i := 146) rfl) rfl) (x_dk dl_31_0_ok 1 rfl))))
  (x_Lok (x_st (I := xI) (xr_iload_n (i := 1) (x_dk dl_31_0_ok 2 rfl))))))
  (x_Tok2
  (x_Tok2
  (x_Lok (x_st (I := xI) (xr_baload (x_dk dl_31_0_ok 3 rfl))))
  (x_Lok (x_st (I := xI) (xr_ifeq (off := 10) (tg := 16) (x_dk dl_31_0_ok 4 rfl) (by decide)))))
  (x_Tok2
  (x_Lok (x_st (I := xI) (xr_aload_n (i := 0) (x_dk dl_31_0_ok 5 rfl))))
  (x_Lok (x_st (I := xI) (xr_getf (ci := 7) (k := 4) (ix := 24) (N := 8) (C := RX7) (T := TX7) rfl in_X7 (by decide) (in_t1 (List.mem_of_getElem? (i := 145) rfl) rfl) (x_dk dl_31_0_ok 6 rfl)))))))
  (x_Tok2
  (x_Tok2
  (x_Tok2
  (x_Lok (x_st (I := xI) (xr_iload_n (i := 1) (x_dk dl_31_0_ok 7 rfl))))
  (x_Lok (x_st (I := xI) (xr_iaload (x_dk dl_31_0_ok 8 rfl)))))
  (x_Tok2
  (x_Lok (x_st (I := xI) (xr_ifge (off := 10) (tg := 32) (x_dk dl_31_0_ok 9 rfl) (by decide))))
  (x_Lok (x_st (I := xI) (xr_aload_n (i := 0) (x_dk dl_31_0_ok 10 rfl))))))
  (x_Tok2
  (x_Tok2
  (x_Lok (x_st (I := xI) (xr_getf (ci := 7) (k := 0) (ix := 9) (N := 8) (C := RX7) (T := TX7) rfl in_X7 (by decide) (in_t1 (List.mem_of_getElem? (i := 136) rfl) rfl) (x_dk dl_31_0_ok 11 rfl))))
  (x_Lok (x_st (I := xI) (xr_iload_n (i := 1) (x_dk dl_31_0_ok 12 rfl)))))
  (x_Tok2
  (x_Lok (x_st (I := xI) (xr_iaload (x_dk dl_31_0_ok 13 rfl))))
  (x_Lok (x_rt (I := xI) (k := 1) ⟨(x_dk dl_31_0_ok 14 rfl), rfl⟩))))))
def tb_31 : Nat → xE := tb_31_0
theorem tb_31_ok (K : xKx) (hK : x_KP K) : ∀ pc, x_EOq cls K xI m_31 pc (tb_31 pc) := tb_31_0_ok K hK
def dl_32_0 : List (Nat × Instr × Nat) := [(0, .aload_n 0, 1), (1, .invokespecial 3, 3), (4, .aload_n 0, 1), (5, .iconst (-1), 1), (6, .putfield 9, 3), (9, .aload_n 0, 1), (10, .iconst (-1), 1), (11, .putfield 15, 3), (14, .aload_n 0, 1), (15, .new 18, 3), (18, .dup, 1), (19, .invokespecial 20, 3), (22, .putfield 21, 3), (25, .aload_n 0, 1), (26, .sipush 4000, 3), (29, .newarray .byte, 2), (31, .putfield 25, 3), (34, .aload_n 0, 1), (35, .bipush 32, 2), (37, .newarray .int, 2), (39, .putfield 29, 3), (42, .aload_n 0, 1), (43, .sipush 500, 3), (46, .newarray .int, 2), (48, .putfield 33, 3), (51, .return_, 1)]
set_option maxRecDepth 20000 in
theorem dl_32_0_ok : dl_32_0.all (fun q => decide (decode prog_10_method_1_code q.1 = .ok (q.2.1, q.2.2))) = true := by decide +kernel
def tb_32_0 : Nat → xE := (x_T 22 (x_T 9 (x_T 4 (x_T 0 (x_L 0 (0, xi_load 0 2 1, 0, 0)) (x_T 1 (x_L 1 (0, xi_oi 4, 0, 0)) (x_L 4 (0, xi_load 0 2 5, 0, 0)))) (x_T 5 (x_L 5 (0, xi_push (0, (-1), (-1)) 6, 0, 0)) (x_T 6 (x_L 6 (0, xi_putf 8 1 0 9, 0, 0)) (x_L 9 (0, xi_load 0 2 10, 0, 0))))) (x_T 14 (x_T 10 (x_L 10 (0, xi_push (0, (-1), (-1)) 11, 0, 0)) (x_T 11 (x_L 11 (0, xi_putf 8 2 0 14, 0, 0)) (x_L 14 (0, xi_load 0 2 15, 0, 0)))) (x_T 18 (x_T 15 (x_L 15 (0, xi_new (x_nc 1 ks_X1) (xm_c m_32) (xm_s m_32) 18, 0, 0)) (x_L 18 (0, xi_stk xf_dup 19, 0, 0))) (x_T 19 (x_L 19 (2, x_nof, 7, 1)) (x_L 22 (0, xi_putf 8 3 2 25, 0, 0)))))) (x_T 35 (x_T 29 (x_T 25 (x_L 25 (0, xi_load 0 2 26, 0, 0)) (x_T 26 (x_L 26 (0, xi_push (0, 4000, 4000) 29, 0, 0)) (x_L 29 (0, xi_newa 2 0 (0, 0, 0) (xm_c m_32) (xm_s m_32) 31, 0, 0)))) (x_T 31 (x_L 31 (0, xi_putf 8 4 2 34, 0, 0)) (x_T 34 (x_L 34 (0, xi_load 0 2 35, 0, 0)) (x_L 35 (0, xi_push (0, 32, 32) 37, 0, 0))))) (x_T 42 (x_T 37 (x_L 37 (0, xi_newa 1 0 (0, 0, 0) (xm_c m_32) (xm_s m_32) 39, 0, 0)) (x_T 39 (x_L 39 (0, xi_putf 8 15 2 42, 0, 0)) (x_L 42 (0, xi_load 0 2 43, 0, 0)))) (x_T 46 (x_T 43 (x_L 43 (0, xi_push (0, 500, 500) 46, 0, 0)) (x_L 46 (0, xi_newa 1 0 (0, 0, 0) (xm_c m_32) (xm_s m_32) 48, 0, 0))) (x_T 48 (x_L 48 (0, xi_putf 8 16 2 51, 0, 0)) (x_L 51 (1, x_nof, 0, 0)))))))
set_option maxRecDepth 20000 in
set_option maxHeartbeats 4000000 in
theorem tb_32_0_ok (K : xKx) (hK : x_KP K) : ∀ pc, x_EOq cls K xI m_32 pc (tb_32_0 pc) :=
  (x_Tok2
  (x_Tok2
  (x_Tok2
  (x_Tok2
  (x_Lok (x_st (I := xI) (xr_aload_n (i := 0) (x_dk dl_32_0_ok 0 rfl))))
  (x_Tok2
  (x_Lok (x_st (I := xI) (xr_oi (ix := 3) (in_t1 (List.mem_of_getElem? (i := 34) rfl) rfl) (in_t1 (List.mem_of_getElem? (i := 27) rfl) rfl) (in_t1 (List.mem_of_getElem? (i := 28) rfl) rfl) (x_dk dl_32_0_ok 1 rfl))))
  (x_Lok (x_st (I := xI) (xr_aload_n (i := 0) (x_dk dl_32_0_ok 2 rfl))))))
  (x_Tok2
  (x_Lok (x_st (I := xI) (xr_iconst (n := (-1)) (z := (-1)) (v := (-1)) (x_dk dl_32_0_ok 3 rfl) (by decide) (by decide))))
  (x_Tok2
  (x_Lok (x_st (I := xI) (xr_putf (ci := 8) (k := 1) (ix := 9) (N := 17) (fk := 0) (C := RX8) (T := TX8) (ty0 := tyX8) (ty := .int) rfl in_X8 tyX8_ok nmX8 (by decide) (in_t1 (List.mem_of_getElem? (i := 67) rfl) rfl) rfl rfl x_fit_int (x_dk dl_32_0_ok 4 rfl))))
  (x_Lok (x_st (I := xI) (xr_aload_n (i := 0) (x_dk dl_32_0_ok 5 rfl)))))))
  (x_Tok2
  (x_Tok2
  (x_Lok (x_st (I := xI) (xr_iconst (n := (-1)) (z := (-1)) (v := (-1)) (x_dk dl_32_0_ok 6 rfl) (by decide) (by decide))))
  (x_Tok2
  (x_Lok (x_st (I := xI) (xr_putf (ci := 8) (k := 2) (ix := 15) (N := 17) (fk := 0) (C := RX8) (T := TX8) (ty0 := tyX8) (ty := .int) rfl in_X8 tyX8_ok nmX8 (by decide) (in_t1 (List.mem_of_getElem? (i := 69) rfl) rfl) rfl rfl x_fit_int (x_dk dl_32_0_ok 7 rfl))))
  (x_Lok (x_st (I := xI) (xr_aload_n (i := 0) (x_dk dl_32_0_ok 8 rfl))))))
  (x_Tok2
  (x_Tok2
  (x_Lok (x_st (I := xI) (xr_new (ci := 1) (ix := 18) (N := 5) (C := RX1) (T := TX1) (ty0 := tyX1) (ks := ks_X1) rfl in_X1 tyX1_ok (in_t1 (List.mem_of_getElem? (i := 35) rfl) rfl) (in_t1 (List.mem_of_getElem? (i := 36) rfl) rfl) (in_t1 (List.mem_of_getElem? (i := 3) rfl) rfl) rfl df_X1 (x_dk dl_32_0_ok 9 rfl))))
  (x_Lok (x_st (I := xI) (xr_dup (x_dk dl_32_0_ok 10 rfl)))))
  (x_Tok2
  (x_Lok (x_ca (I := xI) (q' := m_7) rfl (xr_callIN (q' := m_7) (ix := 20) (n := 0) (host := "RobotCellHouse") (in_t1 (List.mem_of_getElem? (i := 39) rfl) rfl) good_w (in_t1 (List.mem_of_getElem? (i := 3) rfl) rfl) (List.mem_of_getElem? (i := 1) rfl) (in_t1 (List.mem_of_getElem? (i := 38) rfl) rfl) rfl rfl (by decide +kernel) (by decide +kernel) (by decide +kernel) (x_dk dl_32_0_ok 11 rfl))))
  (x_Lok (x_st (I := xI) (xr_putf (ci := 8) (k := 3) (ix := 21) (N := 17) (fk := 2) (C := RX8) (T := TX8) (ty0 := tyX8) (ty := .object "RobotCellHouse$Code") rfl in_X8 tyX8_ok nmX8 (by decide) (in_t1 (List.mem_of_getElem? (i := 71) rfl) rfl) rfl rfl x_fit_obj (x_dk dl_32_0_ok 12 rfl))))))))
  (x_Tok2
  (x_Tok2
  (x_Tok2
  (x_Lok (x_st (I := xI) (xr_aload_n (i := 0) (x_dk dl_32_0_ok 13 rfl))))
  (x_Tok2
  (x_Lok (x_st (I := xI) (xr_sipush (n := 4000) (z := 4000) (v := 4000) (x_dk dl_32_0_ok 14 rfl) (by decide) (by decide))))
  (x_Lok (x_st (I := xI) (xr_newa (kd := 2) (b := true) (ty := .byte) rfl rfl (in_t1 (List.mem_of_getElem? (i := 121) rfl) rfl) (x_dk dl_32_0_ok 15 rfl))))))
  (x_Tok2
  (x_Lok (x_st (I := xI) (xr_putF (ci := 8) (k := 4) (ix := 25) (N := 17) (fk := 2) (C := RX8) (T := TX8) (ty0 := tyX8) (ty := .array .byte) rfl in_X8 tyX8_ok nmX8 (by decide) (in_t1 (List.mem_of_getElem? (i := 73) rfl) rfl) rfl rfl rfl rfl x_fit_arr (x_dk dl_32_0_ok 16 rfl))))
  (x_Tok2
  (x_Lok (x_st (I := xI) (xr_aload_n (i := 0) (x_dk dl_32_0_ok 17 rfl))))
  (x_Lok (x_st (I := xI) (xr_bipush (n := 32) (z := 32) (v := 32) (x_dk dl_32_0_ok 18 rfl) (by decide) (by decide)))))))
  (x_Tok2
  (x_Tok2
  (x_Lok (x_st (I := xI) (xr_newa (kd := 1) (b := false) (ty := .int) rfl rfl (in_t1 (List.mem_of_getElem? (i := 64) rfl) rfl) (x_dk dl_32_0_ok 19 rfl))))
  (x_Tok2
  (x_Lok (x_st (I := xI) (xr_putF (ci := 8) (k := 15) (ix := 29) (N := 17) (fk := 2) (C := RX8) (T := TX8) (ty0 := tyX8) (ty := .array .int) rfl in_X8 tyX8_ok nmX8 (by decide) (in_t1 (List.mem_of_getElem? (i := 84) rfl) rfl) rfl rfl rfl rfl x_fit_arr (x_dk dl_32_0_ok 20 rfl))))
  (x_Lok (x_st (I := xI) (xr_aload_n (i := 0) (x_dk dl_32_0_ok 21 rfl))))))
  (x_Tok2
  (x_Tok2
  (x_Lok (x_st (I := xI) (xr_sipush (n := 500) (z := 500) (v := 500) (x_dk dl_32_0_ok 22 rfl) (by decide) (by decide))))
  (x_Lok (x_st (I := xI) (xr_newa (kd := 1) (b := false) (ty := .int) rfl rfl (in_t1 (List.mem_of_getElem? (i := 64) rfl) rfl) (x_dk dl_32_0_ok 23 rfl)))))
  (x_Tok2
  (x_Lok (x_st (I := xI) (xr_putF (ci := 8) (k := 16) (ix := 33) (N := 17) (fk := 2) (C := RX8) (T := TX8) (ty0 := tyX8) (ty := .array .int) rfl in_X8 tyX8_ok nmX8 (by decide) (in_t1 (List.mem_of_getElem? (i := 85) rfl) rfl) rfl rfl rfl rfl x_fit_arr (x_dk dl_32_0_ok 24 rfl))))
  (x_Lok (x_rt (I := xI) (k := 0) ⟨(x_dk dl_32_0_ok 25 rfl), rfl⟩)))))))
def tb_32 : Nat → xE := tb_32_0
theorem tb_32_ok (K : xKx) (hK : x_KP K) : ∀ pc, x_EOq cls K xI m_32 pc (tb_32 pc) := tb_32_0_ok K hK
def dl_33_0 : List (Nat × Instr × Nat) := [(0, .bipush 24, 2), (2, .istore_n 2, 1), (3, .iload_n 2, 1), (4, .ifCond .lt 42, 3), (7, .aload_n 0, 1), (8, .getfield 36, 3), (11, .sipush 4000, 3), (14, .if_icmp .ge 32, 3), (17, .aload_n 0, 1), (18, .getfield 25, 3), (21, .aload_n 0, 1), (22, .getfield 36, 3), (25, .iload_n 1, 1), (26, .iload_n 2, 1), (27, .ishr, 1), (28, .i2b, 1), (29, .bastore, 1), (30, .aload_n 0, 1), (31, .dup, 1), (32, .getfield 36, 3), (35, .iconst 1, 1), (36, .iadd, 1), (37, .putfield 36, 3), (40, .iinc 2 (-8), 3), (43, .goto (-40), 3), (46, .return_, 1)]
set_option maxRecDepth 20000 in
theorem dl_33_0_ok : dl_33_0.all (fun q => decide (decode prog_10_method_2_code q.1 = .ok (q.2.1, q.2.2))) = true := by decide +kernel
def tb_33_0 : Nat → xE := (x_T 25 (x_T 8 (x_T 3 (x_T 0 (x_L 0 (0, xi_push (0, 24, 24) 2, 0, 0)) (x_T 2 (x_L 2 (0, xi_stor 2 0 3, 0, 0)) (x_L 3 (0, xi_load 2 0 4, 0, 0)))) (x_T 4 (x_L 4 (0, xi_if1 2 46 7, 0, 0)) (x_T 7 (x_L 7 (0, xi_load 0 2 8, 0, 0)) (x_L 8 (0, xi_getf 8 0 11, 0, 0))))) (x_T 17 (x_T 11 (x_L 11 (0, xi_push (0, 4000, 4000) 14, 0, 0)) (x_T 14 (x_L 14 (0, xi_if2 3 46 17, 0, 0)) (x_L 17 (0, xi_load 0 2 18, 0, 0)))) (x_T 21 (x_T 18 (x_L 18 (0, xi_getf 8 4 21, 0, 0)) (x_L 21 (0, xi_load 0 2 22, 0, 0))) (x_T 22 (x_L 22 (0, xi_getf 8 0 25, 0, 0)) (x_L 25 (0, xi_load 1 0 26, 0, 0)))))) (x_T 31 (x_T 28 (x_T 26 (x_L 26 (0, xi_load 2 0 27, 0, 0)) (x_T 27 (x_L 27 (0, xi_bin xF_any 28, 0, 0)) (x_L 28 (0, xi_un xF_byte 29, 0, 0)))) (x_T 29 (x_L 29 (0, xi_ast true 30, 0, 0)) (x_T 30 (x_L 30 (0, xi_load 0 2 31, 0, 0)) (x_L 31 (0, xi_stk xf_dup 32, 0, 0))))) (x_T 36 (x_T 32 (x_L 32 (0, xi_getf 8 0 35, 0, 0)) (x_T 35 (x_L 35 (0, xi_push (0, 1, 1) 36, 0, 0)) (x_L 36 (0, xi_bin xF_add 37, 0, 0)))) (x_T 40 (x_T 37 (x_L 37 (0, xi_putf 8 0 0 40, 0, 0)) (x_L 40 (0, xi_inc 2 (-8) 43, 0, 0))) (x_T 43 (x_L 43 (0, xi_goto 3, 0, 0)) (x_L 46 (1, x_nof, 0, 0)))))))
set_option maxRecDepth 20000 in
set_option maxHeartbeats 4000000 in
theorem tb_33_0_ok (K : xKx) (hK : x_KP K) : ∀ pc, x_EOq cls K xI m_33 pc (tb_33_0 pc) :=
  (x_Tok2
  (x_Tok2
  (x_Tok2
  (x_Tok2
  (x_Lok (x_st (I := xI) (xr_bipush (n := 24) (z := 24) (v := 24) (x_dk dl_33_0_ok 0 rfl) (by decide) (by decide))))
  (x_Tok2
  (x_Lok (x_st (I := xI) (xr_istore_n (i := 2) (x_dk dl_33_0_ok 1 rfl) (by decide +kernel))))
  (x_Lok (x_st (I := xI) (xr_iload_n (i := 2) (x_dk dl_33_0_ok 2 rfl))))))
  (x_Tok2
  (x_Lok (x_st (I := xI) (xr_iflt (off := 42) (tg := 46) (x_dk dl_33_0_ok 3 rfl) (by decide))))
  (x_Tok2
  (x_Lok (x_st (I := xI) (xr_aload_n (i := 0) (x_dk dl_33_0_ok 4 rfl))))
  (x_Lok (x_st (I := xI) (xr_getf (ci := 8) (k := 0) (ix := 36) (N := 17) (C := RX8) (T := TX8) rfl in_X8 (by decide) (in_t1 (List.mem_of_getElem? (i := 66) rfl) rfl) (x_dk dl_33_0_ok 5 rfl)))))))
  (x_Tok2
  (x_Tok2
  (x_Lok (x_st (I := xI) (xr_sipush (n := 4000) (z := 4000) (v := 4000) (x_dk dl_33_0_ok 6 rfl) (by decide) (by decide))))
  (x_Tok2
  (x_Lok (x_st (I := xI) (xr_icmpge (off := 32) (tg := 46) (x_dk dl_33_0_ok 7 rfl) (by decide))))
  (x_Lok (x_st (I := xI) (xr_aload_n (i := 0) (x_dk dl_33_0_ok 8 rfl))))))
  (x_Tok2
  (x_Tok2
  (x_Lok (x_st (I := xI) (xr_getf (ci := 8) (k := 4) (ix := 25) (N := 17) (C := RX8) (T := TX8) rfl in_X8 (by decide) (in_t1 (List.mem_of_getElem? (i := 73) rfl) rfl) (x_dk dl_33_0_ok 9 rfl))))
  (x_Lok (x_st (I := xI) (xr_aload_n (i := 0) (x_dk dl_33_0_ok 10 rfl)))))
  (x_Tok2
  (x_Lok (x_st (I := xI) (xr_getf (ci := 8) (k := 0) (ix := 36) (N := 17) (C := RX8) (T := TX8) rfl in_X8 (by decide) (in_t1 (List.mem_of_getElem? (i := 66) rfl) rfl) (x_dk dl_33_0_ok 11 rfl))))
  (x_Lok (x_st (I := xI) (xr_iload_n (i := 1) (x_dk dl_33_0_ok 12 rfl))))))))
  (x_Tok2
  (x_Tok2
  (x_Tok2
  (x_Lok (x_st (I := xI) (xr_iload_n (i := 2) (x_dk dl_33_0_ok 13 rfl))))
  (x_Tok2
  (x_Lok (x_st (I := xI) (xr_ishr (x_dk dl_33_0_ok 14 rfl))))
  (x_Lok (x_st (I := xI) (xr_i2b (x_dk dl_33_0_ok 15 rfl))))))
  (x_Tok2
  (x_Lok (x_st (I := xI) (xr_bastore (x_dk dl_33_0_ok 16 rfl))))
  (x_Tok2
  (x_Lok (x_st (I := xI) (xr_aload_n (i := 0) (x_dk dl_33_0_ok 17 rfl))))
  (x_Lok (x_st (I := xI) (xr_dup (x_dk dl_33_0_ok 18 rfl)))))))
  (x_Tok2
  (x_Tok2
  (x_Lok (x_st (I := xI) (xr_getf (ci := 8) (k := 0) (ix := 36) (N := 17) (C := RX8) (T := TX8) rfl in_X8 (by decide) (in_t1 (List.mem_of_getElem? (i := 66) rfl) rfl) (x_dk dl_33_0_ok 19 rfl))))
  (x_Tok2
  (x_Lok (x_st (I := xI) (xr_iconst (n := 1) (z := 1) (v := 1) (x_dk dl_33_0_ok 20 rfl) (by decide) (by decide))))
  (x_Lok (x_st (I := xI) (xr_iadd (x_dk dl_33_0_ok 21 rfl))))))
  (x_Tok2
  (x_Tok2
  (x_Lok (x_st (I := xI) (xr_putf (ci := 8) (k := 0) (ix := 36) (N := 17) (fk := 0) (C := RX8) (T := TX8) (ty0 := tyX8) (ty := .int) rfl in_X8 tyX8_ok nmX8 (by decide) (in_t1 (List.mem_of_getElem? (i := 66) rfl) rfl) rfl rfl x_fit_int (x_dk dl_33_0_ok 22 rfl))))
  (x_Lok (x_st (I := xI) (xr_iinc (i := 2) (n := (-8)) (x_dk dl_33_0_ok 23 rfl) (by decide +kernel) (by decide)))))
  (x_Tok2
  (x_Lok (x_st (I := xI) (xr_goto (off := (-40)) (tg := 3) (x_dk dl_33_0_ok 24 rfl) (by decide))))
  (x_Lok (x_rt (I := xI) (k := 0) ⟨(x_dk dl_33_0_ok 25 rfl), rfl⟩)))))))
def tb_33 : Nat → xE := tb_33_0
theorem tb_33_ok (K : xKx) (hK : x_KP K) : ∀ pc, x_EOq cls K xI m_33 pc (tb_33 pc) := tb_33_0_ok K hK
def dl_34_0 : List (Nat × Instr × Nat) := [(0, .aload_n 0, 1), (1, .invokespecial 3, 3), (4, .aload_n 0, 1), (5, .bipush 16, 2), (7, .newarray .int, 2), (9, .putfield 9, 3), (12, .aload_n 0, 1), (13, .bipush 16, 2), (15, .newarray .int, 2), (17, .putfield 15, 3), (20, .aload_n 0, 1), (21, .bipush 16, 2), (23, .newarray .int, 2), (25, .putfield 18, 3), (28, .aload_n 0, 1), (29, .bipush 16, 2), (31, .newarray .int, 2), (33, .putfield 21, 3), (36, .aload_n 0, 1), (37, .bipush 16, 2), (39, .newarray .int, 2), (41, .putfield 24, 3), (44, .aload_n 0, 1), (45, .bipush 8, 2), (47, .newarray .int, 2), (49, .putfield 27, 3), (52, .aload_n 0, 1), (53, .bipush 8, 2), (55, .newarray .int, 2), (57, .putfield 30, 3), (60, .aload_n 0, 1), (61, .bipush 8, 2), (63, .newarray .int, 2), (65, .putfield 33, 3), (68, .aload_n 0, 1), (69, .bipush 8, 2), (71, .newarray .int, 2), (73, .putfield 36, 3), (76, .aload_n 0, 1), (77, .bipush 8, 2), (79, .newarray .int, 2), (81, .putfield 39, 3), (84, .aload_n 0, 1), (85, .bipush 8, 2), (87, .newarray .int, 2), (89, .putfield 42, 3), (92, .return_, 1)]
set_option maxRecDepth 20000 in
theorem dl_34_0_ok : dl_34_0.all (fun q => decide (decode prog_11_method_1_code q.1 = .ok (q.2.1, q.2.2))) = true := by decide +kernel
def tb_34_0 : Nat → xE := (x_T 20 (x_T 7 (x_T 1 (x_T 0 (x_L 0 (0, xi_load 0 2 1, 0, 0)) (x_L 1 (0, xi_oi 4, 0, 0))) (x_T 4 (x_L 4 (0, xi_load 0 2 5, 0, 0)) (x_T 5 (x_L 5 (0, xi_push (0, 16, 16) 7, 0, 0)) (x_L 7 (0, xi_newa 1 0 (0, 0, 0) (xm_c m_34) (xm_s m_34) 9, 0, 0))))) (x_T 13 (x_T 9 (x_L 9 (0, xi_putf 9 2 2 12, 0, 0)) (x_T 12 (x_L 12 (0, xi_load 0 2 13, 0, 0)) (x_L 13 (0, xi_push (0, 16, 16) 15, 0, 0)))) (x_T 15 (x_L 15 (0, xi_newa 1 0 (0, 0, 0) (xm_c m_34) (xm_s m_34) 17, 0, 0)) (x_T 17 (x_L 17 (0, xi_putf 9 3 2 20, 0, 0)) (x_L 20 (0, xi_load 0 2 21, 0, 0)))))) (x_T 31 (x_T 25 (x_T 21 (x_L 21 (0, xi_push (0, 16, 16) 23, 0, 0)) (x_T 23 (x_L 23 (0, xi_newa 1 0 (0, 0, 0) (xm_c m_34) (xm_s m_34) 25, 0, 0)) (x_L 25 (0, xi_putf 9 4 2 28, 0, 0)))) (x_T 28 (x_L 28 (0, xi_load 0 2 29, 0, 0)) (x_T 29 (x_L 29 (0, xi_push (0, 16, 16) 31, 0, 0)) (x_L 31 (0, xi_newa 1 0 (0, 0, 0) (xm_c m_34) (xm_s m_34) 33, 0, 0))))) (x_T 37 (x_T 33 (x_L 33 (0, xi_putf 9 5 2 36, 0, 0)) (x_T 36 (x_L 36 (0, xi_load 0 2 37, 0, 0)) (x_L 37 (0, xi_push (0, 16, 16) 39, 0, 0)))) (x_T 39 (x_L 39 (0, xi_newa 1 0 (0, 0, 0) (xm_c m_34) (xm_s m_34) 41, 0, 0)) (x_T 41 (x_L 41 (0, xi_putf 9 6 2 44, 0, 0)) (x_L 44 (0, xi_load 0 2 45, 0, 0)))))))
set_option maxRecDepth 20000 in
set_option maxHeartbeats 4000000 in
theorem tb_34_0_ok (K : xKx) (hK : x_KP K) : ∀ pc, x_EOq cls K xI m_34 pc (tb_34_0 pc) :=
  (x_Tok2
  (x_Tok2
  (x_Tok2
  (x_Tok2
  (x_Lok (x_st (I := xI) (xr_aload_n (i := 0) (x_dk dl_34_0_ok 0 rfl))))
  (x_Lok (x_st (I := xI) (xr_oi (ix := 3) (in_t3 (List.mem_of_getElem? (i := 136) rfl) rfl) (in_t1 (List.mem_of_getElem? (i := 27) rfl) rfl) (in_t1 (List.mem_of_getElem? (i := 28) rfl) rfl) (x_dk dl_34_0_ok 1 rfl)))))
  (x_Tok2
  (x_Lok (x_st (I := xI) (xr_aload_n (i := 0) (x_dk dl_34_0_ok 2 rfl))))
  (x_Tok2
  (x_Lok (x_st (I := xI) (xr_bipush (n := 16) (z := 16) (v := 16) (x_dk dl_34_0_ok 3 rfl) (by decide) (by decide))))
  (x_Lok (x_st (I := xI) (xr_newa (kd := 1) (b := false) (ty := .int) rfl rfl (in_t1 (List.mem_of_getElem? (i := 64) rfl) rfl) (x_dk dl_34_0_ok 4 rfl)))))))
  (x_Tok2
  (x_Tok2
  (x_Lok (x_st (I := xI) (xr_putF (ci := 9) (k := 2) (ix := 9) (N := 17) (fk := 2) (C := RX9) (T := TX9) (ty0 := tyX9) (ty := .array .int) rfl in_X9 tyX9_ok nmX9 (by decide) (in_t3 (List.mem_of_getElem? (i := 141) rfl) rfl) rfl rfl rfl rfl x_fit_arr (x_dk dl_34_0_ok 5 rfl))))
  (x_Tok2
  (x_Lok (x_st (I := xI) (xr_aload_n (i := 0) (x_dk dl_34_0_ok 6 rfl))))
  (x_Lok (x_st (I := xI) (xr_bipush (n := 16) (z := 16) (v := 16) (x_dk dl_34_0_ok 7 rfl) (by decide) (by decide))))))
  (x_Tok2
  (x_Lok (x_st (I := xI) (xr_newa (kd := 1) (b := false) (ty := .int) rfl rfl (in_t1 (List.mem_of_getElem? (i := 64) rfl) rfl) (x_dk dl_34_0_ok 8 rfl))))
  (x_Tok2
  (x_Lok (x_st (I := xI) (xr_putF (ci := 9) (k := 3) (ix := 15) (N := 17) (fk := 2) (C := RX9) (T := TX9) (ty0 := tyX9) (ty := .array .int) rfl in_X9 tyX9_ok nmX9 (by decide) (in_t3 (List.mem_of_getElem? (i := 142) rfl) rfl) rfl rfl rfl rfl x_fit_arr (x_dk dl_34_0_ok 9 rfl))))
  (x_Lok (x_st (I := xI) (xr_aload_n (i := 0) (x_dk dl_34_0_ok 10 rfl))))))))
  (x_Tok2
  (x_Tok2
  (x_Tok2
  (x_Lok (x_st (I := xI) (xr_bipush (n := 16) (z := 16) (v := 16) (x_dk dl_34_0_ok 11 rfl) (by decide) (by decide))))
  (x_Tok2
  (x_Lok (x_st (I := xI) (xr_newa (kd := 1) (b := false) (ty := .int) rfl rfl (in_t1 (List.mem_of_getElem? (i := 64) rfl) rfl) (x_dk dl_34_0_ok 12 rfl))))
  (x_Lok (x_st (I := xI) (xr_putF (ci := 9) (k := 4) (ix := 18) (N := 17) (fk := 2) (C := RX9) (T := TX9) (ty0 := tyX9) (ty := .array .int) rfl in_X9 tyX9_ok nmX9 (by decide) (in_t3 (List.mem_of_getElem? (i := 143) rfl) rfl) rfl rfl rfl rfl x_fit_arr (x_dk dl_34_0_ok 13 rfl))))))
  (x_Tok2
  (x_Lok (x_st (I := xI) (xr_aload_n (i := 0) (x_dk dl_34_0_ok 14 rfl))))
  (x_Tok2
  (x_Lok (x_st (I := xI) (xr_bipush (n := 16) (z := 16) (v := 16) (x_dk dl_34_0_ok 15 rfl) (by decide) (by decide))))
  (x_Lok (x_st (I := xI) (xr_newa (kd := 1) (b := false) (ty := .int) rfl rfl (in_t1 (List.mem_of_getElem? (i := 64) rfl) rfl) (x_dk dl_34_0_ok 16 rfl)))))))
  (x_Tok2
  (x_Tok2
  (x_Lok (x_st (I := xI) (xr_putF (ci := 9) (k := 5) (ix := 21) (N := 17) (fk := 2) (C := RX9) (T := TX9) (ty0 := tyX9) (ty := .array .int) rfl in_X9 tyX9_ok nmX9 (by decide) (in_t3 (List.mem_of_getElem? (i := 144) rfl) rfl) rfl rfl rfl rfl x_fit_arr (x_dk dl_34_0_ok 17 rfl))))
  (x_Tok2
  (x_Lok (x_st (I := xI) (xr_aload_n (i := 0) (x_dk dl_34_0_ok 18 rfl))))
  (x_Lok (x_st (I := xI) (xr_bipush (n := 16) (z := 16) (v := 16) (x_dk dl_34_0_ok 19 rfl) (by decide) (by decide))))))
  (x_Tok2
  (x_Lok (x_st (I := xI) (xr_newa (kd := 1) (b := false) (ty := .int) rfl rfl (in_t1 (List.mem_of_getElem? (i := 64) rfl) rfl) (x_dk dl_34_0_ok 20 rfl))))
  (x_Tok2
  (x_Lok (x_st (I := xI) (xr_putF (ci := 9) (k := 6) (ix := 24) (N := 17) (fk := 2) (C := RX9) (T := TX9) (ty0 := tyX9) (ty := .array .int) rfl in_X9 tyX9_ok nmX9 (by decide) (in_t3 (List.mem_of_getElem? (i := 145) rfl) rfl) rfl rfl rfl rfl x_fit_arr (x_dk dl_34_0_ok 21 rfl))))
  (x_Lok (x_st (I := xI) (xr_aload_n (i := 0) (x_dk dl_34_0_ok 22 rfl)))))))))
def tb_34_23 : Nat → xE := (x_T 68 (x_T 55 (x_T 49 (x_T 45 (x_L 45 (0, xi_push (0, 8, 8) 47, 0, 0)) (x_T 47 (x_L 47 (0, xi_newa 1 0 (0, 0, 0) (xm_c m_34) (xm_s m_34) 49, 0, 0)) (x_L 49 (0, xi_putf 9 7 2 52, 0, 0)))) (x_T 52 (x_L 52 (0, xi_load 0 2 53, 0, 0)) (x_T 53 (x_L 53 (0, xi_push (0, 8, 8) 55, 0, 0)) (x_L 55 (0, xi_newa 1 0 (0, 0, 0) (xm_c m_34) (xm_s m_34) 57, 0, 0))))) (x_T 61 (x_T 57 (x_L 57 (0, xi_putf 9 8 2 60, 0, 0)) (x_T 60 (x_L 60 (0, xi_load 0 2 61, 0, 0)) (x_L 61 (0, xi_push (0, 8, 8) 63, 0, 0)))) (x_T 63 (x_L 63 (0, xi_newa 1 0 (0, 0, 0) (xm_c m_34) (xm_s m_34) 65, 0, 0)) (x_T 65 (x_L 65 (0, xi_putf 9 9 2 68, 0, 0)) (x_L 68 (0, xi_load 0 2 69, 0, 0)))))) (x_T 79 (x_T 73 (x_T 69 (x_L 69 (0, xi_push (0, 8, 8) 71, 0, 0)) (x_T 71 (x_L 71 (0, xi_newa 1 0 (0, 0, 0) (xm_c m_34) (xm_s m_34) 73, 0, 0)) (x_L 73 (0, xi_putf 9 10 2 76, 0, 0)))) (x_T 76 (x_L 76 (0, xi_load 0 2 77, 0, 0)) (x_T 77 (x_L 77 (0, xi_push (0, 8, 8) 79, 0, 0)) (x_L 79 (0, xi_newa 1 0 (0, 0, 0) (xm_c m_34) (xm_s m_34) 81, 0, 0))))) (x_T 85 (x_T 81 (x_L 81 (0, xi_putf 9 11 2 84, 0, 0)) (x_T 84 (x_L 84 (0, xi_load 0 2 85, 0, 0)) (x_L 85 (0, xi_push (0, 8, 8) 87, 0, 0)))) (x_T 87 (x_L 87 (0, xi_newa 1 0 (0, 0, 0) (xm_c m_34) (xm_s m_34) 89, 0, 0)) (x_T 89 (x_L 89 (0, xi_putf 9 12 2 92, 0, 0)) (x_L 92 (1, x_nof, 0, 0)))))))
set_option maxRecDepth 20000 in
set_option maxHeartbeats 4000000 in
theorem tb_34_23_ok (K : xKx) (hK : x_KP K) : ∀ pc, x_EOq cls K xI m_34 pc (tb_34_23 pc) :=
  (x_Tok2
  (x_Tok2
  (x_Tok2
  (x_Tok2
  (x_Lok (x_st (I := xI) (xr_bipush (n := 8) (z := 8) (v := 8) (x_dk dl_34_0_ok 23 rfl) (by decide) (by decide))))
  (x_Tok2
  (x_Lok (x_st (I := xI) (xr_newa (kd := 1) (b := false) (ty := .int) rfl rfl (in_t1 (List.mem_of_getElem? (i := 64) rfl) rfl) (x_dk dl_34_0_ok 24 rfl))))
  (x_Lok (x_st (I := xI) (xr_putF (ci := 9) (k := 7) (ix := 27) (N := 17) (fk := 2) (C := RX9) (T := TX9) (ty0 := tyX9) (ty := .array .int) rfl in_X9 tyX9_ok nmX9 (by decide) (in_t3 (List.mem_of_getElem? (i := 146) rfl) rfl) rfl rfl rfl rfl x_fit_arr (x_dk dl_34_0_ok 25 rfl))))))
  (x_Tok2
  (x_Lok (x_st (I := xI) (xr_aload_n (i := 0) (x_dk dl_34_0_ok 26 rfl))))
  (x_Tok2
  (x_Lok (x_st (I := xI) (xr_bipush (n := 8) (z := 8) (v := 8) (x_dk dl_34_0_ok 27 rfl) (by decide) (by decide))))
  (x_Lok (x_st (I := xI) (xr_newa (kd := 1) (b := false) (ty := .int) rfl rfl (in_t1 (List.mem_of_getElem? (i := 64) rfl) rfl) (x_dk dl_34_0_ok 28 rfl)))))))
  (x_Tok2
  (x_Tok2
  (x_Lok (x_st (I := xI) (xr_putF (ci := 9) (k := 8) (ix := 30) (N := 17) (fk := 2) (C := RX9) (T := TX9) (ty0 := tyX9) (ty := .array .int) rfl in_X9 tyX9_ok nmX9 (by decide) (in_t3 (List.mem_of_getElem? (i := 147) rfl) rfl) rfl rfl rfl rfl x_fit_arr (x_dk dl_34_0_ok 29 rfl))))
  (x_Tok2
  (x_Lok (x_st (I := xI) (xr_aload_n (i := 0) (x_dk dl_34_0_ok 30 rfl))))
  (x_Lok (x_st (I := xI) (xr_bipush (n := 8) (z := 8) (v := 8) (x_dk dl_34_0_ok 31 rfl) (by decide) (by decide))))))
  (x_Tok2
  (x_Lok (x_st (I := xI) (xr_newa (kd := 1) (b := false) (ty := .int) rfl rfl (in_t1 (List.mem_of_getElem? (i := 64) rfl) rfl) (x_dk dl_34_0_ok 32 rfl))))
  (x_Tok2
  (x_Lok (x_st (I := xI) (xr_putF (ci := 9) (k := 9) (ix := 33) (N := 17) (fk := 2) (C := RX9) (T := TX9) (ty0 := tyX9) (ty := .array .int) rfl in_X9 tyX9_ok nmX9 (by decide) (in_t3 (List.mem_of_getElem? (i := 149) rfl) rfl) rfl rfl rfl rfl x_fit_arr (x_dk dl_34_0_ok 33 rfl))))
  (x_Lok (x_st (I := xI) (xr_aload_n (i := 0) (x_dk dl_34_0_ok 34 rfl))))))))
  (x_Tok2
  (x_Tok2
  (x_Tok2
  (x_Lok (x_st (I := xI) (xr_bipush (n := 8) (z := 8) (v := 8) (x_dk dl_34_0_ok 35 rfl) (by decide) (by decide))))
  (x_Tok2
  (x_Lok (x_st (I := xI) (xr_newa (kd := 1) (b := false) (ty := .int) rfl rfl (in_t1 (List.mem_of_getElem? (i := 64) rfl) rfl) (x_dk dl_34_0_ok 36 rfl))))
  (x_Lok (x_st (I := xI) (xr_putF (ci := 9) (k := 10) (ix := 36) (N := 17) (fk := 2) (C := RX9) (T := TX9) (ty0 := tyX9) (ty := .array .int) rfl in_X9 tyX9_ok nmX9 (by decide) (in_t3 (List.mem_of_getElem? (i := 150) rfl) rfl) rfl rfl rfl rfl x_fit_arr (x_dk dl_34_0_ok 37 rfl))))))
  (x_Tok2
  (x_Lok (x_st (I := xI) (xr_aload_n (i := 0) (x_dk dl_34_0_ok 38 rfl))))
  (x_Tok2
  (x_Lok (x_st (I := xI) (xr_bipush (n := 8) (z := 8) (v := 8) (x_dk dl_34_0_ok 39 rfl) (by decide) (by decide))))
  (x_Lok (x_st (I := xI) (xr_newa (kd := 1) (b := false) (ty := .int) rfl rfl (in_t1 (List.mem_of_getElem? (i := 64) rfl) rfl) (x_dk dl_34_0_ok 40 rfl)))))))
  (x_Tok2
  (x_Tok2
  (x_Lok (x_st (I := xI) (xr_putF (ci := 9) (k := 11) (ix := 39) (N := 17) (fk := 2) (C := RX9) (T := TX9) (ty0 := tyX9) (ty := .array .int) rfl in_X9 tyX9_ok nmX9 (by decide) (in_t3 (List.mem_of_getElem? (i := 151) rfl) rfl) rfl rfl rfl rfl x_fit_arr (x_dk dl_34_0_ok 41 rfl))))
  (x_Tok2
  (x_Lok (x_st (I := xI) (xr_aload_n (i := 0) (x_dk dl_34_0_ok 42 rfl))))
  (x_Lok (x_st (I := xI) (xr_bipush (n := 8) (z := 8) (v := 8) (x_dk dl_34_0_ok 43 rfl) (by decide) (by decide))))))
  (x_Tok2
  (x_Lok (x_st (I := xI) (xr_newa (kd := 1) (b := false) (ty := .int) rfl rfl (in_t1 (List.mem_of_getElem? (i := 64) rfl) rfl) (x_dk dl_34_0_ok 44 rfl))))
  (x_Tok2
  (x_Lok (x_st (I := xI) (xr_putF (ci := 9) (k := 12) (ix := 42) (N := 17) (fk := 2) (C := RX9) (T := TX9) (ty0 := tyX9) (ty := .array .int) rfl in_X9 tyX9_ok nmX9 (by decide) (in_t3 (List.mem_of_getElem? (i := 152) rfl) rfl) rfl rfl rfl rfl x_fit_arr (x_dk dl_34_0_ok 45 rfl))))
  (x_Lok (x_rt (I := xI) (k := 0) ⟨(x_dk dl_34_0_ok 46 rfl), rfl⟩)))))))
def tb_34 : Nat → xE := (x_T 44 tb_34_0 tb_34_23)
theorem tb_34_ok (K : xKx) (hK : x_KP K) : ∀ pc, x_EOq cls K xI m_34 pc (tb_34 pc) := (x_Tok2 (tb_34_0_ok K hK) (tb_34_23_ok K hK))
def dl_35_0 : List (Nat × Instr × Nat) := [(0, .aload_n 0, 1), (1, .getfield 45, 3), (4, .bipush 16, 2), (6, .if_icmp .lt 6, 3), (12, .aload_n 0, 1), (13, .getfield 9, 3), (16, .aload_n 0, 1), (17, .getfield 45, 3), (20, .iload_n 1, 1), (21, .iastore, 1), (22, .aload_n 0, 1), (23, .getfield 15, 3), (26, .aload_n 0, 1), (27, .getfield 45, 3), (30, .iload_n 2, 1), (31, .iastore, 1), (32, .aload_n 0, 1), (33, .getfield 18, 3), (36, .aload_n 0, 1), (37, .getfield 45, 3), (40, .iload_n 3, 1), (41, .iastore, 1), (42, .aload_n 0, 1), (43, .getfield 21, 3), (46, .aload_n 0, 1), (47, .getfield 45, 3), (50, .iload 4, 2), (52, .iastore, 1), (53, .aload_n 0, 1), (54, .getfield 24, 3), (57, .aload_n 0, 1), (58, .getfield 45, 3), (61, .iload 5, 2), (63, .iastore, 1), (64, .aload_n 0, 1), (65, .dup, 1), (66, .getfield 45, 3), (69, .iconst 1, 1), (70, .iadd, 1), (71, .putfield 45, 3), (74, .aload_n 0, 1), (75, .getfield 45, 3), (78, .iconst 1, 1), (79, .isub, 1), (80, .ireturn, 1)]
set_option maxRecDepth 20000 in
theorem dl_35_0_ok : dl_35_0.all (fun q => decide (decode prog_11_method_2_code q.1 = .ok (q.2.1, q.2.2))) = true := by decide +kernel
def tb_35_0 : Nat → xE := (x_T 22 (x_T 12 (x_T 1 (x_T 0 (x_L 0 (0, xi_load 0 2 1, 0, 0)) (x_L 1 (0, xi_getf 9 0 4, 0, 0))) (x_T 4 (x_L 4 (0, xi_push (0, 16, 16) 6, 0, 0)) (x_T 6 (x_L 6 (0, xi_if2 2 12 9, 0, 0)) (x_L 12 (0, xi_load 0 2 13, 0, 0))))) (x_T 17 (x_T 13 (x_L 13 (0, xi_getf 9 2 16, 0, 0)) (x_T 16 (x_L 16 (0, xi_load 0 2 17, 0, 0)) (x_L 17 (0, xi_getf 9 0 20, 0, 0)))) (x_T 20 (x_L 20 (0, xi_load 1 0 21, 0, 0)) (x_T 21 (x_L 21 (0, xi_ast false 22, 0, 0)) (x_L 22 (0, xi_load 0 2 23, 0, 0)))))) (x_T 31 (x_T 26 (x_T 23 (x_L 23 (0, xi_getf 9 3 26, 0, 0)) (x_L 26 (0, xi_load 0 2 27, 0, 0))) (x_T 27 (x_L 27 (0, xi_getf 9 0 30, 0, 0)) (x_T 30 (x_L 30 (0, xi_load 2 0 31, 0, 0)) (x_L 31 (0, xi_ast false 32, 0, 0))))) (x_T 36 (x_T 32 (x_L 32 (0, xi_load 0 2 33, 0, 0)) (x_T 33 (x_L 33 (0, xi_getf 9 4 36, 0, 0)) (x_L 36 (0, xi_load 0 2 37, 0, 0)))) (x_T 37 (x_L 37 (0, xi_getf 9 0 40, 0, 0)) (x_T 40 (x_L 40 (0, xi_load 3 0 41, 0, 0)) (x_L 41 (0, xi_ast false 42, 0, 0)))))))
set_option maxRecDepth 20000 in
set_option maxHeartbeats 4000000 in
theorem tb_35_0_ok (K : xKx) (hK : x_KP K) : ∀ pc, x_EOq cls K xI m_35 pc (tb_35_0 pc) :=
  (x_Tok2
  (x_Tok2
  (x_Tok2
  (x_Tok2
  (x_Lok (x_st (I := xI) (xr_aload_n (i := 0) (x_dk dl_35_0_ok 0 rfl))))
  (x_Lok (x_st (I := xI) (xr_getf (ci := 9) (k := 0) (ix := 45) (N := 17) (C := RX9) (T := TX9) rfl in_X9 (by decide) (in_t3 (List.mem_of_getElem? (i := 137) rfl) rfl) (x_dk dl_35_0_ok 1 rfl)))))
  (x_Tok2
  (x_Lok (x_st (I := xI) (xr_bipush (n := 16) (z := 16) (v := 16) (x_dk dl_35_0_ok 2 rfl) (by decide) (by decide))))
  (x_Tok2
  (x_Lok (x_st (I := xI) (xr_icmplt (off := 6) (tg := 12) (x_dk dl_35_0_ok 3 rfl) (by decide))))
  (x_Lok (x_st (I := xI) (xr_aload_n (i := 0) (x_dk dl_35_0_ok 4 rfl)))))))
  (x_Tok2
  (x_Tok2
  (x_Lok (x_st (I := xI) (xr_getf (ci := 9) (k := 2) (ix := 9) (N := 17) (C := RX9) (T := TX9) rfl in_X9 (by decide) (in_t3 (List.mem_of_getElem? (i := 141) rfl) rfl) (x_dk dl_35_0_ok 5 rfl))))
  (x_Tok2
  (x_Lok (x_st (I := xI) (xr_aload_n (i := 0) (x_dk dl_35_0_ok 6 rfl))))
  (x_Lok (x_st (I := xI) (xr_getf (ci := 9) (k := 0) (ix := 45) (N := 17) (C := RX9) (T := TX9) rfl in_X9 (by decide) (in_t3 (List.mem_of_getElem? (i := 137) rfl) rfl) (x_dk dl_35_0_ok 7 rfl))))))
  (x_Tok2
  (x_Lok (x_st (I := xI) (xr_iload_n (i := 1) (x_dk dl_35_0_ok 8 rfl))))
  (x_Tok2
  (x_Lok (x_st (I := xI) (xr_iastore (x_dk dl_35_0_ok 9 rfl))))
  (x_Lok (x_st (I := xI) (xr_aload_n (i := 0) (x_dk dl_35_0_ok 10 rfl))))))))
  (x_Tok2
  (x_Tok2
  (x_Tok2
  (x_Lok (x_st (I := xI) (xr_getf (ci := 9) (k := 3) (ix := 15) (N := 17) (C := RX9) (T := TX9) rfl in_X9 (by decide) (in_t3 (List.mem_of_getElem? (i := 142) rfl) rfl) (x_dk dl_35_0_ok 11 rfl))))
  (x_Lok (x_st (I := xI) (xr_aload_n (i := 0) (x_dk dl_35_0_ok 12 rfl)))))
  (x_Tok2
  (x_Lok (x_st (I := xI) (xr_getf (ci := 9) (k := 0) (ix := 45) (N := 17) (C := RX9) (T := TX9) rfl in_X9 (by decide) (in_t3 (List.mem_of_getElem? (i := 137) rfl) rfl) (x_dk dl_35_0_ok 13 rfl))))
  (x_Tok2
  (x_Lok (x_st (I := xI) (xr_iload_n (i := 2) (x_dk dl_35_0_ok 14 rfl))))
  (x_Lok (x_st (I := xI) (xr_iastore (x_dk dl_35_0_ok 15 rfl)))))))
  (x_Tok2
  (x_Tok2
  (x_Lok (x_st (I := xI) (xr_aload_n (i := 0) (x_dk dl_35_0_ok 16 rfl))))
  (x_Tok2
  (x_Lok (x_st (I := xI) (xr_getf (ci := 9) (k := 4) (ix := 18) (N := 17) (C := RX9) (T := TX9) rfl in_X9 (by decide) (in_t3 (List.mem_of_getElem? (i := 143) rfl) rfl) (x_dk dl_35_0_ok 17 rfl))))
  (x_Lok (x_st (I := xI) (xr_aload_n (i := 0) (x_dk dl_35_0_ok 18 rfl))))))
  (x_Tok2
  (x_Lok (x_st (I := xI) (xr_getf (ci := 9) (k := 0) (ix := 45) (N := 17) (C := RX9) (T := TX9) rfl in_X9 (by decide) (in_t3 (List.mem_of_getElem? (i := 137) rfl) rfl) (x_dk dl_35_0_ok 19 rfl))))
  (x_Tok2
  (x_Lok (x_st (I := xI) (xr_iload_n (i := 3) (x_dk dl_35_0_ok 20 rfl))))
  (x_Lok (x_st (I := xI) (xr_iastore (x_dk dl_35_0_ok 21 rfl)))))))))
def tb_35_22 : Nat → xE := (x_T 61 (x_T 50 (x_T 43 (x_T 42 (x_L 42 (0, xi_load 0 2 43, 0, 0)) (x_L 43 (0, xi_getf 9 5 46, 0, 0))) (x_T 46 (x_L 46 (0, xi_load 0 2 47, 0, 0)) (x_T 47 (x_L 47 (0, xi_getf 9 0 50, 0, 0)) (x_L 50 (0, xi_load 4 0 52, 0, 0))))) (x_T 54 (x_T 52 (x_L 52 (0, xi_ast false 53, 0, 0)) (x_T 53 (x_L 53 (0, xi_load 0 2 54, 0, 0)) (x_L 54 (0, xi_getf 9 6 57, 0, 0)))) (x_T 57 (x_L 57 (0, xi_load 0 2 58, 0, 0)) (x_T 58 (x_L 58 (0, xi_getf 9 0 61, 0, 0)) (x_L 61 (0, xi_load 5 0 63, 0, 0)))))) (x_T 70 (x_T 65 (x_T 63 (x_L 63 (0, xi_ast false 64, 0, 0)) (x_T 64 (x_L 64 (0, xi_load 0 2 65, 0, 0)) (x_L 65 (0, xi_stk xf_dup 66, 0, 0)))) (x_T 66 (x_L 66 (0, xi_getf 9 0 69, 0, 0)) (x_T 69 (x_L 69 (0, xi_push (0, 1, 1) 70, 0, 0)) (x_L 70 (0, xi_bin xF_add 71, 0, 0))))) (x_T 75 (x_T 71 (x_L 71 (0, xi_putf 9 0 0 74, 0, 0)) (x_T 74 (x_L 74 (0, xi_load 0 2 75, 0, 0)) (x_L 75 (0, xi_getf 9 0 78, 0, 0)))) (x_T 78 (x_L 78 (0, xi_push (0, 1, 1) 79, 0, 0)) (x_T 79 (x_L 79 (0, xi_bin xF_sub 80, 0, 0)) (x_L 80 (1, x_nof, 1, 0)))))))
set_option maxRecDepth 20000 in
set_option maxHeartbeats 4000000 in
theorem tb_35_22_ok (K : xKx) (hK : x_KP K) : ∀ pc, x_EOq cls K xI m_35 pc (tb_35_22 pc) :=
  (x_Tok2
  (x_Tok2
  (x_Tok2
  (x_Tok2
  (x_Lok (x_st (I := xI) (xr_aload_n (i := 0) (x_dk dl_35_0_ok 22 rfl))))
  (x_Lok (x_st (I := xI) (xr_getf (ci := 9) (k := 5) (ix := 21) (N := 17) (C := RX9) (T := TX9) rfl in_X9 (by decide) (in_t3 (List.mem_of_getElem? (i := 144) rfl) rfl) (x_dk dl_35_0_ok 23 rfl)))))
  (x_Tok2
  (x_Lok (x_st (I := xI) (xr_aload_n (i := 0) (x_dk dl_35_0_ok 24 rfl))))
  (x_Tok2
  (x_Lok (x_st (I := xI) (xr_getf (ci := 9) (k := 0) (ix := 45) (N := 17) (C := RX9) (T := TX9) rfl in_X9 (by decide) (in_t3 (List.mem_of_getElem? (i := 137) rfl) rfl) (x_dk dl_35_0_ok 25 rfl))))
  (x_Lok (x_st (I := xI) (xr_iload (i := 4) (x_dk dl_35_0_ok 26 rfl)))))))
  (x_Tok2
  (x_Tok2
  (x_Lok (x_st (I := xI) (xr_iastore (x_dk dl_35_0_ok 27 rfl))))
  (x_Tok2
  (x_Lok (x_st (I := xI) (xr_aload_n (i := 0) (x_dk dl_35_0_ok 28 rfl))))
  (x_Lok (x_st (I := xI) (xr_getf (ci := 9) (k := 6) (ix := 24) (N := 17) (C := RX9) (T := TX9) rfl in_X9 (by decide) (in_t3 (List.mem_of_getElem? (i := 145) rfl) rfl) (x_dk dl_35_0_ok 29 rfl))))))
  (x_Tok2
  (x_Lok (x_st (I := xI) (xr_aload_n (i := 0) (x_dk dl_35_0_ok 30 rfl))))
  (x_Tok2
  (x_Lok (x_st (I := xI) (xr_getf (ci := 9) (k := 0) (ix := 45) (N := 17) (C := RX9) (T := TX9) rfl in_X9 (by decide) (in_t3 (List.mem_of_getElem? (i := 137) rfl) rfl) (x_dk dl_35_0_ok 31 rfl))))
  (x_Lok (x_st (I := xI) (xr_iload (i := 5) (x_dk dl_35_0_ok 32 rfl))))))))
  (x_Tok2
  (x_Tok2
  (x_Tok2
  (x_Lok (x_st (I := xI) (xr_iastore (x_dk dl_35_0_ok 33 rfl))))
  (x_Tok2
  (x_Lok (x_st (I := xI) (xr_aload_n (i := 0) (x_dk dl_35_0_ok 34 rfl))))
  (x_Lok (x_st (I := xI) (xr_dup (x_dk dl_35_0_ok 35 rfl))))))
  (x_Tok2
  (x_Lok (x_st (I := xI) (xr_getf (ci := 9) (k := 0) (ix := 45) (N := 17) (C := RX9) (T := TX9) rfl in_X9 (by decide) (in_t3 (List.mem_of_getElem? (i := 137) rfl) rfl) (x_dk dl_35_0_ok 36 rfl))))
  (x_Tok2
  (x_Lok (x_st (I := xI) (xr_iconst (n := 1) (z := 1) (v := 1) (x_dk dl_35_0_ok 37 rfl) (by decide) (by decide))))
  (x_Lok (x_st (I := xI) (xr_iadd (x_dk dl_35_0_ok 38 rfl)))))))
  (x_Tok2
  (x_Tok2
  (x_Lok (x_st (I := xI) (xr_putf (ci := 9) (k := 0) (ix := 45) (N := 17) (fk := 0) (C := RX9) (T := TX9) (ty0 := tyX9) (ty := .int) rfl in_X9 tyX9_ok nmX9 (by decide) (in_t3 (List.mem_of_getElem? (i := 137) rfl) rfl) rfl rfl x_fit_int (x_dk dl_35_0_ok 39 rfl))))
  (x_Tok2
  (x_Lok (x_st (I := xI) (xr_aload_n (i := 0) (x_dk dl_35_0_ok 40 rfl))))
  (x_Lok (x_st (I := xI) (xr_getf (ci := 9) (k := 0) (ix := 45) (N := 17) (C := RX9) (T := TX9) rfl in_X9 (by decide) (in_t3 (List.mem_of_getElem? (i := 137) rfl) rfl) (x_dk dl_35_0_ok 41 rfl))))))
  (x_Tok2
  (x_Lok (x_st (I := xI) (xr_iconst (n := 1) (z := 1) (v := 1) (x_dk dl_35_0_ok 42 rfl) (by decide) (by decide))))
  (x_Tok2
  (x_Lok (x_st (I := xI) (xr_isub (x_dk dl_35_0_ok 43 rfl))))
  (x_Lok (x_rt (I := xI) (k := 1) ⟨(x_dk dl_35_0_ok 44 rfl), rfl⟩)))))))
def tb_35 : Nat → xE := (x_T 41 tb_35_0 tb_35_22)
theorem tb_35_ok (K : xKx) (hK : x_KP K) : ∀ pc, x_EOq cls K xI m_35 pc (tb_35 pc) := (x_Tok2 (tb_35_0_ok K hK) (tb_35_22_ok K hK))
def dl_36_0 : List (Nat × Instr × Nat) := [(0, .aload_n 0, 1), (1, .invokespecial 3, 3), (4, .aload_n 0, 1), (5, .bipush 20, 2), (7, .newarray .int, 2), (9, .putfield 11, 3), (12, .aload_n 0, 1), (13, .bipush 20, 2), (15, .newarray .int, 2), (17, .putfield 15, 3), (20, .aload_n 0, 1), (21, .sipush 600, 3), (24, .newarray .int, 2), (26, .putfield 18, 3), (29, .aload_n 0, 1), (30, .sipush 600, 3), (33, .newarray .int, 2), (35, .putfield 21, 3), (38, .aload_n 0, 1), (39, .sipush 600, 3), (42, .newarray .int, 2), (44, .putfield 24, 3), (47, .aload_n 0, 1), (48, .iload_n 1, 1), (49, .putfield 27, 3), (52, .return_, 1)]
set_option maxRecDepth 20000 in
theorem dl_36_0_ok : dl_36_0.all (fun q => decide (decode prog_12_method_1_code q.1 = .ok (q.2.1, q.2.2))) = true := by decide +kernel
def tb_36_0 : Nat → xE := (x_T 24 (x_T 9 (x_T 4 (x_T 0 (x_L 0 (0, xi_load 0 2 1, 0, 0)) (x_T 1 (x_L 1 (0, xi_oi 4, 0, 0)) (x_L 4 (0, xi_load 0 2 5, 0, 0)))) (x_T 5 (x_L 5 (0, xi_push (0, 20, 20) 7, 0, 0)) (x_T 7 (x_L 7 (0, xi_newa 1 0 (0, 0, 0) (xm_c m_36) (xm_s m_36) 9, 0, 0)) (x_L 9 (0, xi_putf 10 16 2 12, 0, 0))))) (x_T 15 (x_T 12 (x_L 12 (0, xi_load 0 2 13, 0, 0)) (x_T 13 (x_L 13 (0, xi_push (0, 20, 20) 15, 0, 0)) (x_L 15 (0, xi_newa 1 0 (0, 0, 0) (xm_c m_36) (xm_s m_36) 17, 0, 0)))) (x_T 20 (x_T 17 (x_L 17 (0, xi_putf 10 17 2 20, 0, 0)) (x_L 20 (0, xi_load 0 2 21, 0, 0))) (x_T 21 (x_L 21 (0, xi_push (0, 600, 600) 24, 0, 0)) (x_L 24 (0, xi_newa 1 0 (0, 0, 0) (xm_c m_36) (xm_s m_36) 26, 0, 0)))))) (x_T 38 (x_T 30 (x_T 26 (x_L 26 (0, xi_putf 10 18 2 29, 0, 0)) (x_T 29 (x_L 29 (0, xi_load 0 2 30, 0, 0)) (x_L 30 (0, xi_push (0, 600, 600) 33, 0, 0)))) (x_T 33 (x_L 33 (0, xi_newa 1 0 (0, 0, 0) (xm_c m_36) (xm_s m_36) 35, 0, 0)) (x_T 35 (x_L 35 (0, xi_putf 10 19 2 38, 0, 0)) (x_L 38 (0, xi_load 0 2 39, 0, 0))))) (x_T 44 (x_T 39 (x_L 39 (0, xi_push (0, 600, 600) 42, 0, 0)) (x_T 42 (x_L 42 (0, xi_newa 1 0 (0, 0, 0) (xm_c m_36) (xm_s m_36) 44, 0, 0)) (x_L 44 (0, xi_putf 10 20 2 47, 0, 0)))) (x_T 48 (x_T 47 (x_L 47 (0, xi_load 0 2 48, 0, 0)) (x_L 48 (0, xi_load 1 0 49, 0, 0))) (x_T 49 (x_L 49 (0, xi_putf 10 0 0 52, 0, 0)) (x_L 52 (1, x_nof, 0, 0)))))))
set_option maxRecDepth 20000 in
set_option maxHeartbeats 4000000 in
theorem tb_36_0_ok (K : xKx) (hK : x_KP K) : ∀ pc, x_EOq cls K xI m_36 pc (tb_36_0 pc) :=
  (x_Tok2
  (x_Tok2
  (x_Tok2
  (x_Tok2
  (x_Lok (x_st (I := xI) (xr_aload_n (i := 0) (x_dk dl_36_0_ok 0 rfl))))
  (x_Tok2
  (x_Lok (x_st (I := xI) (xr_oi (ix := 3) (in_t3 (List.mem_of_getElem? (i := 8) rfl) rfl) (in_t1 (List.mem_of_getElem? (i := 27) rfl) rfl) (in_t1 (List.mem_of_getElem? (i := 28) rfl) rfl) (x_dk dl_36_0_ok 1 rfl))))
  (x_Lok (x_st (I := xI) (xr_aload_n (i := 0) (x_dk dl_36_0_ok 2 rfl))))))
  (x_Tok2
  (x_Lok (x_st (I := xI) (xr_bipush (n := 20) (z := 20) (v := 20) (x_dk dl_36_0_ok 3 rfl) (by decide) (by decide))))
  (x_Tok2
  (x_Lok (x_st (I := xI) (xr_newa (kd := 1) (b := false) (ty := .int) rfl rfl (in_t1 (List.mem_of_getElem? (i := 64) rfl) rfl) (x_dk dl_36_0_ok 4 rfl))))
  (x_Lok (x_st (I := xI) (xr_putF (ci := 10) (k := 16) (ix := 11) (N := 21) (fk := 2) (C := RX10) (T := TX10) (ty0 := tyX10) (ty := .array .int) rfl in_X10 tyX10_ok nmX10 (by decide) (in_t3 (List.mem_of_getElem? (i := 40) rfl) rfl) rfl rfl rfl rfl x_fit_arr (x_dk dl_36_0_ok 5 rfl)))))))
  (x_Tok2
  (x_Tok2
  (x_Lok (x_st (I := xI) (xr_aload_n (i := 0) (x_dk dl_36_0_ok 6 rfl))))
  (x_Tok2
  (x_Lok (x_st (I := xI) (xr_bipush (n := 20) (z := 20) (v := 20) (x_dk dl_36_0_ok 7 rfl) (by decide) (by decide))))
  (x_Lok (x_st (I := xI) (xr_newa (kd := 1) (b := false) (ty := .int) rfl rfl (in_t1 (List.mem_of_getElem? (i := 64) rfl) rfl) (x_dk dl_36_0_ok 8 rfl))))))
  (x_Tok2
  (x_Tok2
  (x_Lok (x_st (I := xI) (xr_putF (ci := 10) (k := 17) (ix := 15) (N := 21) (fk := 2) (C := RX10) (T := TX10) (ty0 := tyX10) (ty := .array .int) rfl in_X10 tyX10_ok nmX10 (by decide) (in_t3 (List.mem_of_getElem? (i := 41) rfl) rfl) rfl rfl rfl rfl x_fit_arr (x_dk dl_36_0_ok 9 rfl))))
  (x_Lok (x_st (I := xI) (xr_aload_n (i := 0) (x_dk dl_36_0_ok 10 rfl)))))
  (x_Tok2
  (x_Lok (x_st (I := xI) (xr_sipush (n := 600) (z := 600) (v := 600) (x_dk dl_36_0_ok 11 rfl) (by decide) (by decide))))
  (x_Lok (x_st (I := xI) (xr_newa (kd := 1) (b := false) (ty := .int) rfl rfl (in_t1 (List.mem_of_getElem? (i := 64) rfl) rfl) (x_dk dl_36_0_ok 12 rfl))))))))
  (x_Tok2
  (x_Tok2
  (x_Tok2
  (x_Lok (x_st (I := xI) (xr_putF (ci := 10) (k := 18) (ix := 18) (N := 21) (fk := 2) (C := RX10) (T := TX10) (ty0 := tyX10) (ty := .array .int) rfl in_X10 tyX10_ok nmX10 (by decide) (in_t3 (List.mem_of_getElem? (i := 42) rfl) rfl) rfl rfl rfl rfl x_fit_arr (x_dk dl_36_0_ok 13 rfl))))
  (x_Tok2
  (x_Lok (x_st (I := xI) (xr_aload_n (i := 0) (x_dk dl_36_0_ok 14 rfl))))
  (x_Lok (x_st (I := xI) (xr_sipush (n := 600) (z := 600) (v := 600) (x_dk dl_36_0_ok 15 rfl) (by decide) (by decide))))))
  (x_Tok2
  (x_Lok (x_st (I := xI) (xr_newa (kd := 1) (b := false) (ty := .int) rfl rfl (in_t1 (List.mem_of_getElem? (i := 64) rfl) rfl) (x_dk dl_36_0_ok 16 rfl))))
  (x_Tok2
  (x_Lok (x_st (I := xI) (xr_putF (ci := 10) (k := 19) (ix := 21) (N := 21) (fk := 2) (C := RX10) (T := TX10) (ty0 := tyX10) (ty := .array .int) rfl in_X10 tyX10_ok nmX10 (by decide) (in_t3 (List.mem_of_getElem? (i := 43) rfl) rfl) rfl rfl rfl rfl x_fit_arr (x_dk dl_36_0_ok 17 rfl))))
  (x_Lok (x_st (I := xI) (xr_aload_n (i := 0) (x_dk dl_36_0_ok 18 rfl)))))))
  (x_Tok2
  (x_Tok2
  (x_Lok (x_st (I := xI) (xr_sipush (n := 600) (z := 600) (v := 600) (x_dk dl_36_0_ok 19 rfl) (by decide) (by decide))))
  (x_Tok2
  (x_Lok (x_st (I := xI) (xr_newa (kd := 1) (b := false) (ty := .int) rfl rfl (in_t1 (List.mem_of_getElem? (i := 64) rfl) rfl) (x_dk dl_36_0_ok 20 rfl))))
  (x_Lok (x_st (I := xI) (xr_putF (ci := 10) (k := 20) (ix := 24) (N := 21) (fk := 2) (C := RX10) (T := TX10) (ty0 := tyX10) (ty := .array .int) rfl in_X10 tyX10_ok nmX10 (by decide) (in_t3 (List.mem_of_getElem? (i := 44) rfl) rfl) rfl rfl rfl rfl x_fit_arr (x_dk dl_36_0_ok 21 rfl))))))
  (x_Tok2
  (x_Tok2
  (x_Lok (x_st (I := xI) (xr_aload_n (i := 0) (x_dk dl_36_0_ok 22 rfl))))
  (x_Lok (x_st (I := xI) (xr_iload_n (i := 1) (x_dk dl_36_0_ok 23 rfl)))))
  (x_Tok2
  (x_Lok (x_st (I := xI) (xr_putF (ci := 10) (k := 0) (ix := 27) (N := 21) (fk := 0) (C := RX10) (T := TX10) (ty0 := tyX10) (ty := .int) rfl in_X10 tyX10_ok nmX10 (by decide) (in_t3 (List.mem_of_getElem? (i := 9) rfl) rfl) rfl rfl rfl rfl x_fit_int (x_dk dl_36_0_ok 24 rfl))))
  (x_Lok (x_rt (I := xI) (k := 0) ⟨(x_dk dl_36_0_ok 25 rfl), rfl⟩)))))))
def tb_36 : Nat → xE := tb_36_0
theorem tb_36_ok (K : xKx) (hK : x_KP K) : ∀ pc, x_EOq cls K xI m_36 pc (tb_36 pc) := tb_36_0_ok K hK
def dl_37_0 : List (Nat × Instr × Nat) := [(0, .aload_n 0, 1), (1, .iconst (-1), 1), (2, .iconst 0, 1), (3, .iconst 0, 1), (4, .invokevirtual 31, 3), (7, .aload_n 0, 1), (8, .iconst 0, 1), (9, .putfield 35, 3), (12, .aload_n 0, 1), (13, .iconst 0, 1), (14, .putfield 38, 3), (17, .return_, 1)]
set_option maxRecDepth 20000 in
theorem dl_37_0_ok : dl_37_0.all (fun q => decide (decode prog_12_method_2_code q.1 = .ok (q.2.1, q.2.2))) = true := by decide +kernel
def tb_37_0 : Nat → xE := (x_T 7 (x_T 2 (x_T 0 (x_L 0 (0, xi_load 0 2 1, 0, 0)) (x_T 1 (x_L 1 (0, xi_push (0, (-1), (-1)) 2, 0, 0)) (x_L 2 (0, xi_push (0, 0, 0) 3, 0, 0)))) (x_T 3 (x_L 3 (0, xi_push (0, 0, 0) 4, 0, 0)) (x_T 4 (x_L 4 (2, x_nof, 38, 4)) (x_L 7 (0, xi_load 0 2 8, 0, 0))))) (x_T 12 (x_T 8 (x_L 8 (0, xi_push (0, 0, 0) 9, 0, 0)) (x_T 9 (x_L 9 (0, xi_putf 10 1 0 12, 0, 0)) (x_L 12 (0, xi_load 0 2 13, 0, 0)))) (x_T 13 (x_L 13 (0, xi_push (0, 0, 0) 14, 0, 0)) (x_T 14 (x_L 14 (0, xi_putf 10 4 0 17, 0, 0)) (x_L 17 (1, x_nof, 0, 0))))))
set_option maxRecDepth 20000 in
set_option maxHeartbeats 4000000 in
theorem tb_37_0_ok (K : xKx) (hK : x_KP K) : ∀ pc, x_EOq cls K xI m_37 pc (tb_37_0 pc) :=
  (x_Tok2
  (x_Tok2
  (x_Tok2
  (x_Lok (x_st (I := xI) (xr_aload_n (i := 0) (x_dk dl_37_0_ok 0 rfl))))
  (x_Tok2
  (x_Lok (x_st (I := xI) (xr_iconst (n := (-1)) (z := (-1)) (v := (-1)) (x_dk dl_37_0_ok 1 rfl) (by decide) (by decide))))
  (x_Lok (x_st (I := xI) (xr_iconst (n := 0) (z := 0) (v := 0) (x_dk dl_37_0_ok 2 rfl) (by decide) (by decide))))))
  (x_Tok2
  (x_Lok (x_st (I := xI) (xr_iconst (n := 0) (z := 0) (v := 0) (x_dk dl_37_0_ok 3 rfl) (by decide) (by decide))))
  (x_Tok2
  (x_Lok (x_ca (I := xI) (q' := m_38) rfl (xr_callV (q' := m_38) (ix := 31) (n := 3) (in_t4 (List.mem_of_getElem? (i := 102) rfl) rfl) good_w (in_t1 (List.mem_of_getElem? (i := 10) rfl) rfl) (in_t4 (List.mem_of_getElem? (i := 99) rfl) rfl) (in_t4 (List.mem_of_getElem? (i := 100) rfl) rfl) (in_t4 (List.mem_of_getElem? (i := 101) rfl) rfl) (by decide +kernel) (by decide +kernel) (by decide +kernel) (x_dk dl_37_0_ok 4 rfl))))
  (x_Lok (x_st (I := xI) (xr_aload_n (i := 0) (x_dk dl_37_0_ok 5 rfl)))))))
  (x_Tok2
  (x_Tok2
  (x_Lok (x_st (I := xI) (xr_iconst (n := 0) (z := 0) (v := 0) (x_dk dl_37_0_ok 6 rfl) (by decide) (by decide))))
  (x_Tok2
  (x_Lok (x_st (I := xI) (xr_putf (ci := 10) (k := 1) (ix := 35) (N := 21) (fk := 0) (C := RX10) (T := TX10) (ty0 := tyX10) (ty := .int) rfl in_X10 tyX10_ok nmX10 (by decide) (in_t3 (List.mem_of_getElem? (i := 11) rfl) rfl) rfl rfl x_fit_int (x_dk dl_37_0_ok 7 rfl))))
  (x_Lok (x_st (I := xI) (xr_aload_n (i := 0) (x_dk dl_37_0_ok 8 rfl))))))
  (x_Tok2
  (x_Lok (x_st (I := xI) (xr_iconst (n := 0) (z := 0) (v := 0) (x_dk dl_37_0_ok 9 rfl) (by decide) (by decide))))
  (x_Tok2
  (x_Lok (x_st (I := xI) (xr_putf (ci := 10) (k := 4) (ix := 38) (N := 21) (fk := 0) (C := RX10) (T := TX10) (ty0 := tyX10) (ty := .int) rfl in_X10 tyX10_ok nmX10 (by decide) (in_t3 (List.mem_of_getElem? (i := 19) rfl) rfl) rfl rfl x_fit_int (x_dk dl_37_0_ok 10 rfl))))
  (x_Lok (x_rt (I := xI) (k := 0) ⟨(x_dk dl_37_0_ok 11 rfl), rfl⟩))))))
def tb_37 : Nat → xE := tb_37_0
theorem tb_37_ok (K : xKx) (hK : x_KP K) : ∀ pc, x_EOq cls K xI m_37 pc (tb_37 pc) := tb_37_0_ok K hK
def dl_38_0 : List (Nat × Instr × Nat) := [(0, .aload_n 0, 1), (1, .iconst 1, 1), (2, .putfield 35, 3), (5, .aload_n 0, 1), (6, .iload_n 1, 1), (7, .putfield 41, 3), (10, .aload_n 0, 1), (11, .iload_n 3, 1), (12, .putfield 44, 3), (15, .aload_n 0, 1), (16, .iconst 0, 1), (17, .putfield 47, 3), (20, .aload_n 0, 1), (21, .iconst 0, 1), (22, .putfield 50, 3), (25, .aload_n 0, 1), (26, .iconst 0, 1), (27, .putfield 53, 3), (30, .aload_n 0, 1), (31, .iconst (-1), 1), (32, .putfield 57, 3), (35, .aload_n 0, 1), (36, .iconst 0, 1), (37, .putfield 60, 3), (40, .aload_n 0, 1), (41, .iconst 0, 1), (42, .putfield 38, 3), (45, .aload_n 0, 1), (46, .iconst 0, 1), (47, .putfield 63, 3), (50, .aload_n 0, 1), (51, .iload_n 2, 1), (52, .invokevirtual 66, 3), (55, .pop, 1), (56, .return_, 1)]
set_option maxRecDepth 20000 in
theorem dl_38_0_ok : dl_38_0.all (fun q => decide (decode prog_12_method_3_code q.1 = .ok (q.2.1, q.2.2))) = true := by decide +kernel
def tb_38_0 : Nat → xE := (x_T 26 (x_T 11 (x_T 5 (x_T 1 (x_T 0 (x_L 0 (0, xi_load 0 2 1, 0, 0)) (x_L 1 (0, xi_push (0, 1, 1) 2, 0, 0))) (x_T 2 (x_L 2 (0, xi_putf 10 1 0 5, 0, 0)) (x_L 5 (0, xi_load 0 2 6, 0, 0)))) (x_T 7 (x_T 6 (x_L 6 (0, xi_load 1 0 7, 0, 0)) (x_L 7 (0, xi_putf 10 2 0 10, 0, 0))) (x_T 10 (x_L 10 (0, xi_load 0 2 11, 0, 0)) (x_L 11 (0, xi_load 3 0 12, 0, 0))))) (x_T 17 (x_T 15 (x_T 12 (x_L 12 (0, xi_putf 10 7 0 15, 0, 0)) (x_L 15 (0, xi_load 0 2 16, 0, 0))) (x_T 16 (x_L 16 (0, xi_push (0, 0, 0) 17, 0, 0)) (x_L 17 (0, xi_putf 10 5 0 20, 0, 0)))) (x_T 21 (x_T 20 (x_L 20 (0, xi_load 0 2 21, 0, 0)) (x_L 21 (0, xi_push (0, 0, 0) 22, 0, 0))) (x_T 22 (x_L 22 (0, xi_putf 10 6 0 25, 0, 0)) (x_T 25 (x_L 25 (0, xi_load 0 2 26, 0, 0)) (x_L 26 (0, xi_push (0, 0, 0) 27, 0, 0))))))) (x_T 41 (x_T 32 (x_T 30 (x_T 27 (x_L 27 (0, xi_putf 10 10 1 30, 0, 0)) (x_L 30 (0, xi_load 0 2 31, 0, 0))) (x_T 31 (x_L 31 (0, xi_push (0, (-1), (-1)) 32, 0, 0)) (x_L 32 (0, xi_putf 10 11 0 35, 0, 0)))) (x_T 36 (x_T 35 (x_L 35 (0, xi_load 0 2 36, 0, 0)) (x_L 36 (0, xi_push (0, 0, 0) 37, 0, 0))) (x_T 37 (x_L 37 (0, xi_putf 10 14 0 40, 0, 0)) (x_T 40 (x_L 40 (0, xi_load 0 2 41, 0, 0)) (x_L 41 (0, xi_push (0, 0, 0) 42, 0, 0)))))) (x_T 47 (x_T 45 (x_T 42 (x_L 42 (0, xi_putf 10 4 0 45, 0, 0)) (x_L 45 (0, xi_load 0 2 46, 0, 0))) (x_T 46 (x_L 46 (0, xi_push (0, 0, 0) 47, 0, 0)) (x_L 47 (0, xi_putf 10 15 0 50, 0, 0)))) (x_T 51 (x_T 50 (x_L 50 (0, xi_load 0 2 51, 0, 0)) (x_L 51 (0, xi_load 2 0 52, 0, 0))) (x_T 52 (x_L 52 (2, x_nof, 39, 2)) (x_T 55 (x_L 55 (0, xi_stk xf_pop 56, 0, 0)) (x_L 56 (1, x_nof, 0, 0))))))))
set_option maxRecDepth 20000 in
set_option maxHeartbeats 4000000 in
theorem tb_38_0_ok (K : xKx) (hK : x_KP K) : ∀ pc, x_EOq cls K xI m_38 pc (tb_38_0 pc) :=
  (x_Tok2
  (x_Tok2
  (x_Tok2
  (x_Tok2
  (x_Tok2
  (x_Lok (x_st (I := xI) (xr_aload_n (i := 0) (x_dk dl_38_0_ok 0 rfl))))
  (x_Lok (x_st (I := xI) (xr_iconst (n := 1) (z := 1) (v := 1) (x_dk dl_38_0_ok 1 rfl) (by decide) (by decide)))))
  (x_Tok2
  (x_Lok (x_st (I := xI) (xr_putf (ci := 10) (k := 1) (ix := 35) (N := 21) (fk := 0) (C := RX10) (T := TX10) (ty0 := tyX10) (ty := .int) rfl in_X10 tyX10_ok nmX10 (by decide) (in_t3 (List.mem_of_getElem? (i := 11) rfl) rfl) rfl rfl x_fit_int (x_dk dl_38_0_ok 2 rfl))))
  (x_Lok (x_st (I := xI) (xr_aload_n (i := 0) (x_dk dl_38_0_ok 3 rfl))))))
  (x_Tok2
  (x_Tok2
  (x_Lok (x_st (I := xI) (xr_iload_n (i := 1) (x_dk dl_38_0_ok 4 rfl))))
  (x_Lok (x_st (I := xI) (xr_putf (ci := 10) (k := 2) (ix := 41) (N := 21) (fk := 0) (C := RX10) (T := TX10) (ty0 := tyX10) (ty := .int) rfl in_X10 tyX10_ok nmX10 (by decide) (in_t3 (List.mem_of_getElem? (i := 14) rfl) rfl) rfl rfl x_fit_int (x_dk dl_38_0_ok 5 rfl)))))
  (x_Tok2
  (x_Lok (x_st (I := xI) (xr_aload_n (i := 0) (x_dk dl_38_0_ok 6 rfl))))
  (x_Lok (x_st (I := xI) (xr_iload_n (i := 3) (x_dk dl_38_0_ok 7 rfl)))))))
  (x_Tok2
  (x_Tok2
  (x_Tok2
  (x_Lok (x_st (I := xI) (xr_putf (ci := 10) (k := 7) (ix := 44) (N := 21) (fk := 0) (C := RX10) (T := TX10) (ty0 := tyX10) (ty := .int) rfl in_X10 tyX10_ok nmX10 (by decide) (in_t3 (List.mem_of_getElem? (i := 27) rfl) rfl) rfl rfl x_fit_int (x_dk dl_38_0_ok 8 rfl))))
  (x_Lok (x_st (I := xI) (xr_aload_n (i := 0) (x_dk dl_38_0_ok 9 rfl)))))
  (x_Tok2
  (x_Lok (x_st (I := xI) (xr_iconst (n := 0) (z := 0) (v := 0) (x_dk dl_38_0_ok 10 rfl) (by decide) (by decide))))
  (x_Lok (x_st (I := xI) (xr_putf (ci := 10) (k := 5) (ix := 47) (N := 21) (fk := 0) (C := RX10) (T := TX10) (ty0 := tyX10) (ty := .int) rfl in_X10 tyX10_ok nmX10 (by decide) (in_t3 (List.mem_of_getElem? (i := 22) rfl) rfl) rfl rfl x_fit_int (x_dk dl_38_0_ok 11 rfl))))))
  (x_Tok2
  (x_Tok2
  (x_Lok (x_st (I := xI) (xr_aload_n (i := 0) (x_dk dl_38_0_ok 12 rfl))))
  (x_Lok (x_st (I := xI) (xr_iconst (n := 0) (z := 0) (v := 0) (x_dk dl_38_0_ok 13 rfl) (by decide) (by decide)))))
  (x_Tok2
  (x_Lok (x_st (I := xI) (xr_putf (ci := 10) (k := 6) (ix := 50) (N := 21) (fk := 0) (C := RX10) (T := TX10) (ty0 := tyX10) (ty := .int) rfl in_X10 tyX10_ok nmX10 (by decide) (in_t3 (List.mem_of_getElem? (i := 25) rfl) rfl) rfl rfl x_fit_int (x_dk dl_38_0_ok 14 rfl))))
  (x_Tok2
  (x_Lok (x_st (I := xI) (xr_aload_n (i := 0) (x_dk dl_38_0_ok 15 rfl))))
  (x_Lok (x_st (I := xI) (xr_iconst (n := 0) (z := 0) (v := 0) (x_dk dl_38_0_ok 16 rfl) (by decide) (by decide)))))))))
  (x_Tok2
  (x_Tok2
  (x_Tok2
  (x_Tok2
  (x_Lok (x_st (I := xI) (xr_putf (ci := 10) (k := 10) (ix := 53) (N := 21) (fk := 1) (C := RX10) (T := TX10) (ty0 := tyX10) (ty := .boolean) rfl in_X10 tyX10_ok nmX10 (by decide) (in_t3 (List.mem_of_getElem? (i := 31) rfl) rfl) rfl rfl x_fit_bool (x_dk dl_38_0_ok 17 rfl))))
  (x_Lok (x_st (I := xI) (xr_aload_n (i := 0) (x_dk dl_38_0_ok 18 rfl)))))
  (x_Tok2
  (x_Lok (x_st (I := xI) (xr_iconst (n := (-1)) (z := (-1)) (v := (-1)) (x_dk dl_38_0_ok 19 rfl) (by decide) (by decide))))
  (x_Lok (x_st (I := xI) (xr_putf (ci := 10) (k := 11) (ix := 57) (N := 21) (fk := 0) (C := RX10) (T := TX10) (ty0 := tyX10) (ty := .int) rfl in_X10 tyX10_ok nmX10 (by decide) (in_t3 (List.mem_of_getElem? (i := 33) rfl) rfl) rfl rfl x_fit_int (x_dk dl_38_0_ok 20 rfl))))))
  (x_Tok2
  (x_Tok2
  (x_Lok (x_st (I := xI) (xr_aload_n (i := 0) (x_dk dl_38_0_ok 21 rfl))))
  (x_Lok (x_st (I := xI) (xr_iconst (n := 0) (z := 0) (v := 0) (x_dk dl_38_0_ok 22 rfl) (by decide) (by decide)))))
  (x_Tok2
  (x_Lok (x_st (I := xI) (xr_putf (ci := 10) (k := 14) (ix := 60) (N := 21) (fk := 0) (C := RX10) (T := TX10) (ty0 := tyX10) (ty := .int) rfl in_X10 tyX10_ok nmX10 (by decide) (in_t3 (List.mem_of_getElem? (i := 37) rfl) rfl) rfl rfl x_fit_int (x_dk dl_38_0_ok 23 rfl))))
  (x_Tok2
  (x_Lok (x_st (I := xI) (xr_aload_n (i := 0) (x_dk dl_38_0_ok 24 rfl))))
  (x_Lok (x_st (I := xI) (xr_iconst (n := 0) (z := 0) (v := 0) (x_dk dl_38_0_ok 25 rfl) (by decide) (by decide))))))))
  (x_Tok2
  (x_Tok2
  (x_Tok2
  (x_Lok (x_st (I := xI) (xr_putf (ci := 10) (k := 4) (ix := 38) (N := 21) (fk := 0) (C := RX10) (T := TX10) (ty0 := tyX10) (ty := .int) rfl in_X10 tyX10_ok nmX10 (by decide) (in_t3 (List.mem_of_getElem? (i := 19) rfl) rfl) rfl rfl x_fit_int (x_dk dl_38_0_ok 26 rfl))))
  (x_Lok (x_st (I := xI) (xr_aload_n (i := 0) (x_dk dl_38_0_ok 27 rfl)))))
  (x_Tok2
  (x_Lok (x_st (I := xI) (xr_iconst (n := 0) (z := 0) (v := 0) (x_dk dl_38_0_ok 28 rfl) (by decide) (by decide))))
  (x_Lok (x_st (I := xI) (xr_putf (ci := 10) (k := 15) (ix := 63) (N := 21) (fk := 0) (C := RX10) (T := TX10) (ty0 := tyX10) (ty := .int) rfl in_X10 tyX10_ok nmX10 (by decide) (in_t3 (List.mem_of_getElem? (i := 39) rfl) rfl) rfl rfl x_fit_int (x_dk dl_38_0_ok 29 rfl))))))
  (x_Tok2
  (x_Tok2
  (x_Lok (x_st (I := xI) (xr_aload_n (i := 0) (x_dk dl_38_0_ok 30 rfl))))
  (x_Lok (x_st (I := xI) (xr_iload_n (i := 2) (x_dk dl_38_0_ok 31 rfl)))))
  (x_Tok2
  (x_Lok (x_ca (I := xI) (q' := m_39) rfl (xr_callV (q' := m_39) (ix := 66) (n := 1) (in_t4 (List.mem_of_getElem? (i := 106) rfl) rfl) good_w (in_t1 (List.mem_of_getElem? (i := 10) rfl) rfl) (in_t4 (List.mem_of_getElem? (i := 103) rfl) rfl) (in_t4 (List.mem_of_getElem? (i := 104) rfl) rfl) (in_t4 (List.mem_of_getElem? (i := 105) rfl) rfl) (by decide +kernel) (by decide +kernel) (by decide +kernel) (x_dk dl_38_0_ok 32 rfl))))
  (x_Tok2
  (x_Lok (x_st (I := xI) (xr_pop (x_dk dl_38_0_ok 33 rfl))))
  (x_Lok (x_rt (I := xI) (k := 0) ⟨(x_dk dl_38_0_ok 34 rfl), rfl⟩))))))))
def tb_38 : Nat → xE := tb_38_0
theorem tb_38_ok (K : xKx) (hK : x_KP K) : ∀ pc, x_EOq cls K xI m_38 pc (tb_38 pc) := tb_38_0_ok K hK
def dl_39_0 : List (Nat × Instr × Nat) := [(0, .aload_n 0, 1), (1, .getfield 38, 3), (4, .bipush 20, 2), (6, .if_icmp .lt 5, 3), (11, .aload_n 0, 1), (12, .getfield 11, 3), (15, .aload_n 0, 1), (16, .getfield 38, 3), (19, .aload_n 0, 1), (20, .getfield 70, 3), (23, .iastore, 1), (24, .aload_n 0, 1), (25, .getfield 15, 3), (28, .aload_n 0, 1), (29, .getfield 38, 3), (32, .aload_n 0, 1), (33, .getfield 63, 3), (36, .iastore, 1), (37, .aload_n 0, 1), (38, .dup, 1), (39, .getfield 38, 3), (42, .iconst 1, 1), (43, .iadd, 1), (44, .putfield 38, 3), (47, .aload_n 0, 1), (48, .iload_n 1, 1), (49, .putfield 70, 3), (52, .iconst 1, 1), (53, .ireturn, 1)]
set_option maxRecDepth 20000 in
theorem dl_39_0_ok : dl_39_0.all (fun q => decide (decode prog_12_method_5_code q.1 = .ok (q.2.1, q.2.2))) = true := by decide +kernel
def tb_39_0 : Nat → xE := (x_T 28 (x_T 15 (x_T 4 (x_T 0 (x_L 0 (0, xi_load 0 2 1, 0, 0)) (x_T 1 (x_L 1 (0, xi_getf 10 4 4, 0, 0)) (x_L 4 (0, xi_push (0, 20, 20) 6, 0, 0)))) (x_T 11 (x_T 6 (x_L 6 (0, xi_if2 2 11 9, 0, 0)) (x_L 11 (0, xi_load 0 2 12, 0, 0))) (x_T 12 (x_L 12 (0, xi_getf 10 16 15, 0, 0)) (x_L 15 (0, xi_load 0 2 16, 0, 0))))) (x_T 20 (x_T 16 (x_L 16 (0, xi_getf 10 4 19, 0, 0)) (x_T 19 (x_L 19 (0, xi_load 0 2 20, 0, 0)) (x_L 20 (0, xi_getf 10 3 23, 0, 0)))) (x_T 24 (x_T 23 (x_L 23 (0, xi_ast false 24, 0, 0)) (x_L 24 (0, xi_load 0 2 25, 0, 0))) (x_T 25 (x_L 25 (0, xi_getf 10 17 28, 0, 0)) (x_L 28 (0, xi_load 0 2 29, 0, 0)))))) (x_T 39 (x_T 33 (x_T 29 (x_L 29 (0, xi_getf 10 4 32, 0, 0)) (x_T 32 (x_L 32 (0, xi_load 0 2 33, 0, 0)) (x_L 33 (0, xi_getf 10 15 36, 0, 0)))) (x_T 37 (x_T 36 (x_L 36 (0, xi_ast false 37, 0, 0)) (x_L 37 (0, xi_load 0 2 38, 0, 0))) (x_T 38 (x_L 38 (0, xi_stk xf_dup 39, 0, 0)) (x_L 39 (0, xi_getf 10 4 42, 0, 0))))) (x_T 47 (x_T 43 (x_T 42 (x_L 42 (0, xi_push (0, 1, 1) 43, 0, 0)) (x_L 43 (0, xi_bin xF_add 44, 0, 0))) (x_T 44 (x_L 44 (0, xi_putf 10 4 0 47, 0, 0)) (x_L 47 (0, xi_load 0 2 48, 0, 0)))) (x_T 49 (x_T 48 (x_L 48 (0, xi_load 1 0 49, 0, 0)) (x_L 49 (0, xi_putf 10 3 0 52, 0, 0))) (x_T 52 (x_L 52 (0, xi_push (0, 1, 1) 53, 0, 0)) (x_L 53 (1, x_nof, 4, 0)))))))
set_option maxRecDepth 20000 in
set_option maxHeartbeats 4000000 in
theorem tb_39_0_ok (K : xKx) (hK : x_KP K) : ∀ pc, x_EOq cls K xI m_39 pc (tb_39_0 pc) :=
  (x_Tok2
  (x_Tok2
  (x_Tok2
  (x_Tok2
  (x_Lok (x_st (I := xI) (xr_aload_n (i := 0) (x_dk dl_39_0_ok 0 rfl))))
  (x_Tok2
  (x_Lok (x_st (I := xI) (xr_getf (ci := 10) (k := 4) (ix := 38) (N := 21) (C := RX10) (T := TX10) rfl in_X10 (by decide) (in_t3 (List.mem_of_getElem? (i := 19) rfl) rfl) (x_dk dl_39_0_ok 1 rfl))))
  (x_Lok (x_st (I := xI) (xr_bipush (n := 20) (z := 20) (v := 20) (x_dk dl_39_0_ok 2 rfl) (by decide) (by decide))))))
  (x_Tok2
  (x_Tok2
  (x_Lok (x_st (I := xI) (xr_icmplt (off := 5) (tg := 11) (x_dk dl_39_0_ok 3 rfl) (by decide))))
  (x_Lok (x_st (I := xI) (xr_aload_n (i := 0) (x_dk dl_39_0_ok 4 rfl)))))
  (x_Tok2
  (x_Lok (x_st (I := xI) (xr_getf (ci := 10) (k := 16) (ix := 11) (N := 21) (C := RX10) (T := TX10) rfl in_X10 (by decide) (in_t3 (List.mem_of_getElem? (i := 40) rfl) rfl) (x_dk dl_39_0_ok 5 rfl))))
  (x_Lok (x_st (I := xI) (xr_aload_n (i := 0) (x_dk dl_39_0_ok 6 rfl)))))))
  (x_Tok2
  (x_Tok2
  (x_Lok (x_st (I := xI) (xr_getf (ci := 10) (k := 4) (ix := 38) (N := 21) (C := RX10) (T := TX10) rfl in_X10 (by decide) (in_t3 (List.mem_of_getElem? (i := 19) rfl) rfl) (x_dk dl_39_0_ok 7 rfl))))
  (x_Tok2
  (x_Lok (x_st (I := xI) (xr_aload_n (i := 0) (x_dk dl_39_0_ok 8 rfl))))
  (x_Lok (x_st (I := xI) (xr_getf (ci := 10) (k := 3) (ix := 70) (N := 21) (C := RX10) (T := TX10) rfl in_X10 (by decide) (in_t3 (List.mem_of_getElem? (i := 17) rfl) rfl) (x_dk dl_39_0_ok 9 rfl))))))
  (x_Tok2
  (x_Tok2
  (x_Lok (x_st (I := xI) (xr_iastore (x_dk dl_39_0_ok 10 rfl))))
  (x_Lok (x_st (I := xI) (xr_aload_n (i := 0) (x_dk dl_39_0_ok 11 rfl)))))
  (x_Tok2
  (x_Lok (x_st (I := xI) (xr_getf (ci := 10) (k := 17) (ix := 15) (N := 21) (C := RX10) (T := TX10) rfl in_X10 (by decide) (in_t3 (List.mem_of_getElem? (i := 41) rfl) rfl) (x_dk dl_39_0_ok 12 rfl))))
  (x_Lok (x_st (I := xI) (xr_aload_n (i := 0) (x_dk dl_39_0_ok 13 rfl))))))))
  (x_Tok2
  (x_Tok2
  (x_Tok2
  (x_Lok (x_st (I := xI) (xr_getf (ci := 10) (k := 4) (ix := 38) (N := 21) (C := RX10) (T := TX10) rfl in_X10 (by decide) (in_t3 (List.mem_of_getElem? (i := 19) rfl) rfl) (x_dk dl_39_0_ok 14 rfl))))
  (x_Tok2
  (x_Lok (x_st (I := xI) (xr_aload_n (i := 0) (x_dk dl_39_0_ok 15 rfl))))
  (x_Lok (x_st (I := xI) (xr_getf (ci := 10) (k := 15) (ix := 63) (N := 21) (C := RX10) (T := TX10) rfl in_X10 (by decide) (in_t3 (List.mem_of_getElem? (i := 39) rfl) rfl) (x_dk dl_39_0_ok 16 rfl))))))
  (x_Tok2
  (x_Tok2
  (x_Lok (x_st (I := xI) (xr_iastore (x_dk dl_39_0_ok 17 rfl))))
  (x_Lok (x_st (I := xI) (xr_aload_n (i := 0) (x_dk dl_39_0_ok 18 rfl)))))
  (x_Tok2
  (x_Lok (x_st (I := xI) (xr_dup (x_dk dl_39_0_ok 19 rfl))))
  (x_Lok (x_st (I := xI) (xr_getf (ci := 10) (k := 4) (ix := 38) (N := 21) (C := RX10) (T := TX10) rfl in_X10 (by decide) (in_t3 (List.mem_of_getElem? (i := 19) rfl) rfl) (x_dk dl_39_0_ok 20 rfl)))))))
  (x_Tok2
  (x_Tok2
  (x_Tok2
  (x_Lok (x_st (I := xI) (xr_iconst (n := 1) (z := 1) (v := 1) (x_dk dl_39_0_ok 21 rfl) (by decide) (by decide))))
  (x_Lok (x_st (I := xI) (xr_iadd (x_dk dl_39_0_ok 22 rfl)))))
  (x_Tok2
  (x_Lok (x_st (I := xI) (xr_putf (ci := 10) (k := 4) (ix := 38) (N := 21) (fk := 0) (C := RX10) (T := TX10) (ty0 := tyX10) (ty := .int) rfl in_X10 tyX10_ok nmX10 (by decide) (in_t3 (List.mem_of_getElem? (i := 19) rfl) rfl) rfl rfl x_fit_int (x_dk dl_39_0_ok 23 rfl))))
  (x_Lok (x_st (I := xI) (xr_aload_n (i := 0) (x_dk dl_39_0_ok 24 rfl))))))
  (x_Tok2
  (x_Tok2
  (x_Lok (x_st (I := xI) (xr_iload_n (i := 1) (x_dk dl_39_0_ok 25 rfl))))
  (x_Lok (x_st (I := xI) (xr_putf (ci := 10) (k := 3) (ix := 70) (N := 21) (fk := 0) (C := RX10) (T := TX10) (ty0 := tyX10) (ty := .int) rfl in_X10 tyX10_ok nmX10 (by decide) (in_t3 (List.mem_of_getElem? (i := 17) rfl) rfl) rfl rfl x_fit_int (x_dk dl_39_0_ok 26 rfl)))))
  (x_Tok2
  (x_Lok (x_st (I := xI) (xr_iconst (n := 1) (z := 1) (v := 1) (x_dk dl_39_0_ok 27 rfl) (by decide) (by decide))))
  (x_Lok (x_rt (I := xI) (k := 4) ⟨(x_dk dl_39_0_ok 28 rfl), rfl⟩)))))))
def tb_39 : Nat → xE := tb_39_0
theorem tb_39_ok (K : xKx) (hK : x_KP K) : ∀ pc, x_EOq cls K xI m_39 pc (tb_39 pc) := tb_39_0_ok K hK
def dl_40_0 : List (Nat × Instr × Nat) := [(0, .aload_n 0, 1), (1, .invokespecial 1, 3), (4, .aload_n 0, 1), (5, .new 7, 3), (8, .dup, 1), (9, .invokespecial 9, 3), (12, .putfield 10, 3), (15, .aload_n 0, 1), (16, .new 16, 3), (19, .dup, 1), (20, .invokespecial 18, 3), (23, .putfield 19, 3), (26, .aload_n 0, 1), (27, .aload_n 0, 1), (28, .getfield 19, 3), (31, .getfield 23, 3), (34, .putfield 27, 3), (37, .aload_n 0, 1), (38, .aload_n 0, 1), (39, .getfield 19, 3), (42, .getfield 28, 3), (45, .putfield 32, 3), (48, .aload_n 0, 1), (49, .aload_n 0, 1), (50, .getfield 19, 3), (53, .getfield 33, 3), (56, .putfield 37, 3), (59, .aload_n 0, 1), (60, .aload_n 0, 1), (61, .getfield 19, 3), (64, .getfield 38, 3), (67, .putfield 42, 3), (70, .aload_n 0, 1), (71, .new 43, 3), (74, .dup, 1), (75, .invokespecial 45, 3), (78, .putfield 46, 3), (81, .aload_n 0, 1), (82, .new 50, 3), (85, .dup, 1), (86, .invokespecial 52, 3), (89, .putfield 53, 3), (92, .aload_n 0, 1), (93, .bipush 6, 2), (95, .newarray .int, 2), (97, .putfield 57, 3), (100, .aload_n 0, 1), (101, .sipush 8000, 3), (104, .newarray .int, 2), (106, .putfield 61, 3), (109, .aload_n 0, 1), (110, .iconst 4, 1), (111, .newarray .int, 2), (113, .putfield 64, 3), (116, .aload_n 0, 1), (117, .iconst 1, 1), (118, .putfield 67, 3), (121, .aload_n 0, 1), (122, .invokevirtual 71, 3), (125, .return_, 1)]
set_option maxRecDepth 20000 in
theorem dl_40_0_ok : dl_40_0.all (fun q => decide (decode prog_1_method_1_code q.1 = .ok (q.2.1, q.2.2))) = true := by decide +kernel
def tb_40_0 : Nat → xE := (x_T 28 (x_T 12 (x_T 4 (x_T 0 (x_L 0 (0, xi_load 0 2 1, 0, 0)) (x_T 1 (x_L 1 (0, xi_oi 4, 0, 0)) (x_L 4 (0, xi_load 0 2 5, 0, 0)))) (x_T 8 (x_T 5 (x_L 5 (0, xi_new (x_nc 8 ks_X8) (xm_c m_40) (xm_s m_40) 8, 0, 0)) (x_L 8 (0, xi_stk xf_dup 9, 0, 0))) (x_T 9 (x_L 9 (2, x_nof, 32, 1)) (x_L 12 (0, xi_putf 11 0 2 15, 0, 0))))) (x_T 20 (x_T 16 (x_T 15 (x_L 15 (0, xi_load 0 2 16, 0, 0)) (x_L 16 (0, xi_new (x_nc 3 ks_X3) (xm_c m_40) (xm_s m_40) 19, 0, 0))) (x_T 19 (x_L 19 (0, xi_stk xf_dup 20, 0, 0)) (x_L 20 (2, x_nof, 12, 1)))) (x_T 26 (x_T 23 (x_L 23 (0, xi_putf 11 1 2 26, 0, 0)) (x_L 26 (0, xi_load 0 2 27, 0, 0))) (x_T 27 (x_L 27 (0, xi_load 0 2 28, 0, 0)) (x_L 28 (0, xi_getf 11 1 31, 0, 0)))))) (x_T 45 (x_T 37 (x_T 31 (x_L 31 (0, xi_getf 3 0 34, 0, 0)) (x_T 34 (x_L 34 (0, xi_putf 11 2 2 37, 0, 0)) (x_L 37 (0, xi_load 0 2 38, 0, 0)))) (x_T 39 (x_T 38 (x_L 38 (0, xi_load 0 2 39, 0, 0)) (x_L 39 (0, xi_getf 11 1 42, 0, 0))) (x_T 42 (x_L 42 (0, xi_getf 3 1 45, 0, 0)) (x_L 45 (0, xi_putf 11 3 2 48, 0, 0))))) (x_T 53 (x_T 49 (x_T 48 (x_L 48 (0, xi_load 0 2 49, 0, 0)) (x_L 49 (0, xi_load 0 2 50, 0, 0))) (x_T 50 (x_L 50 (0, xi_getf 11 1 53, 0, 0)) (x_L 53 (0, xi_getf 3 2 56, 0, 0)))) (x_T 59 (x_T 56 (x_L 56 (0, xi_putf 11 4 2 59, 0, 0)) (x_L 59 (0, xi_load 0 2 60, 0, 0))) (x_T 60 (x_L 60 (0, xi_load 0 2 61, 0, 0)) (x_L 61 (0, xi_getf 11 1 64, 0, 0)))))))
set_option maxRecDepth 20000 in
set_option maxHeartbeats 4000000 in
theorem tb_40_0_ok (K : xKx) (hK : x_KP K) : ∀ pc, x_EOq cls K xI m_40 pc (tb_40_0 pc) :=
  (x_Tok2
  (x_Tok2
  (x_Tok2
  (x_Tok2
  (x_Lok (x_st (I := xI) (xr_aload_n (i := 0) (x_dk dl_40_0_ok 0 rfl))))
  (x_Tok2
  (x_Lok (x_st (I := xI) (xr_oi (ix := 1) (in_t1 (List.mem_of_getElem? (i := 26) rfl) rfl) (in_t1 (List.mem_of_getElem? (i := 27) rfl) rfl) (in_t1 (List.mem_of_getElem? (i := 28) rfl) rfl) (x_dk dl_40_0_ok 1 rfl))))
  (x_Lok (x_st (I := xI) (xr_aload_n (i := 0) (x_dk dl_40_0_ok 2 rfl))))))
  (x_Tok2
  (x_Tok2
  (x_Lok (x_st (I := xI) (xr_new (ci := 8) (ix := 7) (N := 17) (C := RX8) (T := TX8) (ty0 := tyX8) (ks := ks_X8) rfl in_X8 tyX8_ok (in_t1 (List.mem_of_getElem? (i := 29) rfl) rfl) (in_t1 (List.mem_of_getElem? (i := 30) rfl) rfl) (in_t1 (List.mem_of_getElem? (i := 2) rfl) rfl) rfl df_X8 (x_dk dl_40_0_ok 3 rfl))))
  (x_Lok (x_st (I := xI) (xr_dup (x_dk dl_40_0_ok 4 rfl)))))
  (x_Tok2
  (x_Lok (x_ca (I := xI) (q' := m_32) rfl (xr_callIN (q' := m_32) (ix := 9) (n := 0) (host := "RobotCellHouse") (in_t1 (List.mem_of_getElem? (i := 33) rfl) rfl) good_w (in_t1 (List.mem_of_getElem? (i := 2) rfl) rfl) (List.mem_of_getElem? (i := 0) rfl) (in_t1 (List.mem_of_getElem? (i := 32) rfl) rfl) rfl rfl (by decide +kernel) (by decide +kernel) (by decide +kernel) (x_dk dl_40_0_ok 5 rfl))))
  (x_Lok (x_st (I := xI) (xr_putF (ci := 11) (k := 0) (ix := 10) (N := 15) (fk := 2) (C := RX11) (T := TX11) (ty0 := tyX11) (ty := .object "RobotCellHouse$Reader") rfl in_X11 tyX11_ok nmX11 (by decide) (in_t4 (List.mem_of_getElem? (i := 108) rfl) rfl) rfl rfl rfl rfl x_fit_obj (x_dk dl_40_0_ok 6 rfl)))))))
  (x_Tok2
  (x_Tok2
  (x_Tok2
  (x_Lok (x_st (I := xI) (xr_aload_n (i := 0) (x_dk dl_40_0_ok 7 rfl))))
  (x_Lok (x_st (I := xI) (xr_new (ci := 3) (ix := 16) (N := 12) (C := RX3) (T := TX3) (ty0 := tyX3) (ks := ks_X3) rfl in_X3 tyX3_ok (in_t1 (List.mem_of_getElem? (i := 122) rfl) rfl) (in_t1 (List.mem_of_getElem? (i := 123) rfl) rfl) (in_t1 (List.mem_of_getElem? (i := 4) rfl) rfl) rfl df_X3 (x_dk dl_40_0_ok 8 rfl)))))
  (x_Tok2
  (x_Lok (x_st (I := xI) (xr_dup (x_dk dl_40_0_ok 9 rfl))))
  (x_Lok (x_ca (I := xI) (q' := m_12) rfl (xr_callI (q' := m_12) (ix := 18) (n := 0) (in_t1 (List.mem_of_getElem? (i := 126) rfl) rfl) good_w (in_t1 (List.mem_of_getElem? (i := 4) rfl) rfl) (in_t1 (List.mem_of_getElem? (i := 124) rfl) rfl) (in_t1 (List.mem_of_getElem? (i := 125) rfl) rfl) rfl rfl (by decide +kernel) (by decide +kernel) (by decide +kernel) (x_dk dl_40_0_ok 10 rfl))))))
  (x_Tok2
  (x_Tok2
  (x_Lok (x_st (I := xI) (xr_putF (ci := 11) (k := 1) (ix := 19) (N := 15) (fk := 2) (C := RX11) (T := TX11) (ty0 := tyX11) (ty := .object "RobotCellHouse$Doer") rfl in_X11 tyX11_ok nmX11 (by decide) (in_t4 (List.mem_of_getElem? (i := 109) rfl) rfl) rfl rfl rfl rfl x_fit_obj (x_dk dl_40_0_ok 11 rfl))))
  (x_Lok (x_st (I := xI) (xr_aload_n (i := 0) (x_dk dl_40_0_ok 12 rfl)))))
  (x_Tok2
  (x_Lok (x_st (I := xI) (xr_aload_n (i := 0) (x_dk dl_40_0_ok 13 rfl))))
  (x_Lok (x_st (I := xI) (xr_getf (ci := 11) (k := 1) (ix := 19) (N := 15) (C := RX11) (T := TX11) rfl in_X11 (by decide) (in_t4 (List.mem_of_getElem? (i := 109) rfl) rfl) (x_dk dl_40_0_ok 14 rfl))))))))
  (x_Tok2
  (x_Tok2
  (x_Tok2
  (x_Lok (x_st (I := xI) (xr_getf (ci := 3) (k := 0) (ix := 23) (N := 12) (C := RX3) (T := TX3) rfl in_X3 (by decide) (in_t3 (List.mem_of_getElem? (i := 89) rfl) rfl) (x_dk dl_40_0_ok 15 rfl))))
  (x_Tok2
  (x_Lok (x_st (I := xI) (xr_putF (ci := 11) (k := 2) (ix := 27) (N := 15) (fk := 2) (C := RX11) (T := TX11) (ty0 := tyX11) (ty := .array (.object "RobotCellHouse$Arm")) rfl in_X11 tyX11_ok nmX11 (by decide) (in_t4 (List.mem_of_getElem? (i := 110) rfl) rfl) rfl rfl rfl rfl x_fit_arr (x_dk dl_40_0_ok 16 rfl))))
  (x_Lok (x_st (I := xI) (xr_aload_n (i := 0) (x_dk dl_40_0_ok 17 rfl))))))
  (x_Tok2
  (x_Tok2
  (x_Lok (x_st (I := xI) (xr_aload_n (i := 0) (x_dk dl_40_0_ok 18 rfl))))
  (x_Lok (x_st (I := xI) (xr_getf (ci := 11) (k := 1) (ix := 19) (N := 15) (C := RX11) (T := TX11) rfl in_X11 (by decide) (in_t4 (List.mem_of_getElem? (i := 109) rfl) rfl) (x_dk dl_40_0_ok 19 rfl)))))
  (x_Tok2
  (x_Lok (x_st (I := xI) (xr_getf (ci := 3) (k := 1) (ix := 28) (N := 12) (C := RX3) (T := TX3) rfl in_X3 (by decide) (in_t3 (List.mem_of_getElem? (i := 91) rfl) rfl) (x_dk dl_40_0_ok 20 rfl))))
  (x_Lok (x_st (I := xI) (xr_putF (ci := 11) (k := 3) (ix := 32) (N := 15) (fk := 2) (C := RX11) (T := TX11) (ty0 := tyX11) (ty := .object "RobotCellHouse$Points") rfl in_X11 tyX11_ok nmX11 (by decide) (in_t4 (List.mem_of_getElem? (i := 111) rfl) rfl) rfl rfl rfl rfl x_fit_obj (x_dk dl_40_0_ok 21 rfl)))))))
  (x_Tok2
  (x_Tok2
  (x_Tok2
  (x_Lok (x_st (I := xI) (xr_aload_n (i := 0) (x_dk dl_40_0_ok 22 rfl))))
  (x_Lok (x_st (I := xI) (xr_aload_n (i := 0) (x_dk dl_40_0_ok 23 rfl)))))
  (x_Tok2
  (x_Lok (x_st (I := xI) (xr_getf (ci := 11) (k := 1) (ix := 19) (N := 15) (C := RX11) (T := TX11) rfl in_X11 (by decide) (in_t4 (List.mem_of_getElem? (i := 109) rfl) rfl) (x_dk dl_40_0_ok 24 rfl))))
  (x_Lok (x_st (I := xI) (xr_getf (ci := 3) (k := 2) (ix := 33) (N := 12) (C := RX3) (T := TX3) rfl in_X3 (by decide) (in_t3 (List.mem_of_getElem? (i := 93) rfl) rfl) (x_dk dl_40_0_ok 25 rfl))))))
  (x_Tok2
  (x_Tok2
  (x_Lok (x_st (I := xI) (xr_putF (ci := 11) (k := 4) (ix := 37) (N := 15) (fk := 2) (C := RX11) (T := TX11) (ty0 := tyX11) (ty := .object "RobotCellHouse$Floor") rfl in_X11 tyX11_ok nmX11 (by decide) (in_t4 (List.mem_of_getElem? (i := 112) rfl) rfl) rfl rfl rfl rfl x_fit_obj (x_dk dl_40_0_ok 26 rfl))))
  (x_Lok (x_st (I := xI) (xr_aload_n (i := 0) (x_dk dl_40_0_ok 27 rfl)))))
  (x_Tok2
  (x_Lok (x_st (I := xI) (xr_aload_n (i := 0) (x_dk dl_40_0_ok 28 rfl))))
  (x_Lok (x_st (I := xI) (xr_getf (ci := 11) (k := 1) (ix := 19) (N := 15) (C := RX11) (T := TX11) rfl in_X11 (by decide) (in_t4 (List.mem_of_getElem? (i := 109) rfl) rfl) (x_dk dl_40_0_ok 29 rfl)))))))))
def tb_40_30 : Nat → xE := (x_T 95 (x_T 78 (x_T 70 (x_T 64 (x_L 64 (0, xi_getf 3 3 67, 0, 0)) (x_T 67 (x_L 67 (0, xi_putf 11 5 2 70, 0, 0)) (x_L 70 (0, xi_load 0 2 71, 0, 0)))) (x_T 74 (x_T 71 (x_L 71 (0, xi_new (x_nc 9 ks_X9) (xm_c m_40) (xm_s m_40) 74, 0, 0)) (x_L 74 (0, xi_stk xf_dup 75, 0, 0))) (x_T 75 (x_L 75 (2, x_nof, 34, 1)) (x_L 78 (0, xi_putf 11 6 2 81, 0, 0))))) (x_T 86 (x_T 82 (x_T 81 (x_L 81 (0, xi_load 0 2 82, 0, 0)) (x_L 82 (0, xi_new (x_nc 6 ks_X6) (xm_c m_40) (xm_s m_40) 85, 0, 0))) (x_T 85 (x_L 85 (0, xi_stk xf_dup 86, 0, 0)) (x_L 86 (2, x_nof, 23, 1)))) (x_T 92 (x_T 89 (x_L 89 (0, xi_putf 11 7 2 92, 0, 0)) (x_L 92 (0, xi_load 0 2 93, 0, 0))) (x_T 93 (x_L 93 (0, xi_push (0, 6, 6) 95, 0, 0)) (x_L 95 (0, xi_newa 1 0 (0, 0, 0) (xm_c m_40) (xm_s m_40) 97, 0, 0)))))) (x_T 110 (x_T 101 (x_T 97 (x_L 97 (0, xi_putf 11 8 2 100, 0, 0)) (x_T 100 (x_L 100 (0, xi_load 0 2 101, 0, 0)) (x_L 101 (0, xi_push (0, 8000, 8000) 104, 0, 0)))) (x_T 106 (x_T 104 (x_L 104 (0, xi_newa 1 0 (0, 0, 0) (xm_c m_40) (xm_s m_40) 106, 0, 0)) (x_L 106 (0, xi_putf 11 9 2 109, 0, 0))) (x_T 109 (x_L 109 (0, xi_load 0 2 110, 0, 0)) (x_L 110 (0, xi_push (0, 4, 4) 111, 0, 0))))) (x_T 117 (x_T 113 (x_T 111 (x_L 111 (0, xi_newa 1 0 (0, 0, 0) (xm_c m_40) (xm_s m_40) 113, 0, 0)) (x_L 113 (0, xi_putf 11 10 2 116, 0, 0))) (x_T 116 (x_L 116 (0, xi_load 0 2 117, 0, 0)) (x_L 117 (0, xi_push (0, 1, 1) 118, 0, 0)))) (x_T 121 (x_T 118 (x_L 118 (0, xi_putf 11 14 1 121, 0, 0)) (x_L 121 (0, xi_load 0 2 122, 0, 0))) (x_T 122 (x_L 122 (2, x_nof, 100, 1)) (x_L 125 (1, x_nof, 0, 0)))))))
set_option maxRecDepth 20000 in
set_option maxHeartbeats 4000000 in
theorem tb_40_30_ok (K : xKx) (hK : x_KP K) : ∀ pc, x_EOq cls K xI m_40 pc (tb_40_30 pc) :=
  (x_Tok2
  (x_Tok2
  (x_Tok2
  (x_Tok2
  (x_Lok (x_st (I := xI) (xr_getf (ci := 3) (k := 3) (ix := 38) (N := 12) (C := RX3) (T := TX3) rfl in_X3 (by decide) (in_t3 (List.mem_of_getElem? (i := 95) rfl) rfl) (x_dk dl_40_0_ok 30 rfl))))
  (x_Tok2
  (x_Lok (x_st (I := xI) (xr_putF (ci := 11) (k := 5) (ix := 42) (N := 15) (fk := 2) (C := RX11) (T := TX11) (ty0 := tyX11) (ty := .object "RobotCellHouse$Core") rfl in_X11 tyX11_ok nmX11 (by decide) (in_t4 (List.mem_of_getElem? (i := 113) rfl) rfl) rfl rfl rfl rfl x_fit_obj (x_dk dl_40_0_ok 31 rfl))))
  (x_Lok (x_st (I := xI) (xr_aload_n (i := 0) (x_dk dl_40_0_ok 32 rfl))))))
  (x_Tok2
  (x_Tok2
  (x_Lok (x_st (I := xI) (xr_new (ci := 9) (ix := 43) (N := 17) (C := RX9) (T := TX9) (ty0 := tyX9) (ks := ks_X9) rfl in_X9 tyX9_ok (in_t3 (List.mem_of_getElem? (i := 131) rfl) rfl) (in_t3 (List.mem_of_getElem? (i := 132) rfl) rfl) (in_t1 (List.mem_of_getElem? (i := 11) rfl) rfl) rfl df_X9 (x_dk dl_40_0_ok 33 rfl))))
  (x_Lok (x_st (I := xI) (xr_dup (x_dk dl_40_0_ok 34 rfl)))))
  (x_Tok2
  (x_Lok (x_ca (I := xI) (q' := m_34) rfl (xr_callIN (q' := m_34) (ix := 45) (n := 0) (host := "RobotCellHouse") (in_t3 (List.mem_of_getElem? (i := 135) rfl) rfl) good_w (in_t1 (List.mem_of_getElem? (i := 11) rfl) rfl) (List.mem_of_getElem? (i := 7) rfl) (in_t3 (List.mem_of_getElem? (i := 134) rfl) rfl) rfl rfl (by decide +kernel) (by decide +kernel) (by decide +kernel) (x_dk dl_40_0_ok 35 rfl))))
  (x_Lok (x_st (I := xI) (xr_putF (ci := 11) (k := 6) (ix := 46) (N := 15) (fk := 2) (C := RX11) (T := TX11) (ty0 := tyX11) (ty := .object "RobotCellHouse$Shapes") rfl in_X11 tyX11_ok nmX11 (by decide) (in_t4 (List.mem_of_getElem? (i := 114) rfl) rfl) rfl rfl rfl rfl x_fit_obj (x_dk dl_40_0_ok 36 rfl)))))))
  (x_Tok2
  (x_Tok2
  (x_Tok2
  (x_Lok (x_st (I := xI) (xr_aload_n (i := 0) (x_dk dl_40_0_ok 37 rfl))))
  (x_Lok (x_st (I := xI) (xr_new (ci := 6) (ix := 50) (N := 13) (C := RX6) (T := TX6) (ty0 := tyX6) (ks := ks_X6) rfl in_X6 tyX6_ok (in_t3 (List.mem_of_getElem? (i := 192) rfl) rfl) (in_t3 (List.mem_of_getElem? (i := 193) rfl) rfl) (in_t1 (List.mem_of_getElem? (i := 12) rfl) rfl) rfl df_X6 (x_dk dl_40_0_ok 38 rfl)))))
  (x_Tok2
  (x_Lok (x_st (I := xI) (xr_dup (x_dk dl_40_0_ok 39 rfl))))
  (x_Lok (x_ca (I := xI) (q' := m_23) rfl (xr_callIN (q' := m_23) (ix := 52) (n := 0) (host := "RobotCellHouse") (in_t3 (List.mem_of_getElem? (i := 196) rfl) rfl) good_w (in_t1 (List.mem_of_getElem? (i := 12) rfl) rfl) (List.mem_of_getElem? (i := 8) rfl) (in_t3 (List.mem_of_getElem? (i := 195) rfl) rfl) rfl rfl (by decide +kernel) (by decide +kernel) (by decide +kernel) (x_dk dl_40_0_ok 40 rfl))))))
  (x_Tok2
  (x_Tok2
  (x_Lok (x_st (I := xI) (xr_putF (ci := 11) (k := 7) (ix := 53) (N := 15) (fk := 2) (C := RX11) (T := TX11) (ty0 := tyX11) (ty := .object "RobotCellHouse$Planner") rfl in_X11 tyX11_ok nmX11 (by decide) (in_t4 (List.mem_of_getElem? (i := 115) rfl) rfl) rfl rfl rfl rfl x_fit_obj (x_dk dl_40_0_ok 41 rfl))))
  (x_Lok (x_st (I := xI) (xr_aload_n (i := 0) (x_dk dl_40_0_ok 42 rfl)))))
  (x_Tok2
  (x_Lok (x_st (I := xI) (xr_bipush (n := 6) (z := 6) (v := 6) (x_dk dl_40_0_ok 43 rfl) (by decide) (by decide))))
  (x_Lok (x_st (I := xI) (xr_newa (kd := 1) (b := false) (ty := .int) rfl rfl (in_t1 (List.mem_of_getElem? (i := 64) rfl) rfl) (x_dk dl_40_0_ok 44 rfl))))))))
  (x_Tok2
  (x_Tok2
  (x_Tok2
  (x_Lok (x_st (I := xI) (xr_putF (ci := 11) (k := 8) (ix := 57) (N := 15) (fk := 2) (C := RX11) (T := TX11) (ty0 := tyX11) (ty := .array .int) rfl in_X11 tyX11_ok nmX11 (by decide) (in_t4 (List.mem_of_getElem? (i := 116) rfl) rfl) rfl rfl rfl rfl x_fit_arr (x_dk dl_40_0_ok 45 rfl))))
  (x_Tok2
  (x_Lok (x_st (I := xI) (xr_aload_n (i := 0) (x_dk dl_40_0_ok 46 rfl))))
  (x_Lok (x_st (I := xI) (xr_sipush (n := 8000) (z := 8000) (v := 8000) (x_dk dl_40_0_ok 47 rfl) (by decide) (by decide))))))
  (x_Tok2
  (x_Tok2
  (x_Lok (x_st (I := xI) (xr_newa (kd := 1) (b := false) (ty := .int) rfl rfl (in_t1 (List.mem_of_getElem? (i := 64) rfl) rfl) (x_dk dl_40_0_ok 48 rfl))))
  (x_Lok (x_st (I := xI) (xr_putF (ci := 11) (k := 9) (ix := 61) (N := 15) (fk := 2) (C := RX11) (T := TX11) (ty0 := tyX11) (ty := .array .int) rfl in_X11 tyX11_ok nmX11 (by decide) (in_t4 (List.mem_of_getElem? (i := 117) rfl) rfl) rfl rfl rfl rfl x_fit_arr (x_dk dl_40_0_ok 49 rfl)))))
  (x_Tok2
  (x_Lok (x_st (I := xI) (xr_aload_n (i := 0) (x_dk dl_40_0_ok 50 rfl))))
  (x_Lok (x_st (I := xI) (xr_iconst (n := 4) (z := 4) (v := 4) (x_dk dl_40_0_ok 51 rfl) (by decide) (by decide)))))))
  (x_Tok2
  (x_Tok2
  (x_Tok2
  (x_Lok (x_st (I := xI) (xr_newa (kd := 1) (b := false) (ty := .int) rfl rfl (in_t1 (List.mem_of_getElem? (i := 64) rfl) rfl) (x_dk dl_40_0_ok 52 rfl))))
  (x_Lok (x_st (I := xI) (xr_putF (ci := 11) (k := 10) (ix := 64) (N := 15) (fk := 2) (C := RX11) (T := TX11) (ty0 := tyX11) (ty := .array .int) rfl in_X11 tyX11_ok nmX11 (by decide) (in_t4 (List.mem_of_getElem? (i := 118) rfl) rfl) rfl rfl rfl rfl x_fit_arr (x_dk dl_40_0_ok 53 rfl)))))
  (x_Tok2
  (x_Lok (x_st (I := xI) (xr_aload_n (i := 0) (x_dk dl_40_0_ok 54 rfl))))
  (x_Lok (x_st (I := xI) (xr_iconst (n := 1) (z := 1) (v := 1) (x_dk dl_40_0_ok 55 rfl) (by decide) (by decide))))))
  (x_Tok2
  (x_Tok2
  (x_Lok (x_st (I := xI) (xr_putf (ci := 11) (k := 14) (ix := 67) (N := 15) (fk := 1) (C := RX11) (T := TX11) (ty0 := tyX11) (ty := .boolean) rfl in_X11 tyX11_ok nmX11 (by decide) (in_t4 (List.mem_of_getElem? (i := 122) rfl) rfl) rfl rfl x_fit_bool (x_dk dl_40_0_ok 56 rfl))))
  (x_Lok (x_st (I := xI) (xr_aload_n (i := 0) (x_dk dl_40_0_ok 57 rfl)))))
  (x_Tok2
  (x_Lok (x_ca (I := xI) (q' := m_100) rfl (xr_callV (q' := m_100) (ix := 71) (n := 0) (in_t4 (List.mem_of_getElem? (i := 2) rfl) rfl) good_w (in_t1 (List.mem_of_getElem? (i := 1) rfl) rfl) (in_t3 (List.mem_of_getElem? (i := 239) rfl) rfl) (in_t4 (List.mem_of_getElem? (i := 1) rfl) rfl) (in_s1 (List.mem_of_getElem? (i := 0) rfl)) (by decide +kernel) (by decide +kernel) (by decide +kernel) (x_dk dl_40_0_ok 58 rfl))))
  (x_Lok (x_rt (I := xI) (k := 0) ⟨(x_dk dl_40_0_ok 59 rfl), rfl⟩)))))))
def tb_40 : Nat → xE := (x_T 61 tb_40_0 tb_40_30)
theorem tb_40_ok (K : xKx) (hK : x_KP K) : ∀ pc, x_EOq cls K xI m_40 pc (tb_40 pc) := (x_Tok2 (tb_40_0_ok K hK) (tb_40_30_ok K hK))
end
