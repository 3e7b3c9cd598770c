noncomputable section
def dn_157_0 : List (Nat × Instr × Nat) := [(0, .aload_n 0, 1), (1, .invokevirtual 54, 3), (4, .aload_n 0, 1), (5, .bipush 20, 2), (7, .invokevirtual 180, 3), (10, .aload_n 0, 1), (11, .invokevirtual 195, 3), (14, .aload_n 0, 1), (15, .getfield 21, 3), (18, .iload_n 1, 1), (19, .iconst 0, 1), (20, .invokevirtual 198, 3), (23, .pop, 1), (24, .return_, 1)]
set_option maxRecDepth 20000 in
theorem dn_157_0_ok : dn_157_0.all (fun q => decide (decode prog_10_method_41_code q.1 = .ok (q.2.1, q.2.2))) = true := by decide +kernel
def te_157_0 : Nat → eE := (e_T 11 (e_T 4 (e_T 0 (e_L 0 (0, ei_load 0 2 1, 0, 0)) (e_T 1 (e_L 1 (2, e_nof, 123, 1)) (e_L 4 (0, ei_load 0 2 5, 0, 0)))) (e_T 7 (e_T 5 (e_L 5 (0, ei_push (0, 20) 7, 0, 0)) (e_L 7 (2, e_nof, 129, 2))) (e_T 10 (e_L 10 (0, ei_load 0 2 11, 0, 0)) (e_L 11 (2, e_nof, 144, 1))))) (e_T 18 (e_T 14 (e_L 14 (0, ei_load 0 2 15, 0, 0)) (e_T 15 (e_L 15 (0, ei_getf eft elay 8 3 18, 0, 0)) (e_L 18 (0, ei_load 1 0 19, 0, 0)))) (e_T 20 (e_T 19 (e_L 19 (0, ei_push (0, 0) 20, 0, 0)) (e_L 20 (2, e_nof, 21, 3))) (e_T 23 (e_L 23 (0, ei_stk ef_pop 24, 0, 0)) (e_L 24 (1, e_nof, 0, 0))))))
set_option maxRecDepth 20000 in
set_option maxHeartbeats 4000000 in
theorem te_157_0_ok : ∀ pc, e_EOq eft cls elay eI n_157 pc (te_157_0 pc) :=
  (e_Tok2
  (e_Tok2
  (e_Tok2
  (e_Lok (e_st (I := eI) (er_aload_n (i := 0) (x_dk dn_157_0_ok 0 rfl)) nx_load))
  (e_Tok2
  (e_Lok (e_ca (I := eI) (q' := n_123) rfl (xr_callV (q' := n_123) (ix := 54) (n := 0) (in_t5 (List.mem_of_getElem? (i := 80) rfl) rfl) good_w (in_t1 (List.mem_of_getElem? (i := 2) rfl) rfl) (in_t5 (List.mem_of_getElem? (i := 77) rfl) rfl) (in_t5 (List.mem_of_getElem? (i := 79) rfl) rfl) (in_s1 (List.mem_of_getElem? (i := 11) rfl)) (by decide +kernel) (by decide +kernel) (by decide +kernel) (x_dk dn_157_0_ok 1 rfl))))
  (e_Lok (e_st (I := eI) (er_aload_n (i := 0) (x_dk dn_157_0_ok 2 rfl)) nx_load))))
  (e_Tok2
  (e_Tok2
  (e_Lok (e_st (I := eI) (er_bipush (n := 20) (z := 20) (v := 20) (x_dk dn_157_0_ok 3 rfl) (by decide) (by decide)) (nx_push (Or.inl rfl))))
  (e_Lok (e_ca (I := eI) (q' := n_129) rfl (xr_callV (q' := n_129) (ix := 180) (n := 1) (in_t6 (List.mem_of_getElem? (i := 18) rfl) rfl) good_w (in_t1 (List.mem_of_getElem? (i := 2) rfl) rfl) (in_t6 (List.mem_of_getElem? (i := 15) rfl) rfl) (in_t6 (List.mem_of_getElem? (i := 17) rfl) rfl) (in_s2 (List.mem_of_getElem? (i := 9) rfl)) (by decide +kernel) (by decide +kernel) (by decide +kernel) (x_dk dn_157_0_ok 4 rfl)))))
  (e_Tok2
  (e_Lok (e_st (I := eI) (er_aload_n (i := 0) (x_dk dn_157_0_ok 5 rfl)) nx_load))
  (e_Lok (e_ca (I := eI) (q' := n_144) rfl (xr_callV (q' := n_144) (ix := 195) (n := 0) (in_t6 (List.mem_of_getElem? (i := 34) rfl) rfl) good_w (in_t1 (List.mem_of_getElem? (i := 2) rfl) rfl) (in_t6 (List.mem_of_getElem? (i := 31) rfl) rfl) (in_t6 (List.mem_of_getElem? (i := 33) rfl) rfl) (in_s2 (List.mem_of_getElem? (i := 13) rfl)) (by decide +kernel) (by decide +kernel) (by decide +kernel) (x_dk dn_157_0_ok 6 rfl)))))))
  (e_Tok2
  (e_Tok2
  (e_Lok (e_st (I := eI) (er_aload_n (i := 0) (x_dk dn_157_0_ok 7 rfl)) nx_load))
  (e_Tok2
  (e_Lok (e_st (I := eI) (er_getf (ci := 8) (k := 3) (ix := 21) (N := 17) (C := RX8) (T := TX8) rfl in_X8 (by decide) (in_t1 (List.mem_of_getElem? (i := 71) rfl) rfl) (x_dk dn_157_0_ok 8 rfl)) nx_getf))
  (e_Lok (e_st (I := eI) (er_iload_n (i := 1) (x_dk dn_157_0_ok 9 rfl)) nx_load))))
  (e_Tok2
  (e_Tok2
  (e_Lok (e_st (I := eI) (er_iconst (n := 0) (z := 0) (v := 0) (x_dk dn_157_0_ok 10 rfl) (by decide) (by decide)) (nx_push (Or.inl rfl))))
  (e_Lok (e_ca (I := eI) (q' := n_21) rfl (xr_callV (q' := n_21) (ix := 198) (n := 2) (in_t6 (List.mem_of_getElem? (i := 47) rfl) rfl) good_w (in_t1 (List.mem_of_getElem? (i := 3) rfl) rfl) (in_t6 (List.mem_of_getElem? (i := 44) rfl) rfl) (in_t6 (List.mem_of_getElem? (i := 45) rfl) rfl) (in_t6 (List.mem_of_getElem? (i := 46) rfl) rfl) (by decide +kernel) (by decide +kernel) (by decide +kernel) (x_dk dn_157_0_ok 11 rfl)))))
  (e_Tok2
  (e_Lok (e_st (I := eI) (er_pop (x_dk dn_157_0_ok 12 rfl)) (nx_stk bf_pop)))
  (e_Lok (e_rt (I := eI) (k := 0) ⟨(x_dk dn_157_0_ok 13 rfl), rfl⟩))))))
def te_157 : Nat → eE := te_157_0
theorem te_157_ok : ∀ pc, e_EOq eft cls elay eI n_157 pc (te_157 pc) := te_157_0_ok
def dn_158_0 : List (Nat × Instr × Nat) := [(0, .aload_n 0, 1), (1, .invokevirtual 257, 3), (4, .iconst 0, 1), (5, .istore_n 1, 1), (6, .iload_n 1, 1), (7, .sipush 4000, 3), (10, .if_icmp .ge 63, 3), (13, .aload_n 0, 1), (14, .getfield 57, 3), (17, .bipush 45, 2), (19, .if_icmp .ne 54, 3), (22, .aload_n 0, 1), (23, .getfield 21, 3), (26, .bipush 12, 2), (28, .iconst 0, 1), (29, .invokevirtual 198, 3), (32, .istore_n 2, 1), (33, .aload_n 0, 1), (34, .invokevirtual 54, 3), (37, .aload_n 0, 1), (38, .invokevirtual 257, 3), (41, .aload_n 0, 1), (42, .getfield 21, 3), (45, .bipush 11, 2), (47, .iconst 0, 1), (48, .invokevirtual 198, 3), (51, .pop, 1), (52, .aload_n 0, 1), (53, .getfield 21, 3), (56, .iload_n 2, 1), (57, .aload_n 0, 1), (58, .getfield 21, 3), (61, .getfield 164, 3), (64, .invokevirtual 174, 3), (67, .iinc 1 1, 3), (70, .goto (-64), 3), (73, .return_, 1)]
set_option maxRecDepth 20000 in
theorem dn_158_0_ok : dn_158_0.all (fun q => decide (decode prog_10_method_42_code q.1 = .ok (q.2.1, q.2.2))) = true := by decide +kernel
def te_158_0 : Nat → eE := (e_T 33 (e_T 14 (e_T 5 (e_T 1 (e_T 0 (e_L 0 (0, ei_load 0 2 1, 0, 0)) (e_L 1 (2, e_nof, 159, 1))) (e_T 4 (e_L 4 (0, ei_push (0, 0) 5, 0, 0)) (e_L 5 (0, ei_stor 1 0 6, 0, 0)))) (e_T 7 (e_T 6 (e_L 6 (0, ei_load 1 0 7, 0, 0)) (e_L 7 (0, ei_push (0, 4000) 10, 0, 0))) (e_T 10 (e_L 10 (0, ei_if2 3 73 13, 0, 0)) (e_T 13 (e_L 13 (0, ei_load 0 2 14, 0, 0)) (e_L 14 (0, ei_getf eft elay 8 5 17, 0, 0)))))) (e_T 23 (e_T 19 (e_T 17 (e_L 17 (0, ei_push (0, 45) 19, 0, 0)) (e_L 19 (0, ei_if2 1 73 22, 0, 0))) (e_T 22 (e_L 22 (0, ei_load 0 2 23, 0, 0)) (e_L 23 (0, ei_getf eft elay 8 3 26, 0, 0)))) (e_T 28 (e_T 26 (e_L 26 (0, ei_push (0, 12) 28, 0, 0)) (e_L 28 (0, ei_push (0, 0) 29, 0, 0))) (e_T 29 (e_L 29 (2, e_nof, 21, 3)) (e_T 32 (e_L 32 (0, ei_stor 2 0 33, 0, 0)) (e_L 33 (0, ei_load 0 2 34, 0, 0))))))) (e_T 51 (e_T 41 (e_T 37 (e_T 34 (e_L 34 (2, e_nof, 123, 1)) (e_L 37 (0, ei_load 0 2 38, 0, 0))) (e_T 38 (e_L 38 (2, e_nof, 159, 1)) (e_L 41 (0, ei_load 0 2 42, 0, 0)))) (e_T 45 (e_T 42 (e_L 42 (0, ei_getf eft elay 8 3 45, 0, 0)) (e_L 45 (0, ei_push (0, 11) 47, 0, 0))) (e_T 47 (e_L 47 (0, ei_push (0, 0) 48, 0, 0)) (e_T 48 (e_L 48 (2, e_nof, 21, 3)) (e_L 51 (0, ei_stk ef_pop 52, 0, 0)))))) (e_T 58 (e_T 53 (e_T 52 (e_L 52 (0, ei_load 0 2 53, 0, 0)) (e_L 53 (0, ei_getf eft elay 8 3 56, 0, 0))) (e_T 56 (e_L 56 (0, ei_load 2 0 57, 0, 0)) (e_T 57 (e_L 57 (0, ei_load 0 2 58, 0, 0)) (e_L 58 (0, ei_getf eft elay 8 3 61, 0, 0))))) (e_T 64 (e_T 61 (e_L 61 (0, ei_getf eft elay 1 0 64, 0, 0)) (e_L 64 (2, e_nof, 22, 3))) (e_T 67 (e_L 67 (0, ei_inc 1 1 70, 0, 0)) (e_T 70 (e_L 70 (0, ei_goto 6, 0, 0)) (e_L 73 (1, e_nof, 0, 0))))))))
set_option maxRecDepth 20000 in
set_option maxHeartbeats 4000000 in
theorem te_158_0_ok : ∀ pc, e_EOq eft cls elay eI n_158 pc (te_158_0 pc) :=
  (e_Tok2
  (e_Tok2
  (e_Tok2
  (e_Tok2
  (e_Tok2
  (e_Lok (e_st (I := eI) (er_aload_n (i := 0) (x_dk dn_158_0_ok 0 rfl)) nx_load))
  (e_Lok (e_ca (I := eI) (q' := n_159) rfl (xr_callV (q' := n_159) (ix := 257) (n := 0) (in_t6 (List.mem_of_getElem? (i := 64) rfl) rfl) good_w (in_t1 (List.mem_of_getElem? (i := 2) rfl) rfl) (in_t6 (List.mem_of_getElem? (i := 61) rfl) rfl) (in_t6 (List.mem_of_getElem? (i := 63) rfl) rfl) (in_s3 (List.mem_of_getElem? (i := 3) rfl)) (by decide +kernel) (by decide +kernel) (by decide +kernel) (x_dk dn_158_0_ok 1 rfl)))))
  (e_Tok2
  (e_Lok (e_st (I := eI) (er_iconst (n := 0) (z := 0) (v := 0) (x_dk dn_158_0_ok 2 rfl) (by decide) (by decide)) (nx_push (Or.inl rfl))))
  (e_Lok (e_st (I := eI) (er_istore_n (i := 1) (x_dk dn_158_0_ok 3 rfl) (by decide +kernel)) nx_stor))))
  (e_Tok2
  (e_Tok2
  (e_Lok (e_st (I := eI) (er_iload_n (i := 1) (x_dk dn_158_0_ok 4 rfl)) nx_load))
  (e_Lok (e_st (I := eI) (er_sipush (n := 4000) (z := 4000) (v := 4000) (x_dk dn_158_0_ok 5 rfl) (by decide) (by decide)) (nx_push (Or.inl rfl)))))
  (e_Tok2
  (e_Lok (e_st (I := eI) (er_icmpge (off := 63) (tg := 73) (x_dk dn_158_0_ok 6 rfl) (by decide)) nx_if2))
  (e_Tok2
  (e_Lok (e_st (I := eI) (er_aload_n (i := 0) (x_dk dn_158_0_ok 7 rfl)) nx_load))
  (e_Lok (e_st (I := eI) (er_getf (ci := 8) (k := 5) (ix := 57) (N := 17) (C := RX8) (T := TX8) rfl in_X8 (by decide) (in_t1 (List.mem_of_getElem? (i := 74) rfl) rfl) (x_dk dn_158_0_ok 8 rfl)) nx_getf))))))
  (e_Tok2
  (e_Tok2
  (e_Tok2
  (e_Lok (e_st (I := eI) (er_bipush (n := 45) (z := 45) (v := 45) (x_dk dn_158_0_ok 9 rfl) (by decide) (by decide)) (nx_push (Or.inl rfl))))
  (e_Lok (e_st (I := eI) (er_icmpne (off := 54) (tg := 73) (x_dk dn_158_0_ok 10 rfl) (by decide)) nx_if2)))
  (e_Tok2
  (e_Lok (e_st (I := eI) (er_aload_n (i := 0) (x_dk dn_158_0_ok 11 rfl)) nx_load))
  (e_Lok (e_st (I := eI) (er_getf (ci := 8) (k := 3) (ix := 21) (N := 17) (C := RX8) (T := TX8) rfl in_X8 (by decide) (in_t1 (List.mem_of_getElem? (i := 71) rfl) rfl) (x_dk dn_158_0_ok 12 rfl)) nx_getf))))
  (e_Tok2
  (e_Tok2
  (e_Lok (e_st (I := eI) (er_bipush (n := 12) (z := 12) (v := 12) (x_dk dn_158_0_ok 13 rfl) (by decide) (by decide)) (nx_push (Or.inl rfl))))
  (e_Lok (e_st (I := eI) (er_iconst (n := 0) (z := 0) (v := 0) (x_dk dn_158_0_ok 14 rfl) (by decide) (by decide)) (nx_push (Or.inl rfl)))))
  (e_Tok2
  (e_Lok (e_ca (I := eI) (q' := n_21) rfl (xr_callV (q' := n_21) (ix := 198) (n := 2) (in_t6 (List.mem_of_getElem? (i := 47) rfl) rfl) good_w (in_t1 (List.mem_of_getElem? (i := 3) rfl) rfl) (in_t6 (List.mem_of_getElem? (i := 44) rfl) rfl) (in_t6 (List.mem_of_getElem? (i := 45) rfl) rfl) (in_t6 (List.mem_of_getElem? (i := 46) rfl) rfl) (by decide +kernel) (by decide +kernel) (by decide +kernel) (x_dk dn_158_0_ok 15 rfl))))
  (e_Tok2
  (e_Lok (e_st (I := eI) (er_istore_n (i := 2) (x_dk dn_158_0_ok 16 rfl) (by decide +kernel)) nx_stor))
  (e_Lok (e_st (I := eI) (er_aload_n (i := 0) (x_dk dn_158_0_ok 17 rfl)) nx_load)))))))
  (e_Tok2
  (e_Tok2
  (e_Tok2
  (e_Tok2
  (e_Lok (e_ca (I := eI) (q' := n_123) rfl (xr_callV (q' := n_123) (ix := 54) (n := 0) (in_t5 (List.mem_of_getElem? (i := 80) rfl) rfl) good_w (in_t1 (List.mem_of_getElem? (i := 2) rfl) rfl) (in_t5 (List.mem_of_getElem? (i := 77) rfl) rfl) (in_t5 (List.mem_of_getElem? (i := 79) rfl) rfl) (in_s1 (List.mem_of_getElem? (i := 11) rfl)) (by decide +kernel) (by decide +kernel) (by decide +kernel) (x_dk dn_158_0_ok 18 rfl))))
  (e_Lok (e_st (I := eI) (er_aload_n (i := 0) (x_dk dn_158_0_ok 19 rfl)) nx_load)))
  (e_Tok2
  (e_Lok (e_ca (I := eI) (q' := n_159) rfl (xr_callV (q' := n_159) (ix := 257) (n := 0) (in_t6 (List.mem_of_getElem? (i := 64) rfl) rfl) good_w (in_t1 (List.mem_of_getElem? (i := 2) rfl) rfl) (in_t6 (List.mem_of_getElem? (i := 61) rfl) rfl) (in_t6 (List.mem_of_getElem? (i := 63) rfl) rfl) (in_s3 (List.mem_of_getElem? (i := 3) rfl)) (by decide +kernel) (by decide +kernel) (by decide +kernel) (x_dk dn_158_0_ok 20 rfl))))
  (e_Lok (e_st (I := eI) (er_aload_n (i := 0) (x_dk dn_158_0_ok 21 rfl)) nx_load))))
  (e_Tok2
  (e_Tok2
  (e_Lok (e_st (I := eI) (er_getf (ci := 8) (k := 3) (ix := 21) (N := 17) (C := RX8) (T := TX8) rfl in_X8 (by decide) (in_t1 (List.mem_of_getElem? (i := 71) rfl) rfl) (x_dk dn_158_0_ok 22 rfl)) nx_getf))
  (e_Lok (e_st (I := eI) (er_bipush (n := 11) (z := 11) (v := 11) (x_dk dn_158_0_ok 23 rfl) (by decide) (by decide)) (nx_push (Or.inl rfl)))))
  (e_Tok2
  (e_Lok (e_st (I := eI) (er_iconst (n := 0) (z := 0) (v := 0) (x_dk dn_158_0_ok 24 rfl) (by decide) (by decide)) (nx_push (Or.inl rfl))))
  (e_Tok2
  (e_Lok (e_ca (I := eI) (q' := n_21) rfl (xr_callV (q' := n_21) (ix := 198) (n := 2) (in_t6 (List.mem_of_getElem? (i := 47) rfl) rfl) good_w (in_t1 (List.mem_of_getElem? (i := 3) rfl) rfl) (in_t6 (List.mem_of_getElem? (i := 44) rfl) rfl) (in_t6 (List.mem_of_getElem? (i := 45) rfl) rfl) (in_t6 (List.mem_of_getElem? (i := 46) rfl) rfl) (by decide +kernel) (by decide +kernel) (by decide +kernel) (x_dk dn_158_0_ok 25 rfl))))
  (e_Lok (e_st (I := eI) (er_pop (x_dk dn_158_0_ok 26 rfl)) (nx_stk bf_pop)))))))
  (e_Tok2
  (e_Tok2
  (e_Tok2
  (e_Lok (e_st (I := eI) (er_aload_n (i := 0) (x_dk dn_158_0_ok 27 rfl)) nx_load))
  (e_Lok (e_st (I := eI) (er_getf (ci := 8) (k := 3) (ix := 21) (N := 17) (C := RX8) (T := TX8) rfl in_X8 (by decide) (in_t1 (List.mem_of_getElem? (i := 71) rfl) rfl) (x_dk dn_158_0_ok 28 rfl)) nx_getf)))
  (e_Tok2
  (e_Lok (e_st (I := eI) (er_iload_n (i := 2) (x_dk dn_158_0_ok 29 rfl)) nx_load))
  (e_Tok2
  (e_Lok (e_st (I := eI) (er_aload_n (i := 0) (x_dk dn_158_0_ok 30 rfl)) nx_load))
  (e_Lok (e_st (I := eI) (er_getf (ci := 8) (k := 3) (ix := 21) (N := 17) (C := RX8) (T := TX8) rfl in_X8 (by decide) (in_t1 (List.mem_of_getElem? (i := 71) rfl) rfl) (x_dk dn_158_0_ok 31 rfl)) nx_getf)))))
  (e_Tok2
  (e_Tok2
  (e_Lok (e_st (I := eI) (er_getf (ci := 1) (k := 0) (ix := 164) (N := 5) (C := RX1) (T := TX1) rfl in_X1 (by decide) (in_t1 (List.mem_of_getElem? (i := 42) rfl) rfl) (x_dk dn_158_0_ok 32 rfl)) nx_getf))
  (e_Lok (e_ca (I := eI) (q' := n_22) rfl (xr_callV (q' := n_22) (ix := 174) (n := 2) (in_t6 (List.mem_of_getElem? (i := 101) rfl) rfl) good_w (in_t1 (List.mem_of_getElem? (i := 3) rfl) rfl) (in_t6 (List.mem_of_getElem? (i := 98) rfl) rfl) (in_t6 (List.mem_of_getElem? (i := 99) rfl) rfl) (in_t6 (List.mem_of_getElem? (i := 100) rfl) rfl) (by decide +kernel) (by decide +kernel) (by decide +kernel) (x_dk dn_158_0_ok 33 rfl)))))
  (e_Tok2
  (e_Lok (e_st (I := eI) (er_iinc (i := 1) (n := 1) (x_dk dn_158_0_ok 34 rfl) (by decide +kernel) (by decide)) nx_inc))
  (e_Tok2
  (e_Lok (e_st (I := eI) (er_goto (off := (-64)) (tg := 6) (x_dk dn_158_0_ok 35 rfl) (by decide)) nx_goto))
  (e_Lok (e_rt (I := eI) (k := 0) ⟨(x_dk dn_158_0_ok 36 rfl), rfl⟩))))))))
def te_158 : Nat → eE := te_158_0
theorem te_158_ok : ∀ pc, e_EOq eft cls elay eI n_158 pc (te_158 pc) := te_158_0_ok
def dn_159_0 : List (Nat × Instr × Nat) := [(0, .aload_n 0, 1), (1, .invokevirtual 260, 3), (4, .iconst 0, 1), (5, .istore_n 1, 1), (6, .iload_n 1, 1), (7, .sipush 4000, 3), (10, .if_icmp .ge 63, 3), (13, .aload_n 0, 1), (14, .getfield 57, 3), (17, .bipush 46, 2), (19, .if_icmp .ne 54, 3), (22, .aload_n 0, 1), (23, .getfield 21, 3), (26, .bipush 13, 2), (28, .iconst 0, 1), (29, .invokevirtual 198, 3), (32, .istore_n 2, 1), (33, .aload_n 0, 1), (34, .invokevirtual 54, 3), (37, .aload_n 0, 1), (38, .invokevirtual 260, 3), (41, .aload_n 0, 1), (42, .getfield 21, 3), (45, .bipush 11, 2), (47, .iconst 0, 1), (48, .invokevirtual 198, 3), (51, .pop, 1), (52, .aload_n 0, 1), (53, .getfield 21, 3), (56, .iload_n 2, 1), (57, .aload_n 0, 1), (58, .getfield 21, 3), (61, .getfield 164, 3), (64, .invokevirtual 174, 3), (67, .iinc 1 1, 3), (70, .goto (-64), 3), (73, .return_, 1)]
set_option maxRecDepth 20000 in
theorem dn_159_0_ok : dn_159_0.all (fun q => decide (decode prog_10_method_43_code q.1 = .ok (q.2.1, q.2.2))) = true := by decide +kernel
def te_159_0 : Nat → eE := (e_T 33 (e_T 14 (e_T 5 (e_T 1 (e_T 0 (e_L 0 (0, ei_load 0 2 1, 0, 0)) (e_L 1 (2, e_nof, 160, 1))) (e_T 4 (e_L 4 (0, ei_push (0, 0) 5, 0, 0)) (e_L 5 (0, ei_stor 1 0 6, 0, 0)))) (e_T 7 (e_T 6 (e_L 6 (0, ei_load 1 0 7, 0, 0)) (e_L 7 (0, ei_push (0, 4000) 10, 0, 0))) (e_T 10 (e_L 10 (0, ei_if2 3 73 13, 0, 0)) (e_T 13 (e_L 13 (0, ei_load 0 2 14, 0, 0)) (e_L 14 (0, ei_getf eft elay 8 5 17, 0, 0)))))) (e_T 23 (e_T 19 (e_T 17 (e_L 17 (0, ei_push (0, 46) 19, 0, 0)) (e_L 19 (0, ei_if2 1 73 22, 0, 0))) (e_T 22 (e_L 22 (0, ei_load 0 2 23, 0, 0)) (e_L 23 (0, ei_getf eft elay 8 3 26, 0, 0)))) (e_T 28 (e_T 26 (e_L 26 (0, ei_push (0, 13) 28, 0, 0)) (e_L 28 (0, ei_push (0, 0) 29, 0, 0))) (e_T 29 (e_L 29 (2, e_nof, 21, 3)) (e_T 32 (e_L 32 (0, ei_stor 2 0 33, 0, 0)) (e_L 33 (0, ei_load 0 2 34, 0, 0))))))) (e_T 51 (e_T 41 (e_T 37 (e_T 34 (e_L 34 (2, e_nof, 123, 1)) (e_L 37 (0, ei_load 0 2 38, 0, 0))) (e_T 38 (e_L 38 (2, e_nof, 160, 1)) (e_L 41 (0, ei_load 0 2 42, 0, 0)))) (e_T 45 (e_T 42 (e_L 42 (0, ei_getf eft elay 8 3 45, 0, 0)) (e_L 45 (0, ei_push (0, 11) 47, 0, 0))) (e_T 47 (e_L 47 (0, ei_push (0, 0) 48, 0, 0)) (e_T 48 (e_L 48 (2, e_nof, 21, 3)) (e_L 51 (0, ei_stk ef_pop 52, 0, 0)))))) (e_T 58 (e_T 53 (e_T 52 (e_L 52 (0, ei_load 0 2 53, 0, 0)) (e_L 53 (0, ei_getf eft elay 8 3 56, 0, 0))) (e_T 56 (e_L 56 (0, ei_load 2 0 57, 0, 0)) (e_T 57 (e_L 57 (0, ei_load 0 2 58, 0, 0)) (e_L 58 (0, ei_getf eft elay 8 3 61, 0, 0))))) (e_T 64 (e_T 61 (e_L 61 (0, ei_getf eft elay 1 0 64, 0, 0)) (e_L 64 (2, e_nof, 22, 3))) (e_T 67 (e_L 67 (0, ei_inc 1 1 70, 0, 0)) (e_T 70 (e_L 70 (0, ei_goto 6, 0, 0)) (e_L 73 (1, e_nof, 0, 0))))))))
set_option maxRecDepth 20000 in
set_option maxHeartbeats 4000000 in
theorem te_159_0_ok : ∀ pc, e_EOq eft cls elay eI n_159 pc (te_159_0 pc) :=
  (e_Tok2
  (e_Tok2
  (e_Tok2
  (e_Tok2
  (e_Tok2
  (e_Lok (e_st (I := eI) (er_aload_n (i := 0) (x_dk dn_159_0_ok 0 rfl)) nx_load))
  (e_Lok (e_ca (I := eI) (q' := n_160) rfl (xr_callV (q' := n_160) (ix := 260) (n := 0) (in_t6 (List.mem_of_getElem? (i := 68) rfl) rfl) good_w (in_t1 (List.mem_of_getElem? (i := 2) rfl) rfl) (in_t6 (List.mem_of_getElem? (i := 65) rfl) rfl) (in_t6 (List.mem_of_getElem? (i := 67) rfl) rfl) (in_s3 (List.mem_of_getElem? (i := 4) rfl)) (by decide +kernel) (by decide +kernel) (by decide +kernel) (x_dk dn_159_0_ok 1 rfl)))))
  (e_Tok2
  (e_Lok (e_st (I := eI) (er_iconst (n := 0) (z := 0) (v := 0) (x_dk dn_159_0_ok 2 rfl) (by decide) (by decide)) (nx_push (Or.inl rfl))))
  (e_Lok (e_st (I := eI) (er_istore_n (i := 1) (x_dk dn_159_0_ok 3 rfl) (by decide +kernel)) nx_stor))))
  (e_Tok2
  (e_Tok2
  (e_Lok (e_st (I := eI) (er_iload_n (i := 1) (x_dk dn_159_0_ok 4 rfl)) nx_load))
  (e_Lok (e_st (I := eI) (er_sipush (n := 4000) (z := 4000) (v := 4000) (x_dk dn_159_0_ok 5 rfl) (by decide) (by decide)) (nx_push (Or.inl rfl)))))
  (e_Tok2
  (e_Lok (e_st (I := eI) (er_icmpge (off := 63) (tg := 73) (x_dk dn_159_0_ok 6 rfl) (by decide)) nx_if2))
  (e_Tok2
  (e_Lok (e_st (I := eI) (er_aload_n (i := 0) (x_dk dn_159_0_ok 7 rfl)) nx_load))
  (e_Lok (e_st (I := eI) (er_getf (ci := 8) (k := 5) (ix := 57) (N := 17) (C := RX8) (T := TX8) rfl in_X8 (by decide) (in_t1 (List.mem_of_getElem? (i := 74) rfl) rfl) (x_dk dn_159_0_ok 8 rfl)) nx_getf))))))
  (e_Tok2
  (e_Tok2
  (e_Tok2
  (e_Lok (e_st (I := eI) (er_bipush (n := 46) (z := 46) (v := 46) (x_dk dn_159_0_ok 9 rfl) (by decide) (by decide)) (nx_push (Or.inl rfl))))
  (e_Lok (e_st (I := eI) (er_icmpne (off := 54) (tg := 73) (x_dk dn_159_0_ok 10 rfl) (by decide)) nx_if2)))
  (e_Tok2
  (e_Lok (e_st (I := eI) (er_aload_n (i := 0) (x_dk dn_159_0_ok 11 rfl)) nx_load))
  (e_Lok (e_st (I := eI) (er_getf (ci := 8) (k := 3) (ix := 21) (N := 17) (C := RX8) (T := TX8) rfl in_X8 (by decide) (in_t1 (List.mem_of_getElem? (i := 71) rfl) rfl) (x_dk dn_159_0_ok 12 rfl)) nx_getf))))
  (e_Tok2
  (e_Tok2
  (e_Lok (e_st (I := eI) (er_bipush (n := 13) (z := 13) (v := 13) (x_dk dn_159_0_ok 13 rfl) (by decide) (by decide)) (nx_push (Or.inl rfl))))
  (e_Lok (e_st (I := eI) (er_iconst (n := 0) (z := 0) (v := 0) (x_dk dn_159_0_ok 14 rfl) (by decide) (by decide)) (nx_push (Or.inl rfl)))))
  (e_Tok2
  (e_Lok (e_ca (I := eI) (q' := n_21) rfl (xr_callV (q' := n_21) (ix := 198) (n := 2) (in_t6 (List.mem_of_getElem? (i := 47) rfl) rfl) good_w (in_t1 (List.mem_of_getElem? (i := 3) rfl) rfl) (in_t6 (List.mem_of_getElem? (i := 44) rfl) rfl) (in_t6 (List.mem_of_getElem? (i := 45) rfl) rfl) (in_t6 (List.mem_of_getElem? (i := 46) rfl) rfl) (by decide +kernel) (by decide +kernel) (by decide +kernel) (x_dk dn_159_0_ok 15 rfl))))
  (e_Tok2
  (e_Lok (e_st (I := eI) (er_istore_n (i := 2) (x_dk dn_159_0_ok 16 rfl) (by decide +kernel)) nx_stor))
  (e_Lok (e_st (I := eI) (er_aload_n (i := 0) (x_dk dn_159_0_ok 17 rfl)) nx_load)))))))
  (e_Tok2
  (e_Tok2
  (e_Tok2
  (e_Tok2
  (e_Lok (e_ca (I := eI) (q' := n_123) rfl (xr_callV (q' := n_123) (ix := 54) (n := 0) (in_t5 (List.mem_of_getElem? (i := 80) rfl) rfl) good_w (in_t1 (List.mem_of_getElem? (i := 2) rfl) rfl) (in_t5 (List.mem_of_getElem? (i := 77) rfl) rfl) (in_t5 (List.mem_of_getElem? (i := 79) rfl) rfl) (in_s1 (List.mem_of_getElem? (i := 11) rfl)) (by decide +kernel) (by decide +kernel) (by decide +kernel) (x_dk dn_159_0_ok 18 rfl))))
  (e_Lok (e_st (I := eI) (er_aload_n (i := 0) (x_dk dn_159_0_ok 19 rfl)) nx_load)))
  (e_Tok2
  (e_Lok (e_ca (I := eI) (q' := n_160) rfl (xr_callV (q' := n_160) (ix := 260) (n := 0) (in_t6 (List.mem_of_getElem? (i := 68) rfl) rfl) good_w (in_t1 (List.mem_of_getElem? (i := 2) rfl) rfl) (in_t6 (List.mem_of_getElem? (i := 65) rfl) rfl) (in_t6 (List.mem_of_getElem? (i := 67) rfl) rfl) (in_s3 (List.mem_of_getElem? (i := 4) rfl)) (by decide +kernel) (by decide +kernel) (by decide +kernel) (x_dk dn_159_0_ok 20 rfl))))
  (e_Lok (e_st (I := eI) (er_aload_n (i := 0) (x_dk dn_159_0_ok 21 rfl)) nx_load))))
  (e_Tok2
  (e_Tok2
  (e_Lok (e_st (I := eI) (er_getf (ci := 8) (k := 3) (ix := 21) (N := 17) (C := RX8) (T := TX8) rfl in_X8 (by decide) (in_t1 (List.mem_of_getElem? (i := 71) rfl) rfl) (x_dk dn_159_0_ok 22 rfl)) nx_getf))
  (e_Lok (e_st (I := eI) (er_bipush (n := 11) (z := 11) (v := 11) (x_dk dn_159_0_ok 23 rfl) (by decide) (by decide)) (nx_push (Or.inl rfl)))))
  (e_Tok2
  (e_Lok (e_st (I := eI) (er_iconst (n := 0) (z := 0) (v := 0) (x_dk dn_159_0_ok 24 rfl) (by decide) (by decide)) (nx_push (Or.inl rfl))))
  (e_Tok2
  (e_Lok (e_ca (I := eI) (q' := n_21) rfl (xr_callV (q' := n_21) (ix := 198) (n := 2) (in_t6 (List.mem_of_getElem? (i := 47) rfl) rfl) good_w (in_t1 (List.mem_of_getElem? (i := 3) rfl) rfl) (in_t6 (List.mem_of_getElem? (i := 44) rfl) rfl) (in_t6 (List.mem_of_getElem? (i := 45) rfl) rfl) (in_t6 (List.mem_of_getElem? (i := 46) rfl) rfl) (by decide +kernel) (by decide +kernel) (by decide +kernel) (x_dk dn_159_0_ok 25 rfl))))
  (e_Lok (e_st (I := eI) (er_pop (x_dk dn_159_0_ok 26 rfl)) (nx_stk bf_pop)))))))
  (e_Tok2
  (e_Tok2
  (e_Tok2
  (e_Lok (e_st (I := eI) (er_aload_n (i := 0) (x_dk dn_159_0_ok 27 rfl)) nx_load))
  (e_Lok (e_st (I := eI) (er_getf (ci := 8) (k := 3) (ix := 21) (N := 17) (C := RX8) (T := TX8) rfl in_X8 (by decide) (in_t1 (List.mem_of_getElem? (i := 71) rfl) rfl) (x_dk dn_159_0_ok 28 rfl)) nx_getf)))
  (e_Tok2
  (e_Lok (e_st (I := eI) (er_iload_n (i := 2) (x_dk dn_159_0_ok 29 rfl)) nx_load))
  (e_Tok2
  (e_Lok (e_st (I := eI) (er_aload_n (i := 0) (x_dk dn_159_0_ok 30 rfl)) nx_load))
  (e_Lok (e_st (I := eI) (er_getf (ci := 8) (k := 3) (ix := 21) (N := 17) (C := RX8) (T := TX8) rfl in_X8 (by decide) (in_t1 (List.mem_of_getElem? (i := 71) rfl) rfl) (x_dk dn_159_0_ok 31 rfl)) nx_getf)))))
  (e_Tok2
  (e_Tok2
  (e_Lok (e_st (I := eI) (er_getf (ci := 1) (k := 0) (ix := 164) (N := 5) (C := RX1) (T := TX1) rfl in_X1 (by decide) (in_t1 (List.mem_of_getElem? (i := 42) rfl) rfl) (x_dk dn_159_0_ok 32 rfl)) nx_getf))
  (e_Lok (e_ca (I := eI) (q' := n_22) rfl (xr_callV (q' := n_22) (ix := 174) (n := 2) (in_t6 (List.mem_of_getElem? (i := 101) rfl) rfl) good_w (in_t1 (List.mem_of_getElem? (i := 3) rfl) rfl) (in_t6 (List.mem_of_getElem? (i := 98) rfl) rfl) (in_t6 (List.mem_of_getElem? (i := 99) rfl) rfl) (in_t6 (List.mem_of_getElem? (i := 100) rfl) rfl) (by decide +kernel) (by decide +kernel) (by decide +kernel) (x_dk dn_159_0_ok 33 rfl)))))
  (e_Tok2
  (e_Lok (e_st (I := eI) (er_iinc (i := 1) (n := 1) (x_dk dn_159_0_ok 34 rfl) (by decide +kernel) (by decide)) nx_inc))
  (e_Tok2
  (e_Lok (e_st (I := eI) (er_goto (off := (-64)) (tg := 6) (x_dk dn_159_0_ok 35 rfl) (by decide)) nx_goto))
  (e_Lok (e_rt (I := eI) (k := 0) ⟨(x_dk dn_159_0_ok 36 rfl), rfl⟩))))))))
def te_159 : Nat → eE := te_159_0
theorem te_159_ok : ∀ pc, e_EOq eft cls elay eI n_159 pc (te_159 pc) := te_159_0_ok
def dn_160_0 : List (Nat × Instr × Nat) := [(0, .aload_n 0, 1), (1, .getfield 57, 3), (4, .bipush 47, 2), (6, .if_icmp .ne 41, 3), (9, .aload_n 0, 1), (10, .invokevirtual 251, 3), (13, .ifCond .ne 4, 3), (16, .return_, 1), (17, .aload_n 0, 1), (18, .invokevirtual 54, 3), (21, .aload_n 0, 1), (22, .invokevirtual 260, 3), (25, .aload_n 0, 1), (26, .dup, 1), (27, .getfield 42, 3), (30, .iconst 1, 1), (31, .isub, 1), (32, .putfield 42, 3), (35, .aload_n 0, 1), (36, .getfield 21, 3), (39, .bipush 10, 2), (41, .iconst 0, 1), (42, .invokevirtual 198, 3), (45, .pop, 1), (46, .return_, 1), (47, .aload_n 0, 1), (48, .invokevirtual 263, 3), (51, .aload_n 0, 1), (52, .invokevirtual 266, 3), (55, .istore_n 1, 1), (56, .iload_n 1, 1), (57, .bipush 49, 2), (59, .if_icmp .ne 4, 3), (62, .return_, 1), (63, .aload_n 0, 1), (64, .invokevirtual 54, 3), (67, .aload_n 0, 1), (68, .invokevirtual 263, 3), (71, .aload_n 0, 1), (72, .getfield 21, 3), (75, .iload_n 1, 1), (76, .iconst 0, 1), (77, .invokevirtual 198, 3), (80, .pop, 1), (81, .return_, 1)]
set_option maxRecDepth 20000 in
theorem dn_160_0_ok : dn_160_0.all (fun q => decide (decode prog_10_method_44_code q.1 = .ok (q.2.1, q.2.2))) = true := by decide +kernel
def te_160_0 : Nat → eE := (e_T 21 (e_T 9 (e_T 1 (e_T 0 (e_L 0 (0, ei_load 0 2 1, 0, 0)) (e_L 1 (0, ei_getf eft elay 8 5 4, 0, 0))) (e_T 4 (e_L 4 (0, ei_push (0, 47) 6, 0, 0)) (e_T 6 (e_L 6 (0, ei_if2 1 47 9, 0, 0)) (e_L 9 (0, ei_load 0 2 10, 0, 0))))) (e_T 16 (e_T 10 (e_L 10 (2, e_nof, 132, 1)) (e_T 13 (e_L 13 (0, ei_if1 1 17 16, 0, 0)) (e_L 16 (1, e_nof, 0, 0)))) (e_T 17 (e_L 17 (0, ei_load 0 2 18, 0, 0)) (e_T 18 (e_L 18 (2, e_nof, 123, 1)) (e_L 21 (0, ei_load 0 2 22, 0, 0)))))) (e_T 30 (e_T 25 (e_T 22 (e_L 22 (2, e_nof, 160, 1)) (e_L 25 (0, ei_load 0 2 26, 0, 0))) (e_T 26 (e_L 26 (0, ei_stk ef_dup 27, 0, 0)) (e_T 27 (e_L 27 (0, ei_getf eft elay 8 11 30, 0, 0)) (e_L 30 (0, ei_push (0, 1) 31, 0, 0))))) (e_T 35 (e_T 31 (e_L 31 (0, ei_bin eF_sub 32, 0, 0)) (e_T 32 (e_L 32 (0, ei_putf eft elay 8 11 0 35, 0, 0)) (e_L 35 (0, ei_load 0 2 36, 0, 0)))) (e_T 36 (e_L 36 (0, ei_getf eft elay 8 3 39, 0, 0)) (e_T 39 (e_L 39 (0, ei_push (0, 10) 41, 0, 0)) (e_L 41 (0, ei_push (0, 0) 42, 0, 0)))))))
set_option maxRecDepth 20000 in
set_option maxHeartbeats 4000000 in
theorem te_160_0_ok : ∀ pc, e_EOq eft cls elay eI n_160 pc (te_160_0 pc) :=
  (e_Tok2
  (e_Tok2
  (e_Tok2
  (e_Tok2
  (e_Lok (e_st (I := eI) (er_aload_n (i := 0) (x_dk dn_160_0_ok 0 rfl)) nx_load))
  (e_Lok (e_st (I := eI) (er_getf (ci := 8) (k := 5) (ix := 57) (N := 17) (C := RX8) (T := TX8) rfl in_X8 (by decide) (in_t1 (List.mem_of_getElem? (i := 74) rfl) rfl) (x_dk dn_160_0_ok 1 rfl)) nx_getf)))
  (e_Tok2
  (e_Lok (e_st (I := eI) (er_bipush (n := 47) (z := 47) (v := 47) (x_dk dn_160_0_ok 2 rfl) (by decide) (by decide)) (nx_push (Or.inl rfl))))
  (e_Tok2
  (e_Lok (e_st (I := eI) (er_icmpne (off := 41) (tg := 47) (x_dk dn_160_0_ok 3 rfl) (by decide)) nx_if2))
  (e_Lok (e_st (I := eI) (er_aload_n (i := 0) (x_dk dn_160_0_ok 4 rfl)) nx_load)))))
  (e_Tok2
  (e_Tok2
  (e_Lok (e_ca (I := eI) (q' := n_132) rfl (xr_callV (q' := n_132) (ix := 251) (n := 0) (in_t6 (List.mem_of_getElem? (i := 72) rfl) rfl) good_w (in_t1 (List.mem_of_getElem? (i := 2) rfl) rfl) (in_t6 (List.mem_of_getElem? (i := 69) rfl) rfl) (in_t6 (List.mem_of_getElem? (i := 71) rfl) rfl) (in_s3 (List.mem_of_getElem? (i := 5) rfl)) (by decide +kernel) (by decide +kernel) (by decide +kernel) (x_dk dn_160_0_ok 5 rfl))))
  (e_Tok2
  (e_Lok (e_st (I := eI) (er_ifne (off := 4) (tg := 17) (x_dk dn_160_0_ok 6 rfl) (by decide)) nx_if1))
  (e_Lok (e_rt (I := eI) (k := 0) ⟨(x_dk dn_160_0_ok 7 rfl), rfl⟩))))
  (e_Tok2
  (e_Lok (e_st (I := eI) (er_aload_n (i := 0) (x_dk dn_160_0_ok 8 rfl)) nx_load))
  (e_Tok2
  (e_Lok (e_ca (I := eI) (q' := n_123) rfl (xr_callV (q' := n_123) (ix := 54) (n := 0) (in_t5 (List.mem_of_getElem? (i := 80) rfl) rfl) good_w (in_t1 (List.mem_of_getElem? (i := 2) rfl) rfl) (in_t5 (List.mem_of_getElem? (i := 77) rfl) rfl) (in_t5 (List.mem_of_getElem? (i := 79) rfl) rfl) (in_s1 (List.mem_of_getElem? (i := 11) rfl)) (by decide +kernel) (by decide +kernel) (by decide +kernel) (x_dk dn_160_0_ok 9 rfl))))
  (e_Lok (e_st (I := eI) (er_aload_n (i := 0) (x_dk dn_160_0_ok 10 rfl)) nx_load))))))
  (e_Tok2
  (e_Tok2
  (e_Tok2
  (e_Lok (e_ca (I := eI) (q' := n_160) rfl (xr_callV (q' := n_160) (ix := 260) (n := 0) (in_t6 (List.mem_of_getElem? (i := 68) rfl) rfl) good_w (in_t1 (List.mem_of_getElem? (i := 2) rfl) rfl) (in_t6 (List.mem_of_getElem? (i := 65) rfl) rfl) (in_t6 (List.mem_of_getElem? (i := 67) rfl) rfl) (in_s3 (List.mem_of_getElem? (i := 4) rfl)) (by decide +kernel) (by decide +kernel) (by decide +kernel) (x_dk dn_160_0_ok 11 rfl))))
  (e_Lok (e_st (I := eI) (er_aload_n (i := 0) (x_dk dn_160_0_ok 12 rfl)) nx_load)))
  (e_Tok2
  (e_Lok (e_st (I := eI) (er_dup (x_dk dn_160_0_ok 13 rfl)) (nx_stk bf_dup)))
  (e_Tok2
  (e_Lok (e_st (I := eI) (er_getf (ci := 8) (k := 11) (ix := 42) (N := 17) (C := RX8) (T := TX8) rfl in_X8 (by decide) (in_t1 (List.mem_of_getElem? (i := 80) rfl) rfl) (x_dk dn_160_0_ok 14 rfl)) nx_getf))
  (e_Lok (e_st (I := eI) (er_iconst (n := 1) (z := 1) (v := 1) (x_dk dn_160_0_ok 15 rfl) (by decide) (by decide)) (nx_push (Or.inl rfl)))))))
  (e_Tok2
  (e_Tok2
  (e_Lok (e_st (I := eI) (er_isub (x_dk dn_160_0_ok 16 rfl)) nx_bin))
  (e_Tok2
  (e_Lok (e_st (I := eI) (er_putf (ci := 8) (k := 11) (ix := 42) (N := 17) (fk := 0) (C := RX8) (T := TX8) (ty0 := tyX8) (ty := .int) rfl in_X8 tyX8_ok nmX8 (by decide) (in_t1 (List.mem_of_getElem? (i := 80) rfl) rfl) rfl rfl x_fit_int (x_dk dn_160_0_ok 17 rfl)) nx_putf))
  (e_Lok (e_st (I := eI) (er_aload_n (i := 0) (x_dk dn_160_0_ok 18 rfl)) nx_load))))
  (e_Tok2
  (e_Lok (e_st (I := eI) (er_getf (ci := 8) (k := 3) (ix := 21) (N := 17) (C := RX8) (T := TX8) rfl in_X8 (by decide) (in_t1 (List.mem_of_getElem? (i := 71) rfl) rfl) (x_dk dn_160_0_ok 19 rfl)) nx_getf))
  (e_Tok2
  (e_Lok (e_st (I := eI) (er_bipush (n := 10) (z := 10) (v := 10) (x_dk dn_160_0_ok 20 rfl) (by decide) (by decide)) (nx_push (Or.inl rfl))))
  (e_Lok (e_st (I := eI) (er_iconst (n := 0) (z := 0) (v := 0) (x_dk dn_160_0_ok 21 rfl) (by decide) (by decide)) (nx_push (Or.inl rfl)))))))))
def te_160_22 : Nat → eE := (e_T 59 (e_T 48 (e_T 45 (e_T 42 (e_L 42 (2, e_nof, 21, 3)) (e_L 45 (0, ei_stk ef_pop 46, 0, 0))) (e_T 46 (e_L 46 (1, e_nof, 0, 0)) (e_T 47 (e_L 47 (0, ei_load 0 2 48, 0, 0)) (e_L 48 (2, e_nof, 162, 1))))) (e_T 55 (e_T 51 (e_L 51 (0, ei_load 0 2 52, 0, 0)) (e_T 52 (e_L 52 (2, e_nof, 161, 1)) (e_L 55 (0, ei_stor 1 0 56, 0, 0)))) (e_T 56 (e_L 56 (0, ei_load 1 0 57, 0, 0)) (e_T 57 (e_L 57 (0, ei_push (0, 49) 59, 0, 0)) (e_L 59 (0, ei_if2 1 63 62, 0, 0)))))) (e_T 71 (e_T 64 (e_T 62 (e_L 62 (1, e_nof, 0, 0)) (e_T 63 (e_L 63 (0, ei_load 0 2 64, 0, 0)) (e_L 64 (2, e_nof, 123, 1)))) (e_T 67 (e_L 67 (0, ei_load 0 2 68, 0, 0)) (e_T 68 (e_L 68 (2, e_nof, 162, 1)) (e_L 71 (0, ei_load 0 2 72, 0, 0))))) (e_T 76 (e_T 72 (e_L 72 (0, ei_getf eft elay 8 3 75, 0, 0)) (e_T 75 (e_L 75 (0, ei_load 1 0 76, 0, 0)) (e_L 76 (0, ei_push (0, 0) 77, 0, 0)))) (e_T 77 (e_L 77 (2, e_nof, 21, 3)) (e_T 80 (e_L 80 (0, ei_stk ef_pop 81, 0, 0)) (e_L 81 (1, e_nof, 0, 0)))))))
set_option maxRecDepth 20000 in
set_option maxHeartbeats 4000000 in
theorem te_160_22_ok : ∀ pc, e_EOq eft cls elay eI n_160 pc (te_160_22 pc) :=
  (e_Tok2
  (e_Tok2
  (e_Tok2
  (e_Tok2
  (e_Lok (e_ca (I := eI) (q' := n_21) rfl (xr_callV (q' := n_21) (ix := 198) (n := 2) (in_t6 (List.mem_of_getElem? (i := 47) rfl) rfl) good_w (in_t1 (List.mem_of_getElem? (i := 3) rfl) rfl) (in_t6 (List.mem_of_getElem? (i := 44) rfl) rfl) (in_t6 (List.mem_of_getElem? (i := 45) rfl) rfl) (in_t6 (List.mem_of_getElem? (i := 46) rfl) rfl) (by decide +kernel) (by decide +kernel) (by decide +kernel) (x_dk dn_160_0_ok 22 rfl))))
  (e_Lok (e_st (I := eI) (er_pop (x_dk dn_160_0_ok 23 rfl)) (nx_stk bf_pop))))
  (e_Tok2
  (e_Lok (e_rt (I := eI) (k := 0) ⟨(x_dk dn_160_0_ok 24 rfl), rfl⟩))
  (e_Tok2
  (e_Lok (e_st (I := eI) (er_aload_n (i := 0) (x_dk dn_160_0_ok 25 rfl)) nx_load))
  (e_Lok (e_ca (I := eI) (q' := n_162) rfl (xr_callV (q' := n_162) (ix := 263) (n := 0) (in_t6 (List.mem_of_getElem? (i := 76) rfl) rfl) good_w (in_t1 (List.mem_of_getElem? (i := 2) rfl) rfl) (in_t6 (List.mem_of_getElem? (i := 73) rfl) rfl) (in_t6 (List.mem_of_getElem? (i := 75) rfl) rfl) (in_s3 (List.mem_of_getElem? (i := 6) rfl)) (by decide +kernel) (by decide +kernel) (by decide +kernel) (x_dk dn_160_0_ok 26 rfl)))))))
  (e_Tok2
  (e_Tok2
  (e_Lok (e_st (I := eI) (er_aload_n (i := 0) (x_dk dn_160_0_ok 27 rfl)) nx_load))
  (e_Tok2
  (e_Lok (e_ca (I := eI) (q' := n_161) rfl (xr_callV (q' := n_161) (ix := 266) (n := 0) (in_t6 (List.mem_of_getElem? (i := 97) rfl) rfl) good_w (in_t1 (List.mem_of_getElem? (i := 2) rfl) rfl) (in_t6 (List.mem_of_getElem? (i := 94) rfl) rfl) (in_t6 (List.mem_of_getElem? (i := 96) rfl) rfl) (in_s3 (List.mem_of_getElem? (i := 11) rfl)) (by decide +kernel) (by decide +kernel) (by decide +kernel) (x_dk dn_160_0_ok 28 rfl))))
  (e_Lok (e_st (I := eI) (er_istore_n (i := 1) (x_dk dn_160_0_ok 29 rfl) (by decide +kernel)) nx_stor))))
  (e_Tok2
  (e_Lok (e_st (I := eI) (er_iload_n (i := 1) (x_dk dn_160_0_ok 30 rfl)) nx_load))
  (e_Tok2
  (e_Lok (e_st (I := eI) (er_bipush (n := 49) (z := 49) (v := 49) (x_dk dn_160_0_ok 31 rfl) (by decide) (by decide)) (nx_push (Or.inl rfl))))
  (e_Lok (e_st (I := eI) (er_icmpne (off := 4) (tg := 63) (x_dk dn_160_0_ok 32 rfl) (by decide)) nx_if2))))))
  (e_Tok2
  (e_Tok2
  (e_Tok2
  (e_Lok (e_rt (I := eI) (k := 0) ⟨(x_dk dn_160_0_ok 33 rfl), rfl⟩))
  (e_Tok2
  (e_Lok (e_st (I := eI) (er_aload_n (i := 0) (x_dk dn_160_0_ok 34 rfl)) nx_load))
  (e_Lok (e_ca (I := eI) (q' := n_123) rfl (xr_callV (q' := n_123) (ix := 54) (n := 0) (in_t5 (List.mem_of_getElem? (i := 80) rfl) rfl) good_w (in_t1 (List.mem_of_getElem? (i := 2) rfl) rfl) (in_t5 (List.mem_of_getElem? (i := 77) rfl) rfl) (in_t5 (List.mem_of_getElem? (i := 79) rfl) rfl) (in_s1 (List.mem_of_getElem? (i := 11) rfl)) (by decide +kernel) (by decide +kernel) (by decide +kernel) (x_dk dn_160_0_ok 35 rfl))))))
  (e_Tok2
  (e_Lok (e_st (I := eI) (er_aload_n (i := 0) (x_dk dn_160_0_ok 36 rfl)) nx_load))
  (e_Tok2
  (e_Lok (e_ca (I := eI) (q' := n_162) rfl (xr_callV (q' := n_162) (ix := 263) (n := 0) (in_t6 (List.mem_of_getElem? (i := 76) rfl) rfl) good_w (in_t1 (List.mem_of_getElem? (i := 2) rfl) rfl) (in_t6 (List.mem_of_getElem? (i := 73) rfl) rfl) (in_t6 (List.mem_of_getElem? (i := 75) rfl) rfl) (in_s3 (List.mem_of_getElem? (i := 6) rfl)) (by decide +kernel) (by decide +kernel) (by decide +kernel) (x_dk dn_160_0_ok 37 rfl))))
  (e_Lok (e_st (I := eI) (er_aload_n (i := 0) (x_dk dn_160_0_ok 38 rfl)) nx_load)))))
  (e_Tok2
  (e_Tok2
  (e_Lok (e_st (I := eI) (er_getf (ci := 8) (k := 3) (ix := 21) (N := 17) (C := RX8) (T := TX8) rfl in_X8 (by decide) (in_t1 (List.mem_of_getElem? (i := 71) rfl) rfl) (x_dk dn_160_0_ok 39 rfl)) nx_getf))
  (e_Tok2
  (e_Lok (e_st (I := eI) (er_iload_n (i := 1) (x_dk dn_160_0_ok 40 rfl)) nx_load))
  (e_Lok (e_st (I := eI) (er_iconst (n := 0) (z := 0) (v := 0) (x_dk dn_160_0_ok 41 rfl) (by decide) (by decide)) (nx_push (Or.inl rfl))))))
  (e_Tok2
  (e_Lok (e_ca (I := eI) (q' := n_21) rfl (xr_callV (q' := n_21) (ix := 198) (n := 2) (in_t6 (List.mem_of_getElem? (i := 47) rfl) rfl) good_w (in_t1 (List.mem_of_getElem? (i := 3) rfl) rfl) (in_t6 (List.mem_of_getElem? (i := 44) rfl) rfl) (in_t6 (List.mem_of_getElem? (i := 45) rfl) rfl) (in_t6 (List.mem_of_getElem? (i := 46) rfl) rfl) (by decide +kernel) (by decide +kernel) (by decide +kernel) (x_dk dn_160_0_ok 42 rfl))))
  (e_Tok2
  (e_Lok (e_st (I := eI) (er_pop (x_dk dn_160_0_ok 43 rfl)) (nx_stk bf_pop)))
  (e_Lok (e_rt (I := eI) (k := 0) ⟨(x_dk dn_160_0_ok 44 rfl), rfl⟩)))))))
def te_160 : Nat → eE := (e_T 41 te_160_0 te_160_22)
theorem te_160_ok : ∀ pc, e_EOq eft cls elay eI n_160 pc (te_160 pc) := (e_Tok2 (te_160_0_ok) (te_160_22_ok))
def dn_161_0 : List (Nat × Instr × Nat) := [(0, .aload_n 0, 1), (1, .getfield 57, 3), (4, .tableswitch 78 5 15 #[63, 69, 75, 78, 78, 78, 78, 78, 60, 66, 72], 60), (64, .bipush 19, 2), (66, .ireturn, 1), (67, .bipush 20, 2), (69, .ireturn, 1), (70, .bipush 21, 2), (72, .ireturn, 1), (73, .bipush 22, 2), (75, .ireturn, 1), (76, .bipush 23, 2), (78, .ireturn, 1), (79, .bipush 24, 2), (81, .ireturn, 1), (82, .bipush 49, 2), (84, .ireturn, 1)]
set_option maxRecDepth 20000 in
theorem dn_161_0_ok : dn_161_0.all (fun q => decide (decode prog_10_method_45_code q.1 = .ok (q.2.1, q.2.2))) = true := by decide +kernel
def te_161_0 : Nat → eE := (e_T 70 (e_T 64 (e_T 1 (e_T 0 (e_L 0 (0, ei_load 0 2 1, 0, 0)) (e_L 1 (0, ei_getf eft elay 8 5 4, 0, 0))) (e_T 4 (e_L 4 (0, ei_sw [((-2147483648), 4, 82), (5, 5, 67), (6, 6, 73), (7, 7, 79), (8, 8, 82), (9, 9, 82), (10, 10, 82), (11, 11, 82), (12, 12, 82), (13, 13, 64), (14, 14, 70), (15, 15, 76), (16, 2147483647, 82)], 0, 0)) (e_L 64 (0, ei_push (0, 19) 66, 0, 0)))) (e_T 67 (e_T 66 (e_L 66 (1, e_nof, 1, 0)) (e_L 67 (0, ei_push (0, 20) 69, 0, 0))) (e_T 69 (e_L 69 (1, e_nof, 1, 0)) (e_L 70 (0, ei_push (0, 21) 72, 0, 0))))) (e_T 76 (e_T 73 (e_T 72 (e_L 72 (1, e_nof, 1, 0)) (e_L 73 (0, ei_push (0, 22) 75, 0, 0))) (e_T 75 (e_L 75 (1, e_nof, 1, 0)) (e_L 76 (0, ei_push (0, 23) 78, 0, 0)))) (e_T 79 (e_T 78 (e_L 78 (1, e_nof, 1, 0)) (e_L 79 (0, ei_push (0, 24) 81, 0, 0))) (e_T 81 (e_L 81 (1, e_nof, 1, 0)) (e_T 82 (e_L 82 (0, ei_push (0, 49) 84, 0, 0)) (e_L 84 (1, e_nof, 1, 0)))))))
set_option maxRecDepth 20000 in
set_option maxHeartbeats 4000000 in
theorem te_161_0_ok : ∀ pc, e_EOq eft cls elay eI n_161 pc (te_161_0 pc) :=
  (e_Tok2
  (e_Tok2
  (e_Tok2
  (e_Tok2
  (e_Lok (e_st (I := eI) (er_aload_n (i := 0) (x_dk dn_161_0_ok 0 rfl)) nx_load))
  (e_Lok (e_st (I := eI) (er_getf (ci := 8) (k := 5) (ix := 57) (N := 17) (C := RX8) (T := TX8) rfl in_X8 (by decide) (in_t1 (List.mem_of_getElem? (i := 74) rfl) rfl) (x_dk dn_161_0_ok 1 rfl)) nx_getf)))
  (e_Tok2
  (e_Lok (e_st (I := eI) (er_tsw (dflt := 78) (lo := 5) (hi := 15) (offs := #[63, 69, 75, 78, 78, 78, 78, 78, 60, 66, 72]) (len := 60) (n := 11) (x_dk dn_161_0_ok 2 rfl) (by decide) (by decide +kernel)) nx_sw))
  (e_Lok (e_st (I := eI) (er_bipush (n := 19) (z := 19) (v := 19) (x_dk dn_161_0_ok 3 rfl) (by decide) (by decide)) (nx_push (Or.inl rfl))))))
  (e_Tok2
  (e_Tok2
  (e_Lok (e_rt (I := eI) (k := 1) ⟨(x_dk dn_161_0_ok 4 rfl), rfl⟩))
  (e_Lok (e_st (I := eI) (er_bipush (n := 20) (z := 20) (v := 20) (x_dk dn_161_0_ok 5 rfl) (by decide) (by decide)) (nx_push (Or.inl rfl)))))
  (e_Tok2
  (e_Lok (e_rt (I := eI) (k := 1) ⟨(x_dk dn_161_0_ok 6 rfl), rfl⟩))
  (e_Lok (e_st (I := eI) (er_bipush (n := 21) (z := 21) (v := 21) (x_dk dn_161_0_ok 7 rfl) (by decide) (by decide)) (nx_push (Or.inl rfl)))))))
  (e_Tok2
  (e_Tok2
  (e_Tok2
  (e_Lok (e_rt (I := eI) (k := 1) ⟨(x_dk dn_161_0_ok 8 rfl), rfl⟩))
  (e_Lok (e_st (I := eI) (er_bipush (n := 22) (z := 22) (v := 22) (x_dk dn_161_0_ok 9 rfl) (by decide) (by decide)) (nx_push (Or.inl rfl)))))
  (e_Tok2
  (e_Lok (e_rt (I := eI) (k := 1) ⟨(x_dk dn_161_0_ok 10 rfl), rfl⟩))
  (e_Lok (e_st (I := eI) (er_bipush (n := 23) (z := 23) (v := 23) (x_dk dn_161_0_ok 11 rfl) (by decide) (by decide)) (nx_push (Or.inl rfl))))))
  (e_Tok2
  (e_Tok2
  (e_Lok (e_rt (I := eI) (k := 1) ⟨(x_dk dn_161_0_ok 12 rfl), rfl⟩))
  (e_Lok (e_st (I := eI) (er_bipush (n := 24) (z := 24) (v := 24) (x_dk dn_161_0_ok 13 rfl) (by decide) (by decide)) (nx_push (Or.inl rfl)))))
  (e_Tok2
  (e_Lok (e_rt (I := eI) (k := 1) ⟨(x_dk dn_161_0_ok 14 rfl), rfl⟩))
  (e_Tok2
  (e_Lok (e_st (I := eI) (er_bipush (n := 49) (z := 49) (v := 49) (x_dk dn_161_0_ok 15 rfl) (by decide) (by decide)) (nx_push (Or.inl rfl))))
  (e_Lok (e_rt (I := eI) (k := 1) ⟨(x_dk dn_161_0_ok 16 rfl), rfl⟩)))))))
def te_161 : Nat → eE := te_161_0
theorem te_161_ok : ∀ pc, e_EOq eft cls elay eI n_161 pc (te_161 pc) := te_161_0_ok
def dn_162_0 : List (Nat × Instr × Nat) := [(0, .aload_n 0, 1), (1, .invokevirtual 269, 3), (4, .iconst 0, 1), (5, .istore_n 1, 1), (6, .iload_n 1, 1), (7, .sipush 4000, 3), (10, .if_icmp .ge 58, 3), (13, .aload_n 0, 1), (14, .getfield 57, 3), (17, .bipush 8, 2), (19, .bipush 9, 2), (21, .invokestatic 201, 3), (24, .ifCond .eq 44, 3), (27, .aload_n 0, 1), (28, .getfield 57, 3), (31, .bipush 8, 2), (33, .if_icmp .ne 8, 3), (36, .bipush 14, 2), (38, .goto 5, 3), (41, .bipush 15, 2), (43, .istore_n 2, 1), (44, .aload_n 0, 1), (45, .invokevirtual 54, 3), (48, .aload_n 0, 1), (49, .invokevirtual 269, 3), (52, .aload_n 0, 1), (53, .getfield 21, 3), (56, .iload_n 2, 1), (57, .iconst 0, 1), (58, .invokevirtual 198, 3), (61, .pop, 1), (62, .iinc 1 1, 3), (65, .goto (-59), 3), (68, .return_, 1)]
set_option maxRecDepth 20000 in
theorem dn_162_0_ok : dn_162_0.all (fun q => decide (decode prog_10_method_46_code q.1 = .ok (q.2.1, q.2.2))) = true := by decide +kernel
def te_162_0 : Nat → eE := (e_T 33 (e_T 13 (e_T 5 (e_T 1 (e_T 0 (e_L 0 (0, ei_load 0 2 1, 0, 0)) (e_L 1 (2, e_nof, 163, 1))) (e_T 4 (e_L 4 (0, ei_push (0, 0) 5, 0, 0)) (e_L 5 (0, ei_stor 1 0 6, 0, 0)))) (e_T 7 (e_T 6 (e_L 6 (0, ei_load 1 0 7, 0, 0)) (e_L 7 (0, ei_push (0, 4000) 10, 0, 0))) (e_T 10 (e_L 10 (0, ei_if2 3 68 13, 0, 0)) (e_L 13 (0, ei_load 0 2 14, 0, 0))))) (e_T 21 (e_T 17 (e_T 14 (e_L 14 (0, ei_getf eft elay 8 5 17, 0, 0)) (e_L 17 (0, ei_push (0, 8) 19, 0, 0))) (e_T 19 (e_L 19 (0, ei_push (0, 9) 21, 0, 0)) (e_L 21 (2, e_nof, 242, 3)))) (e_T 27 (e_T 24 (e_L 24 (0, ei_if1 0 68 27, 0, 0)) (e_L 27 (0, ei_load 0 2 28, 0, 0))) (e_T 28 (e_L 28 (0, ei_getf eft elay 8 5 31, 0, 0)) (e_T 31 (e_L 31 (0, ei_push (0, 8) 33, 0, 0)) (e_L 33 (0, ei_if2 1 41 36, 0, 0))))))) (e_T 49 (e_T 43 (e_T 38 (e_T 36 (e_L 36 (0, ei_push (0, 14) 38, 0, 0)) (e_L 38 (0, ei_goto 43, 0, 0))) (e_T 41 (e_L 41 (0, ei_push (0, 15) 43, 0, 0)) (e_L 43 (0, ei_stor 2 0 44, 0, 0)))) (e_T 45 (e_T 44 (e_L 44 (0, ei_load 0 2 45, 0, 0)) (e_L 45 (2, e_nof, 123, 1))) (e_T 48 (e_L 48 (0, ei_load 0 2 49, 0, 0)) (e_L 49 (2, e_nof, 163, 1))))) (e_T 57 (e_T 53 (e_T 52 (e_L 52 (0, ei_load 0 2 53, 0, 0)) (e_L 53 (0, ei_getf eft elay 8 3 56, 0, 0))) (e_T 56 (e_L 56 (0, ei_load 2 0 57, 0, 0)) (e_L 57 (0, ei_push (0, 0) 58, 0, 0)))) (e_T 61 (e_T 58 (e_L 58 (2, e_nof, 21, 3)) (e_L 61 (0, ei_stk ef_pop 62, 0, 0))) (e_T 62 (e_L 62 (0, ei_inc 1 1 65, 0, 0)) (e_T 65 (e_L 65 (0, ei_goto 6, 0, 0)) (e_L 68 (1, e_nof, 0, 0))))))))
set_option maxRecDepth 20000 in
set_option maxHeartbeats 4000000 in
theorem te_162_0_ok : ∀ pc, e_EOq eft cls elay eI n_162 pc (te_162_0 pc) :=
  (e_Tok2
  (e_Tok2
  (e_Tok2
  (e_Tok2
  (e_Tok2
  (e_Lok (e_st (I := eI) (er_aload_n (i := 0) (x_dk dn_162_0_ok 0 rfl)) nx_load))
  (e_Lok (e_ca (I := eI) (q' := n_163) rfl (xr_callV (q' := n_163) (ix := 269) (n := 0) (in_t6 (List.mem_of_getElem? (i := 80) rfl) rfl) good_w (in_t1 (List.mem_of_getElem? (i := 2) rfl) rfl) (in_t6 (List.mem_of_getElem? (i := 77) rfl) rfl) (in_t6 (List.mem_of_getElem? (i := 79) rfl) rfl) (in_s3 (List.mem_of_getElem? (i := 7) rfl)) (by decide +kernel) (by decide +kernel) (by decide +kernel) (x_dk dn_162_0_ok 1 rfl)))))
  (e_Tok2
  (e_Lok (e_st (I := eI) (er_iconst (n := 0) (z := 0) (v := 0) (x_dk dn_162_0_ok 2 rfl) (by decide) (by decide)) (nx_push (Or.inl rfl))))
  (e_Lok (e_st (I := eI) (er_istore_n (i := 1) (x_dk dn_162_0_ok 3 rfl) (by decide +kernel)) nx_stor))))
  (e_Tok2
  (e_Tok2
  (e_Lok (e_st (I := eI) (er_iload_n (i := 1) (x_dk dn_162_0_ok 4 rfl)) nx_load))
  (e_Lok (e_st (I := eI) (er_sipush (n := 4000) (z := 4000) (v := 4000) (x_dk dn_162_0_ok 5 rfl) (by decide) (by decide)) (nx_push (Or.inl rfl)))))
  (e_Tok2
  (e_Lok (e_st (I := eI) (er_icmpge (off := 58) (tg := 68) (x_dk dn_162_0_ok 6 rfl) (by decide)) nx_if2))
  (e_Lok (e_st (I := eI) (er_aload_n (i := 0) (x_dk dn_162_0_ok 7 rfl)) nx_load)))))
  (e_Tok2
  (e_Tok2
  (e_Tok2
  (e_Lok (e_st (I := eI) (er_getf (ci := 8) (k := 5) (ix := 57) (N := 17) (C := RX8) (T := TX8) rfl in_X8 (by decide) (in_t1 (List.mem_of_getElem? (i := 74) rfl) rfl) (x_dk dn_162_0_ok 8 rfl)) nx_getf))
  (e_Lok (e_st (I := eI) (er_bipush (n := 8) (z := 8) (v := 8) (x_dk dn_162_0_ok 9 rfl) (by decide) (by decide)) (nx_push (Or.inl rfl)))))
  (e_Tok2
  (e_Lok (e_st (I := eI) (er_bipush (n := 9) (z := 9) (v := 9) (x_dk dn_162_0_ok 10 rfl) (by decide) (by decide)) (nx_push (Or.inl rfl))))
  (e_Lok (e_ca (I := eI) (q' := n_242) rfl (xr_callSN (q' := n_242) (ix := 201) (n := 3) (host := "RobotCellHouse") (in_t4 (List.mem_of_getElem? (i := 168) rfl) rfl) good_w (in_t1 (List.mem_of_getElem? (i := 1) rfl) rfl) (List.mem_of_getElem? (i := 11) rfl) (in_t4 (List.mem_of_getElem? (i := 167) rfl) rfl) (by decide +kernel) (by decide +kernel) (x_dk dn_162_0_ok 11 rfl))))))
  (e_Tok2
  (e_Tok2
  (e_Lok (e_st (I := eI) (er_ifeq (off := 44) (tg := 68) (x_dk dn_162_0_ok 12 rfl) (by decide)) nx_if1))
  (e_Lok (e_st (I := eI) (er_aload_n (i := 0) (x_dk dn_162_0_ok 13 rfl)) nx_load)))
  (e_Tok2
  (e_Lok (e_st (I := eI) (er_getf (ci := 8) (k := 5) (ix := 57) (N := 17) (C := RX8) (T := TX8) rfl in_X8 (by decide) (in_t1 (List.mem_of_getElem? (i := 74) rfl) rfl) (x_dk dn_162_0_ok 14 rfl)) nx_getf))
  (e_Tok2
  (e_Lok (e_st (I := eI) (er_bipush (n := 8) (z := 8) (v := 8) (x_dk dn_162_0_ok 15 rfl) (by decide) (by decide)) (nx_push (Or.inl rfl))))
  (e_Lok (e_st (I := eI) (er_icmpne (off := 8) (tg := 41) (x_dk dn_162_0_ok 16 rfl) (by decide)) nx_if2)))))))
  (e_Tok2
  (e_Tok2
  (e_Tok2
  (e_Tok2
  (e_Lok (e_st (I := eI) (er_bipush (n := 14) (z := 14) (v := 14) (x_dk dn_162_0_ok 17 rfl) (by decide) (by decide)) (nx_push (Or.inl rfl))))
  (e_Lok (e_st (I := eI) (er_goto (off := 5) (tg := 43) (x_dk dn_162_0_ok 18 rfl) (by decide)) nx_goto)))
  (e_Tok2
  (e_Lok (e_st (I := eI) (er_bipush (n := 15) (z := 15) (v := 15) (x_dk dn_162_0_ok 19 rfl) (by decide) (by decide)) (nx_push (Or.inl rfl))))
  (e_Lok (e_st (I := eI) (er_istore_n (i := 2) (x_dk dn_162_0_ok 20 rfl) (by decide +kernel)) nx_stor))))
  (e_Tok2
  (e_Tok2
  (e_Lok (e_st (I := eI) (er_aload_n (i := 0) (x_dk dn_162_0_ok 21 rfl)) nx_load))
  (e_Lok (e_ca (I := eI) (q' := n_123) rfl (xr_callV (q' := n_123) (ix := 54) (n := 0) (in_t5 (List.mem_of_getElem? (i := 80) rfl) rfl) good_w (in_t1 (List.mem_of_getElem? (i := 2) rfl) rfl) (in_t5 (List.mem_of_getElem? (i := 77) rfl) rfl) (in_t5 (List.mem_of_getElem? (i := 79) rfl) rfl) (in_s1 (List.mem_of_getElem? (i := 11) rfl)) (by decide +kernel) (by decide +kernel) (by decide +kernel) (x_dk dn_162_0_ok 22 rfl)))))
  (e_Tok2
  (e_Lok (e_st (I := eI) (er_aload_n (i := 0) (x_dk dn_162_0_ok 23 rfl)) nx_load))
  (e_Lok (e_ca (I := eI) (q' := n_163) rfl (xr_callV (q' := n_163) (ix := 269) (n := 0) (in_t6 (List.mem_of_getElem? (i := 80) rfl) rfl) good_w (in_t1 (List.mem_of_getElem? (i := 2) rfl) rfl) (in_t6 (List.mem_of_getElem? (i := 77) rfl) rfl) (in_t6 (List.mem_of_getElem? (i := 79) rfl) rfl) (in_s3 (List.mem_of_getElem? (i := 7) rfl)) (by decide +kernel) (by decide +kernel) (by decide +kernel) (x_dk dn_162_0_ok 24 rfl)))))))
  (e_Tok2
  (e_Tok2
  (e_Tok2
  (e_Lok (e_st (I := eI) (er_aload_n (i := 0) (x_dk dn_162_0_ok 25 rfl)) nx_load))
  (e_Lok (e_st (I := eI) (er_getf (ci := 8) (k := 3) (ix := 21) (N := 17) (C := RX8) (T := TX8) rfl in_X8 (by decide) (in_t1 (List.mem_of_getElem? (i := 71) rfl) rfl) (x_dk dn_162_0_ok 26 rfl)) nx_getf)))
  (e_Tok2
  (e_Lok (e_st (I := eI) (er_iload_n (i := 2) (x_dk dn_162_0_ok 27 rfl)) nx_load))
  (e_Lok (e_st (I := eI) (er_iconst (n := 0) (z := 0) (v := 0) (x_dk dn_162_0_ok 28 rfl) (by decide) (by decide)) (nx_push (Or.inl rfl))))))
  (e_Tok2
  (e_Tok2
  (e_Lok (e_ca (I := eI) (q' := n_21) rfl (xr_callV (q' := n_21) (ix := 198) (n := 2) (in_t6 (List.mem_of_getElem? (i := 47) rfl) rfl) good_w (in_t1 (List.mem_of_getElem? (i := 3) rfl) rfl) (in_t6 (List.mem_of_getElem? (i := 44) rfl) rfl) (in_t6 (List.mem_of_getElem? (i := 45) rfl) rfl) (in_t6 (List.mem_of_getElem? (i := 46) rfl) rfl) (by decide +kernel) (by decide +kernel) (by decide +kernel) (x_dk dn_162_0_ok 29 rfl))))
  (e_Lok (e_st (I := eI) (er_pop (x_dk dn_162_0_ok 30 rfl)) (nx_stk bf_pop))))
  (e_Tok2
  (e_Lok (e_st (I := eI) (er_iinc (i := 1) (n := 1) (x_dk dn_162_0_ok 31 rfl) (by decide +kernel) (by decide)) nx_inc))
  (e_Tok2
  (e_Lok (e_st (I := eI) (er_goto (off := (-59)) (tg := 6) (x_dk dn_162_0_ok 32 rfl) (by decide)) nx_goto))
  (e_Lok (e_rt (I := eI) (k := 0) ⟨(x_dk dn_162_0_ok 33 rfl), rfl⟩))))))))
def te_162 : Nat → eE := te_162_0
theorem te_162_ok : ∀ pc, e_EOq eft cls elay eI n_162 pc (te_162 pc) := te_162_0_ok
def dn_163_0 : List (Nat × Instr × Nat) := [(0, .aload_n 0, 1), (1, .invokevirtual 272, 3), (4, .iconst 0, 1), (5, .istore_n 1, 1), (6, .iload_n 1, 1), (7, .sipush 4000, 3), (10, .if_icmp .ge 52, 3), (13, .aload_n 0, 1), (14, .getfield 57, 3), (17, .bipush 10, 2), (19, .bipush 12, 2), (21, .invokestatic 201, 3), (24, .ifCond .eq 38, 3), (27, .bipush 16, 2), (29, .aload_n 0, 1), (30, .getfield 57, 3), (33, .iadd, 1), (34, .bipush 10, 2), (36, .isub, 1), (37, .istore_n 2, 1), (38, .aload_n 0, 1), (39, .invokevirtual 54, 3), (42, .aload_n 0, 1), (43, .invokevirtual 272, 3), (46, .aload_n 0, 1), (47, .getfield 21, 3), (50, .iload_n 2, 1), (51, .iconst 0, 1), (52, .invokevirtual 198, 3), (55, .pop, 1), (56, .iinc 1 1, 3), (59, .goto (-53), 3), (62, .return_, 1)]
set_option maxRecDepth 20000 in
theorem dn_163_0_ok : dn_163_0.all (fun q => decide (decode prog_10_method_47_code q.1 = .ok (q.2.1, q.2.2))) = true := by decide +kernel
def te_163_0 : Nat → eE := (e_T 30 (e_T 13 (e_T 5 (e_T 1 (e_T 0 (e_L 0 (0, ei_load 0 2 1, 0, 0)) (e_L 1 (2, e_nof, 164, 1))) (e_T 4 (e_L 4 (0, ei_push (0, 0) 5, 0, 0)) (e_L 5 (0, ei_stor 1 0 6, 0, 0)))) (e_T 7 (e_T 6 (e_L 6 (0, ei_load 1 0 7, 0, 0)) (e_L 7 (0, ei_push (0, 4000) 10, 0, 0))) (e_T 10 (e_L 10 (0, ei_if2 3 62 13, 0, 0)) (e_L 13 (0, ei_load 0 2 14, 0, 0))))) (e_T 21 (e_T 17 (e_T 14 (e_L 14 (0, ei_getf eft elay 8 5 17, 0, 0)) (e_L 17 (0, ei_push (0, 10) 19, 0, 0))) (e_T 19 (e_L 19 (0, ei_push (0, 12) 21, 0, 0)) (e_L 21 (2, e_nof, 242, 3)))) (e_T 27 (e_T 24 (e_L 24 (0, ei_if1 0 62 27, 0, 0)) (e_L 27 (0, ei_push (0, 16) 29, 0, 0))) (e_T 29 (e_L 29 (0, ei_load 0 2 30, 0, 0)) (e_L 30 (0, ei_getf eft elay 8 5 33, 0, 0)))))) (e_T 43 (e_T 37 (e_T 34 (e_T 33 (e_L 33 (0, ei_bin eF_add 34, 0, 0)) (e_L 34 (0, ei_push (0, 10) 36, 0, 0))) (e_T 36 (e_L 36 (0, ei_bin eF_sub 37, 0, 0)) (e_L 37 (0, ei_stor 2 0 38, 0, 0)))) (e_T 39 (e_T 38 (e_L 38 (0, ei_load 0 2 39, 0, 0)) (e_L 39 (2, e_nof, 123, 1))) (e_T 42 (e_L 42 (0, ei_load 0 2 43, 0, 0)) (e_L 43 (2, e_nof, 164, 1))))) (e_T 51 (e_T 47 (e_T 46 (e_L 46 (0, ei_load 0 2 47, 0, 0)) (e_L 47 (0, ei_getf eft elay 8 3 50, 0, 0))) (e_T 50 (e_L 50 (0, ei_load 2 0 51, 0, 0)) (e_L 51 (0, ei_push (0, 0) 52, 0, 0)))) (e_T 55 (e_T 52 (e_L 52 (2, e_nof, 21, 3)) (e_L 55 (0, ei_stk ef_pop 56, 0, 0))) (e_T 56 (e_L 56 (0, ei_inc 1 1 59, 0, 0)) (e_T 59 (e_L 59 (0, ei_goto 6, 0, 0)) (e_L 62 (1, e_nof, 0, 0))))))))
set_option maxRecDepth 20000 in
set_option maxHeartbeats 4000000 in
theorem te_163_0_ok : ∀ pc, e_EOq eft cls elay eI n_163 pc (te_163_0 pc) :=
  (e_Tok2
  (e_Tok2
  (e_Tok2
  (e_Tok2
  (e_Tok2
  (e_Lok (e_st (I := eI) (er_aload_n (i := 0) (x_dk dn_163_0_ok 0 rfl)) nx_load))
  (e_Lok (e_ca (I := eI) (q' := n_164) rfl (xr_callV (q' := n_164) (ix := 272) (n := 0) (in_t6 (List.mem_of_getElem? (i := 84) rfl) rfl) good_w (in_t1 (List.mem_of_getElem? (i := 2) rfl) rfl) (in_t6 (List.mem_of_getElem? (i := 81) rfl) rfl) (in_t6 (List.mem_of_getElem? (i := 83) rfl) rfl) (in_s3 (List.mem_of_getElem? (i := 8) rfl)) (by decide +kernel) (by decide +kernel) (by decide +kernel) (x_dk dn_163_0_ok 1 rfl)))))
  (e_Tok2
  (e_Lok (e_st (I := eI) (er_iconst (n := 0) (z := 0) (v := 0) (x_dk dn_163_0_ok 2 rfl) (by decide) (by decide)) (nx_push (Or.inl rfl))))
  (e_Lok (e_st (I := eI) (er_istore_n (i := 1) (x_dk dn_163_0_ok 3 rfl) (by decide +kernel)) nx_stor))))
  (e_Tok2
  (e_Tok2
  (e_Lok (e_st (I := eI) (er_iload_n (i := 1) (x_dk dn_163_0_ok 4 rfl)) nx_load))
  (e_Lok (e_st (I := eI) (er_sipush (n := 4000) (z := 4000) (v := 4000) (x_dk dn_163_0_ok 5 rfl) (by decide) (by decide)) (nx_push (Or.inl rfl)))))
  (e_Tok2
  (e_Lok (e_st (I := eI) (er_icmpge (off := 52) (tg := 62) (x_dk dn_163_0_ok 6 rfl) (by decide)) nx_if2))
  (e_Lok (e_st (I := eI) (er_aload_n (i := 0) (x_dk dn_163_0_ok 7 rfl)) nx_load)))))
  (e_Tok2
  (e_Tok2
  (e_Tok2
  (e_Lok (e_st (I := eI) (er_getf (ci := 8) (k := 5) (ix := 57) (N := 17) (C := RX8) (T := TX8) rfl in_X8 (by decide) (in_t1 (List.mem_of_getElem? (i := 74) rfl) rfl) (x_dk dn_163_0_ok 8 rfl)) nx_getf))
  (e_Lok (e_st (I := eI) (er_bipush (n := 10) (z := 10) (v := 10) (x_dk dn_163_0_ok 9 rfl) (by decide) (by decide)) (nx_push (Or.inl rfl)))))
  (e_Tok2
  (e_Lok (e_st (I := eI) (er_bipush (n := 12) (z := 12) (v := 12) (x_dk dn_163_0_ok 10 rfl) (by decide) (by decide)) (nx_push (Or.inl rfl))))
  (e_Lok (e_ca (I := eI) (q' := n_242) rfl (xr_callSN (q' := n_242) (ix := 201) (n := 3) (host := "RobotCellHouse") (in_t4 (List.mem_of_getElem? (i := 168) rfl) rfl) good_w (in_t1 (List.mem_of_getElem? (i := 1) rfl) rfl) (List.mem_of_getElem? (i := 11) rfl) (in_t4 (List.mem_of_getElem? (i := 167) rfl) rfl) (by decide +kernel) (by decide +kernel) (x_dk dn_163_0_ok 11 rfl))))))
  (e_Tok2
  (e_Tok2
  (e_Lok (e_st (I := eI) (er_ifeq (off := 38) (tg := 62) (x_dk dn_163_0_ok 12 rfl) (by decide)) nx_if1))
  (e_Lok (e_st (I := eI) (er_bipush (n := 16) (z := 16) (v := 16) (x_dk dn_163_0_ok 13 rfl) (by decide) (by decide)) (nx_push (Or.inl rfl)))))
  (e_Tok2
  (e_Lok (e_st (I := eI) (er_aload_n (i := 0) (x_dk dn_163_0_ok 14 rfl)) nx_load))
  (e_Lok (e_st (I := eI) (er_getf (ci := 8) (k := 5) (ix := 57) (N := 17) (C := RX8) (T := TX8) rfl in_X8 (by decide) (in_t1 (List.mem_of_getElem? (i := 74) rfl) rfl) (x_dk dn_163_0_ok 15 rfl)) nx_getf))))))
  (e_Tok2
  (e_Tok2
  (e_Tok2
  (e_Tok2
  (e_Lok (e_st (I := eI) (er_iadd (x_dk dn_163_0_ok 16 rfl)) nx_bin))
  (e_Lok (e_st (I := eI) (er_bipush (n := 10) (z := 10) (v := 10) (x_dk dn_163_0_ok 17 rfl) (by decide) (by decide)) (nx_push (Or.inl rfl)))))
  (e_Tok2
  (e_Lok (e_st (I := eI) (er_isub (x_dk dn_163_0_ok 18 rfl)) nx_bin))
  (e_Lok (e_st (I := eI) (er_istore_n (i := 2) (x_dk dn_163_0_ok 19 rfl) (by decide +kernel)) nx_stor))))
  (e_Tok2
  (e_Tok2
  (e_Lok (e_st (I := eI) (er_aload_n (i := 0) (x_dk dn_163_0_ok 20 rfl)) nx_load))
  (e_Lok (e_ca (I := eI) (q' := n_123) rfl (xr_callV (q' := n_123) (ix := 54) (n := 0) (in_t5 (List.mem_of_getElem? (i := 80) rfl) rfl) good_w (in_t1 (List.mem_of_getElem? (i := 2) rfl) rfl) (in_t5 (List.mem_of_getElem? (i := 77) rfl) rfl) (in_t5 (List.mem_of_getElem? (i := 79) rfl) rfl) (in_s1 (List.mem_of_getElem? (i := 11) rfl)) (by decide +kernel) (by decide +kernel) (by decide +kernel) (x_dk dn_163_0_ok 21 rfl)))))
  (e_Tok2
  (e_Lok (e_st (I := eI) (er_aload_n (i := 0) (x_dk dn_163_0_ok 22 rfl)) nx_load))
  (e_Lok (e_ca (I := eI) (q' := n_164) rfl (xr_callV (q' := n_164) (ix := 272) (n := 0) (in_t6 (List.mem_of_getElem? (i := 84) rfl) rfl) good_w (in_t1 (List.mem_of_getElem? (i := 2) rfl) rfl) (in_t6 (List.mem_of_getElem? (i := 81) rfl) rfl) (in_t6 (List.mem_of_getElem? (i := 83) rfl) rfl) (in_s3 (List.mem_of_getElem? (i := 8) rfl)) (by decide +kernel) (by decide +kernel) (by decide +kernel) (x_dk dn_163_0_ok 23 rfl)))))))
  (e_Tok2
  (e_Tok2
  (e_Tok2
  (e_Lok (e_st (I := eI) (er_aload_n (i := 0) (x_dk dn_163_0_ok 24 rfl)) nx_load))
  (e_Lok (e_st (I := eI) (er_getf (ci := 8) (k := 3) (ix := 21) (N := 17) (C := RX8) (T := TX8) rfl in_X8 (by decide) (in_t1 (List.mem_of_getElem? (i := 71) rfl) rfl) (x_dk dn_163_0_ok 25 rfl)) nx_getf)))
  (e_Tok2
  (e_Lok (e_st (I := eI) (er_iload_n (i := 2) (x_dk dn_163_0_ok 26 rfl)) nx_load))
  (e_Lok (e_st (I := eI) (er_iconst (n := 0) (z := 0) (v := 0) (x_dk dn_163_0_ok 27 rfl) (by decide) (by decide)) (nx_push (Or.inl rfl))))))
  (e_Tok2
  (e_Tok2
  (e_Lok (e_ca (I := eI) (q' := n_21) rfl (xr_callV (q' := n_21) (ix := 198) (n := 2) (in_t6 (List.mem_of_getElem? (i := 47) rfl) rfl) good_w (in_t1 (List.mem_of_getElem? (i := 3) rfl) rfl) (in_t6 (List.mem_of_getElem? (i := 44) rfl) rfl) (in_t6 (List.mem_of_getElem? (i := 45) rfl) rfl) (in_t6 (List.mem_of_getElem? (i := 46) rfl) rfl) (by decide +kernel) (by decide +kernel) (by decide +kernel) (x_dk dn_163_0_ok 28 rfl))))
  (e_Lok (e_st (I := eI) (er_pop (x_dk dn_163_0_ok 29 rfl)) (nx_stk bf_pop))))
  (e_Tok2
  (e_Lok (e_st (I := eI) (er_iinc (i := 1) (n := 1) (x_dk dn_163_0_ok 30 rfl) (by decide +kernel) (by decide)) nx_inc))
  (e_Tok2
  (e_Lok (e_st (I := eI) (er_goto (off := (-53)) (tg := 6) (x_dk dn_163_0_ok 31 rfl) (by decide)) nx_goto))
  (e_Lok (e_rt (I := eI) (k := 0) ⟨(x_dk dn_163_0_ok 32 rfl), rfl⟩))))))))
def te_163 : Nat → eE := te_163_0
theorem te_163_ok : ∀ pc, e_EOq eft cls elay eI n_163 pc (te_163 pc) := te_163_0_ok
def dn_164_0 : List (Nat × Instr × Nat) := [(0, .aload_n 0, 1), (1, .getfield 57, 3), (4, .bipush 9, 2), (6, .if_icmp .ne 43, 3), (9, .aload_n 0, 1), (10, .invokevirtual 251, 3), (13, .ifCond .ne 4, 3), (16, .return_, 1), (17, .aload_n 0, 1), (18, .invokevirtual 54, 3), (21, .aload_n 0, 1), (22, .invokevirtual 272, 3), (25, .aload_n 0, 1), (26, .dup, 1), (27, .getfield 42, 3), (30, .iconst 1, 1), (31, .isub, 1), (32, .putfield 42, 3), (35, .aload_n 0, 1), (36, .getfield 21, 3), (39, .bipush 9, 2), (41, .iconst 0, 1), (42, .invokevirtual 198, 3), (45, .pop, 1), (46, .goto 147, 3), (49, .aload_n 0, 1), (50, .getfield 57, 3), (53, .iconst 2, 1), (54, .if_icmp .ne 14, 3), (57, .aload_n 0, 1), (58, .invokevirtual 275, 3), (61, .aload_n 0, 1), (62, .invokevirtual 54, 3), (65, .goto 128, 3), (68, .aload_n 0, 1), (69, .getfield 57, 3), (72, .iconst 1, 1), (73, .if_icmp .ne 23, 3), (76, .aload_n 0, 1), (77, .getfield 21, 3), (80, .iconst 2, 1), (81, .aload_n 0, 1), (82, .invokevirtual 248, 3), (85, .invokevirtual 198, 3), (88, .pop, 1), (89, .aload_n 0, 1), (90, .invokevirtual 54, 3), (93, .goto 100, 3), (96, .aload_n 0, 1), (97, .getfield 57, 3), (100, .bipush 48, 2), (102, .if_icmp .eq 12, 3), (105, .aload_n 0, 1), (106, .getfield 57, 3), (109, .bipush 49, 2), (111, .if_icmp .ne 39, 3), (114, .aload_n 0, 1), (115, .getfield 57, 3), (118, .bipush 48, 2), (120, .if_icmp .ne 7, 3), (123, .iconst 3, 1), (124, .goto 4, 3), (127, .iconst 4, 1), (128, .istore_n 1, 1), (129, .aload_n 0, 1), (130, .invokevirtual 54, 3), (133, .aload_n 0, 1), (134, .invokevirtual 278, 3), (137, .aload_n 0, 1), (138, .getfield 21, 3), (141, .iload_n 1, 1), (142, .iconst 0, 1), (143, .invokevirtual 198, 3), (146, .pop, 1), (147, .goto 46, 3), (150, .aload_n 0, 1), (151, .getfield 57, 3), (154, .bipush 50, 2), (156, .bipush 53, 2), (158, .invokestatic 201, 3), (161, .ifCond .eq 28, 3), (164, .aload_n 0, 1), (165, .getfield 21, 3), (168, .iconst 5, 1), (169, .aload_n 0, 1), (170, .getfield 57, 3), (173, .iadd, 1), (174, .bipush 50, 2), (176, .isub, 1), (177, .iconst 0, 1), (178, .invokevirtual 198, 3), (181, .pop, 1), (182, .aload_n 0, 1), (183, .invokevirtual 54, 3), (186, .goto 7, 3), (189, .aload_n 0, 1), (190, .invokevirtual 278, 3), (193, .return_, 1)]
set_option maxRecDepth 20000 in
theorem dn_164_0_ok : dn_164_0.all (fun q => decide (decode prog_10_method_48_code q.1 = .ok (q.2.1, q.2.2))) = true := by decide +kernel
def te_164_0 : Nat → eE := (e_T 22 (e_T 10 (e_T 4 (e_T 0 (e_L 0 (0, ei_load 0 2 1, 0, 0)) (e_T 1 (e_L 1 (0, ei_getf eft elay 8 5 4, 0, 0)) (e_L 4 (0, ei_push (0, 9) 6, 0, 0)))) (e_T 6 (e_L 6 (0, ei_if2 1 49 9, 0, 0)) (e_T 9 (e_L 9 (0, ei_load 0 2 10, 0, 0)) (e_L 10 (2, e_nof, 132, 1))))) (e_T 17 (e_T 13 (e_L 13 (0, ei_if1 1 17 16, 0, 0)) (e_T 16 (e_L 16 (1, e_nof, 0, 0)) (e_L 17 (0, ei_load 0 2 18, 0, 0)))) (e_T 18 (e_L 18 (2, e_nof, 123, 1)) (e_T 21 (e_L 21 (0, ei_load 0 2 22, 0, 0)) (e_L 22 (2, e_nof, 164, 1)))))) (e_T 32 (e_T 27 (e_T 25 (e_L 25 (0, ei_load 0 2 26, 0, 0)) (e_T 26 (e_L 26 (0, ei_stk ef_dup 27, 0, 0)) (e_L 27 (0, ei_getf eft elay 8 11 30, 0, 0)))) (e_T 30 (e_L 30 (0, ei_push (0, 1) 31, 0, 0)) (e_T 31 (e_L 31 (0, ei_bin eF_sub 32, 0, 0)) (e_L 32 (0, ei_putf eft elay 8 11 0 35, 0, 0))))) (e_T 39 (e_T 35 (e_L 35 (0, ei_load 0 2 36, 0, 0)) (e_T 36 (e_L 36 (0, ei_getf eft elay 8 3 39, 0, 0)) (e_L 39 (0, ei_push (0, 9) 41, 0, 0)))) (e_T 41 (e_L 41 (0, ei_push (0, 0) 42, 0, 0)) (e_T 42 (e_L 42 (2, e_nof, 21, 3)) (e_L 45 (0, ei_stk ef_pop 46, 0, 0)))))))
set_option maxRecDepth 20000 in
set_option maxHeartbeats 4000000 in
theorem te_164_0_ok : ∀ pc, e_EOq eft cls elay eI n_164 pc (te_164_0 pc) :=
  (e_Tok2
  (e_Tok2
  (e_Tok2
  (e_Tok2
  (e_Lok (e_st (I := eI) (er_aload_n (i := 0) (x_dk dn_164_0_ok 0 rfl)) nx_load))
  (e_Tok2
  (e_Lok (e_st (I := eI) (er_getf (ci := 8) (k := 5) (ix := 57) (N := 17) (C := RX8) (T := TX8) rfl in_X8 (by decide) (in_t1 (List.mem_of_getElem? (i := 74) rfl) rfl) (x_dk dn_164_0_ok 1 rfl)) nx_getf))
  (e_Lok (e_st (I := eI) (er_bipush (n := 9) (z := 9) (v := 9) (x_dk dn_164_0_ok 2 rfl) (by decide) (by decide)) (nx_push (Or.inl rfl))))))
  (e_Tok2
  (e_Lok (e_st (I := eI) (er_icmpne (off := 43) (tg := 49) (x_dk dn_164_0_ok 3 rfl) (by decide)) nx_if2))
  (e_Tok2
  (e_Lok (e_st (I := eI) (er_aload_n (i := 0) (x_dk dn_164_0_ok 4 rfl)) nx_load))
  (e_Lok (e_ca (I := eI) (q' := n_132) rfl (xr_callV (q' := n_132) (ix := 251) (n := 0) (in_t6 (List.mem_of_getElem? (i := 72) rfl) rfl) good_w (in_t1 (List.mem_of_getElem? (i := 2) rfl) rfl) (in_t6 (List.mem_of_getElem? (i := 69) rfl) rfl) (in_t6 (List.mem_of_getElem? (i := 71) rfl) rfl) (in_s3 (List.mem_of_getElem? (i := 5) rfl)) (by decide +kernel) (by decide +kernel) (by decide +kernel) (x_dk dn_164_0_ok 5 rfl)))))))
  (e_Tok2
  (e_Tok2
  (e_Lok (e_st (I := eI) (er_ifne (off := 4) (tg := 17) (x_dk dn_164_0_ok 6 rfl) (by decide)) nx_if1))
  (e_Tok2
  (e_Lok (e_rt (I := eI) (k := 0) ⟨(x_dk dn_164_0_ok 7 rfl), rfl⟩))
  (e_Lok (e_st (I := eI) (er_aload_n (i := 0) (x_dk dn_164_0_ok 8 rfl)) nx_load))))
  (e_Tok2
  (e_Lok (e_ca (I := eI) (q' := n_123) rfl (xr_callV (q' := n_123) (ix := 54) (n := 0) (in_t5 (List.mem_of_getElem? (i := 80) rfl) rfl) good_w (in_t1 (List.mem_of_getElem? (i := 2) rfl) rfl) (in_t5 (List.mem_of_getElem? (i := 77) rfl) rfl) (in_t5 (List.mem_of_getElem? (i := 79) rfl) rfl) (in_s1 (List.mem_of_getElem? (i := 11) rfl)) (by decide +kernel) (by decide +kernel) (by decide +kernel) (x_dk dn_164_0_ok 9 rfl))))
  (e_Tok2
  (e_Lok (e_st (I := eI) (er_aload_n (i := 0) (x_dk dn_164_0_ok 10 rfl)) nx_load))
  (e_Lok (e_ca (I := eI) (q' := n_164) rfl (xr_callV (q' := n_164) (ix := 272) (n := 0) (in_t6 (List.mem_of_getElem? (i := 84) rfl) rfl) good_w (in_t1 (List.mem_of_getElem? (i := 2) rfl) rfl) (in_t6 (List.mem_of_getElem? (i := 81) rfl) rfl) (in_t6 (List.mem_of_getElem? (i := 83) rfl) rfl) (in_s3 (List.mem_of_getElem? (i := 8) rfl)) (by decide +kernel) (by decide +kernel) (by decide +kernel) (x_dk dn_164_0_ok 11 rfl))))))))
  (e_Tok2
  (e_Tok2
  (e_Tok2
  (e_Lok (e_st (I := eI) (er_aload_n (i := 0) (x_dk dn_164_0_ok 12 rfl)) nx_load))
  (e_Tok2
  (e_Lok (e_st (I := eI) (er_dup (x_dk dn_164_0_ok 13 rfl)) (nx_stk bf_dup)))
  (e_Lok (e_st (I := eI) (er_getf (ci := 8) (k := 11) (ix := 42) (N := 17) (C := RX8) (T := TX8) rfl in_X8 (by decide) (in_t1 (List.mem_of_getElem? (i := 80) rfl) rfl) (x_dk dn_164_0_ok 14 rfl)) nx_getf))))
  (e_Tok2
  (e_Lok (e_st (I := eI) (er_iconst (n := 1) (z := 1) (v := 1) (x_dk dn_164_0_ok 15 rfl) (by decide) (by decide)) (nx_push (Or.inl rfl))))
  (e_Tok2
  (e_Lok (e_st (I := eI) (er_isub (x_dk dn_164_0_ok 16 rfl)) nx_bin))
  (e_Lok (e_st (I := eI) (er_putf (ci := 8) (k := 11) (ix := 42) (N := 17) (fk := 0) (C := RX8) (T := TX8) (ty0 := tyX8) (ty := .int) rfl in_X8 tyX8_ok nmX8 (by decide) (in_t1 (List.mem_of_getElem? (i := 80) rfl) rfl) rfl rfl x_fit_int (x_dk dn_164_0_ok 17 rfl)) nx_putf)))))
  (e_Tok2
  (e_Tok2
  (e_Lok (e_st (I := eI) (er_aload_n (i := 0) (x_dk dn_164_0_ok 18 rfl)) nx_load))
  (e_Tok2
  (e_Lok (e_st (I := eI) (er_getf (ci := 8) (k := 3) (ix := 21) (N := 17) (C := RX8) (T := TX8) rfl in_X8 (by decide) (in_t1 (List.mem_of_getElem? (i := 71) rfl) rfl) (x_dk dn_164_0_ok 19 rfl)) nx_getf))
  (e_Lok (e_st (I := eI) (er_bipush (n := 9) (z := 9) (v := 9) (x_dk dn_164_0_ok 20 rfl) (by decide) (by decide)) (nx_push (Or.inl rfl))))))
  (e_Tok2
  (e_Lok (e_st (I := eI) (er_iconst (n := 0) (z := 0) (v := 0) (x_dk dn_164_0_ok 21 rfl) (by decide) (by decide)) (nx_push (Or.inl rfl))))
  (e_Tok2
  (e_Lok (e_ca (I := eI) (q' := n_21) rfl (xr_callV (q' := n_21) (ix := 198) (n := 2) (in_t6 (List.mem_of_getElem? (i := 47) rfl) rfl) good_w (in_t1 (List.mem_of_getElem? (i := 3) rfl) rfl) (in_t6 (List.mem_of_getElem? (i := 44) rfl) rfl) (in_t6 (List.mem_of_getElem? (i := 45) rfl) rfl) (in_t6 (List.mem_of_getElem? (i := 46) rfl) rfl) (by decide +kernel) (by decide +kernel) (by decide +kernel) (x_dk dn_164_0_ok 22 rfl))))
  (e_Lok (e_st (I := eI) (er_pop (x_dk dn_164_0_ok 23 rfl)) (nx_stk bf_pop))))))))
def te_164_24 : Nat → eE := (e_T 69 (e_T 57 (e_T 50 (e_T 46 (e_L 46 (0, ei_goto 193, 0, 0)) (e_T 49 (e_L 49 (0, ei_load 0 2 50, 0, 0)) (e_L 50 (0, ei_getf eft elay 8 5 53, 0, 0)))) (e_T 53 (e_L 53 (0, ei_push (0, 2) 54, 0, 0)) (e_T 54 (e_L 54 (0, ei_if2 1 68 57, 0, 0)) (e_L 57 (0, ei_load 0 2 58, 0, 0))))) (e_T 62 (e_T 58 (e_L 58 (2, e_nof, 166, 1)) (e_T 61 (e_L 61 (0, ei_load 0 2 62, 0, 0)) (e_L 62 (2, e_nof, 123, 1)))) (e_T 65 (e_L 65 (0, ei_goto 193, 0, 0)) (e_T 68 (e_L 68 (0, ei_load 0 2 69, 0, 0)) (e_L 69 (0, ei_getf eft elay 8 5 72, 0, 0)))))) (e_T 81 (e_T 76 (e_T 72 (e_L 72 (0, ei_push (0, 1) 73, 0, 0)) (e_T 73 (e_L 73 (0, ei_if2 1 96 76, 0, 0)) (e_L 76 (0, ei_load 0 2 77, 0, 0)))) (e_T 77 (e_L 77 (0, ei_getf eft elay 8 3 80, 0, 0)) (e_T 80 (e_L 80 (0, ei_push (0, 2) 81, 0, 0)) (e_L 81 (0, ei_load 0 2 82, 0, 0))))) (e_T 88 (e_T 82 (e_L 82 (2, e_nof, 137, 1)) (e_T 85 (e_L 85 (2, e_nof, 21, 3)) (e_L 88 (0, ei_stk ef_pop 89, 0, 0)))) (e_T 90 (e_T 89 (e_L 89 (0, ei_load 0 2 90, 0, 0)) (e_L 90 (2, e_nof, 123, 1))) (e_T 93 (e_L 93 (0, ei_goto 193, 0, 0)) (e_L 96 (0, ei_load 0 2 97, 0, 0)))))))
set_option maxRecDepth 20000 in
set_option maxHeartbeats 4000000 in
theorem te_164_24_ok : ∀ pc, e_EOq eft cls elay eI n_164 pc (te_164_24 pc) :=
  (e_Tok2
  (e_Tok2
  (e_Tok2
  (e_Tok2
  (e_Lok (e_st (I := eI) (er_goto (off := 147) (tg := 193) (x_dk dn_164_0_ok 24 rfl) (by decide)) nx_goto))
  (e_Tok2
  (e_Lok (e_st (I := eI) (er_aload_n (i := 0) (x_dk dn_164_0_ok 25 rfl)) nx_load))
  (e_Lok (e_st (I := eI) (er_getf (ci := 8) (k := 5) (ix := 57) (N := 17) (C := RX8) (T := TX8) rfl in_X8 (by decide) (in_t1 (List.mem_of_getElem? (i := 74) rfl) rfl) (x_dk dn_164_0_ok 26 rfl)) nx_getf))))
  (e_Tok2
  (e_Lok (e_st (I := eI) (er_iconst (n := 2) (z := 2) (v := 2) (x_dk dn_164_0_ok 27 rfl) (by decide) (by decide)) (nx_push (Or.inl rfl))))
  (e_Tok2
  (e_Lok (e_st (I := eI) (er_icmpne (off := 14) (tg := 68) (x_dk dn_164_0_ok 28 rfl) (by decide)) nx_if2))
  (e_Lok (e_st (I := eI) (er_aload_n (i := 0) (x_dk dn_164_0_ok 29 rfl)) nx_load)))))
  (e_Tok2
  (e_Tok2
  (e_Lok (e_ca (I := eI) (q' := n_166) rfl (xr_callV (q' := n_166) (ix := 275) (n := 0) (in_t6 (List.mem_of_getElem? (i := 88) rfl) rfl) good_w (in_t1 (List.mem_of_getElem? (i := 2) rfl) rfl) (in_t6 (List.mem_of_getElem? (i := 85) rfl) rfl) (in_t6 (List.mem_of_getElem? (i := 87) rfl) rfl) (in_s3 (List.mem_of_getElem? (i := 9) rfl)) (by decide +kernel) (by decide +kernel) (by decide +kernel) (x_dk dn_164_0_ok 30 rfl))))
  (e_Tok2
  (e_Lok (e_st (I := eI) (er_aload_n (i := 0) (x_dk dn_164_0_ok 31 rfl)) nx_load))
  (e_Lok (e_ca (I := eI) (q' := n_123) rfl (xr_callV (q' := n_123) (ix := 54) (n := 0) (in_t5 (List.mem_of_getElem? (i := 80) rfl) rfl) good_w (in_t1 (List.mem_of_getElem? (i := 2) rfl) rfl) (in_t5 (List.mem_of_getElem? (i := 77) rfl) rfl) (in_t5 (List.mem_of_getElem? (i := 79) rfl) rfl) (in_s1 (List.mem_of_getElem? (i := 11) rfl)) (by decide +kernel) (by decide +kernel) (by decide +kernel) (x_dk dn_164_0_ok 32 rfl))))))
  (e_Tok2
  (e_Lok (e_st (I := eI) (er_goto (off := 128) (tg := 193) (x_dk dn_164_0_ok 33 rfl) (by decide)) nx_goto))
  (e_Tok2
  (e_Lok (e_st (I := eI) (er_aload_n (i := 0) (x_dk dn_164_0_ok 34 rfl)) nx_load))
  (e_Lok (e_st (I := eI) (er_getf (ci := 8) (k := 5) (ix := 57) (N := 17) (C := RX8) (T := TX8) rfl in_X8 (by decide) (in_t1 (List.mem_of_getElem? (i := 74) rfl) rfl) (x_dk dn_164_0_ok 35 rfl)) nx_getf))))))
  (e_Tok2
  (e_Tok2
  (e_Tok2
  (e_Lok (e_st (I := eI) (er_iconst (n := 1) (z := 1) (v := 1) (x_dk dn_164_0_ok 36 rfl) (by decide) (by decide)) (nx_push (Or.inl rfl))))
  (e_Tok2
  (e_Lok (e_st (I := eI) (er_icmpne (off := 23) (tg := 96) (x_dk dn_164_0_ok 37 rfl) (by decide)) nx_if2))
  (e_Lok (e_st (I := eI) (er_aload_n (i := 0) (x_dk dn_164_0_ok 38 rfl)) nx_load))))
  (e_Tok2
  (e_Lok (e_st (I := eI) (er_getf (ci := 8) (k := 3) (ix := 21) (N := 17) (C := RX8) (T := TX8) rfl in_X8 (by decide) (in_t1 (List.mem_of_getElem? (i := 71) rfl) rfl) (x_dk dn_164_0_ok 39 rfl)) nx_getf))
  (e_Tok2
  (e_Lok (e_st (I := eI) (er_iconst (n := 2) (z := 2) (v := 2) (x_dk dn_164_0_ok 40 rfl) (by decide) (by decide)) (nx_push (Or.inl rfl))))
  (e_Lok (e_st (I := eI) (er_aload_n (i := 0) (x_dk dn_164_0_ok 41 rfl)) nx_load)))))
  (e_Tok2
  (e_Tok2
  (e_Lok (e_ca (I := eI) (q' := n_137) rfl (xr_callV (q' := n_137) (ix := 248) (n := 0) (in_t6 (List.mem_of_getElem? (i := 55) rfl) rfl) good_w (in_t1 (List.mem_of_getElem? (i := 2) rfl) rfl) (in_t6 (List.mem_of_getElem? (i := 52) rfl) rfl) (in_t6 (List.mem_of_getElem? (i := 54) rfl) rfl) (in_s3 (List.mem_of_getElem? (i := 1) rfl)) (by decide +kernel) (by decide +kernel) (by decide +kernel) (x_dk dn_164_0_ok 42 rfl))))
  (e_Tok2
  (e_Lok (e_ca (I := eI) (q' := n_21) rfl (xr_callV (q' := n_21) (ix := 198) (n := 2) (in_t6 (List.mem_of_getElem? (i := 47) rfl) rfl) good_w (in_t1 (List.mem_of_getElem? (i := 3) rfl) rfl) (in_t6 (List.mem_of_getElem? (i := 44) rfl) rfl) (in_t6 (List.mem_of_getElem? (i := 45) rfl) rfl) (in_t6 (List.mem_of_getElem? (i := 46) rfl) rfl) (by decide +kernel) (by decide +kernel) (by decide +kernel) (x_dk dn_164_0_ok 43 rfl))))
  (e_Lok (e_st (I := eI) (er_pop (x_dk dn_164_0_ok 44 rfl)) (nx_stk bf_pop)))))
  (e_Tok2
  (e_Tok2
  (e_Lok (e_st (I := eI) (er_aload_n (i := 0) (x_dk dn_164_0_ok 45 rfl)) nx_load))
  (e_Lok (e_ca (I := eI) (q' := n_123) rfl (xr_callV (q' := n_123) (ix := 54) (n := 0) (in_t5 (List.mem_of_getElem? (i := 80) rfl) rfl) good_w (in_t1 (List.mem_of_getElem? (i := 2) rfl) rfl) (in_t5 (List.mem_of_getElem? (i := 77) rfl) rfl) (in_t5 (List.mem_of_getElem? (i := 79) rfl) rfl) (in_s1 (List.mem_of_getElem? (i := 11) rfl)) (by decide +kernel) (by decide +kernel) (by decide +kernel) (x_dk dn_164_0_ok 46 rfl)))))
  (e_Tok2
  (e_Lok (e_st (I := eI) (er_goto (off := 100) (tg := 193) (x_dk dn_164_0_ok 47 rfl) (by decide)) nx_goto))
  (e_Lok (e_st (I := eI) (er_aload_n (i := 0) (x_dk dn_164_0_ok 48 rfl)) nx_load)))))))
def te_164_49 : Nat → eE := (e_T 123 (e_T 109 (e_T 102 (e_T 97 (e_L 97 (0, ei_getf eft elay 8 5 100, 0, 0)) (e_T 100 (e_L 100 (0, ei_push (0, 48) 102, 0, 0)) (e_L 102 (0, ei_if2 0 114 105, 0, 0)))) (e_T 105 (e_L 105 (0, ei_load 0 2 106, 0, 0)) (e_T 106 (e_L 106 (0, ei_getf eft elay 8 5 109, 0, 0)) (e_L 109 (0, ei_push (0, 49) 111, 0, 0))))) (e_T 115 (e_T 111 (e_L 111 (0, ei_if2 1 150 114, 0, 0)) (e_T 114 (e_L 114 (0, ei_load 0 2 115, 0, 0)) (e_L 115 (0, ei_getf eft elay 8 5 118, 0, 0)))) (e_T 118 (e_L 118 (0, ei_push (0, 48) 120, 0, 0)) (e_T 120 (e_L 120 (0, ei_if2 1 127 123, 0, 0)) (e_L 123 (0, ei_push (0, 3) 124, 0, 0)))))) (e_T 133 (e_T 128 (e_T 124 (e_L 124 (0, ei_goto 128, 0, 0)) (e_T 127 (e_L 127 (0, ei_push (0, 4) 128, 0, 0)) (e_L 128 (0, ei_stor 1 0 129, 0, 0)))) (e_T 129 (e_L 129 (0, ei_load 0 2 130, 0, 0)) (e_T 130 (e_L 130 (2, e_nof, 123, 1)) (e_L 133 (0, ei_load 0 2 134, 0, 0))))) (e_T 138 (e_T 134 (e_L 134 (2, e_nof, 165, 1)) (e_T 137 (e_L 137 (0, ei_load 0 2 138, 0, 0)) (e_L 138 (0, ei_getf eft elay 8 3 141, 0, 0)))) (e_T 141 (e_L 141 (0, ei_load 1 0 142, 0, 0)) (e_T 142 (e_L 142 (0, ei_push (0, 0) 143, 0, 0)) (e_L 143 (2, e_nof, 21, 3)))))))
set_option maxRecDepth 20000 in
set_option maxHeartbeats 4000000 in
theorem te_164_49_ok : ∀ pc, e_EOq eft cls elay eI n_164 pc (te_164_49 pc) :=
  (e_Tok2
  (e_Tok2
  (e_Tok2
  (e_Tok2
  (e_Lok (e_st (I := eI) (er_getf (ci := 8) (k := 5) (ix := 57) (N := 17) (C := RX8) (T := TX8) rfl in_X8 (by decide) (in_t1 (List.mem_of_getElem? (i := 74) rfl) rfl) (x_dk dn_164_0_ok 49 rfl)) nx_getf))
  (e_Tok2
  (e_Lok (e_st (I := eI) (er_bipush (n := 48) (z := 48) (v := 48) (x_dk dn_164_0_ok 50 rfl) (by decide) (by decide)) (nx_push (Or.inl rfl))))
  (e_Lok (e_st (I := eI) (er_icmpeq (off := 12) (tg := 114) (x_dk dn_164_0_ok 51 rfl) (by decide)) nx_if2))))
  (e_Tok2
  (e_Lok (e_st (I := eI) (er_aload_n (i := 0) (x_dk dn_164_0_ok 52 rfl)) nx_load))
  (e_Tok2
  (e_Lok (e_st (I := eI) (er_getf (ci := 8) (k := 5) (ix := 57) (N := 17) (C := RX8) (T := TX8) rfl in_X8 (by decide) (in_t1 (List.mem_of_getElem? (i := 74) rfl) rfl) (x_dk dn_164_0_ok 53 rfl)) nx_getf))
  (e_Lok (e_st (I := eI) (er_bipush (n := 49) (z := 49) (v := 49) (x_dk dn_164_0_ok 54 rfl) (by decide) (by decide)) (nx_push (Or.inl rfl)))))))
  (e_Tok2
  (e_Tok2
  (e_Lok (e_st (I := eI) (er_icmpne (off := 39) (tg := 150) (x_dk dn_164_0_ok 55 rfl) (by decide)) nx_if2))
  (e_Tok2
  (e_Lok (e_st (I := eI) (er_aload_n (i := 0) (x_dk dn_164_0_ok 56 rfl)) nx_load))
  (e_Lok (e_st (I := eI) (er_getf (ci := 8) (k := 5) (ix := 57) (N := 17) (C := RX8) (T := TX8) rfl in_X8 (by decide) (in_t1 (List.mem_of_getElem? (i := 74) rfl) rfl) (x_dk dn_164_0_ok 57 rfl)) nx_getf))))
  (e_Tok2
  (e_Lok (e_st (I := eI) (er_bipush (n := 48) (z := 48) (v := 48) (x_dk dn_164_0_ok 58 rfl) (by decide) (by decide)) (nx_push (Or.inl rfl))))
  (e_Tok2
  (e_Lok (e_st (I := eI) (er_icmpne (off := 7) (tg := 127) (x_dk dn_164_0_ok 59 rfl) (by decide)) nx_if2))
  (e_Lok (e_st (I := eI) (er_iconst (n := 3) (z := 3) (v := 3) (x_dk dn_164_0_ok 60 rfl) (by decide) (by decide)) (nx_push (Or.inl rfl))))))))
  (e_Tok2
  (e_Tok2
  (e_Tok2
  (e_Lok (e_st (I := eI) (er_goto (off := 4) (tg := 128) (x_dk dn_164_0_ok 61 rfl) (by decide)) nx_goto))
  (e_Tok2
  (e_Lok (e_st (I := eI) (er_iconst (n := 4) (z := 4) (v := 4) (x_dk dn_164_0_ok 62 rfl) (by decide) (by decide)) (nx_push (Or.inl rfl))))
  (e_Lok (e_st (I := eI) (er_istore_n (i := 1) (x_dk dn_164_0_ok 63 rfl) (by decide +kernel)) nx_stor))))
  (e_Tok2
  (e_Lok (e_st (I := eI) (er_aload_n (i := 0) (x_dk dn_164_0_ok 64 rfl)) nx_load))
  (e_Tok2
  (e_Lok (e_ca (I := eI) (q' := n_123) rfl (xr_callV (q' := n_123) (ix := 54) (n := 0) (in_t5 (List.mem_of_getElem? (i := 80) rfl) rfl) good_w (in_t1 (List.mem_of_getElem? (i := 2) rfl) rfl) (in_t5 (List.mem_of_getElem? (i := 77) rfl) rfl) (in_t5 (List.mem_of_getElem? (i := 79) rfl) rfl) (in_s1 (List.mem_of_getElem? (i := 11) rfl)) (by decide +kernel) (by decide +kernel) (by decide +kernel) (x_dk dn_164_0_ok 65 rfl))))
  (e_Lok (e_st (I := eI) (er_aload_n (i := 0) (x_dk dn_164_0_ok 66 rfl)) nx_load)))))
  (e_Tok2
  (e_Tok2
  (e_Lok (e_ca (I := eI) (q' := n_165) rfl (xr_callV (q' := n_165) (ix := 278) (n := 0) (in_t6 (List.mem_of_getElem? (i := 93) rfl) rfl) good_w (in_t1 (List.mem_of_getElem? (i := 2) rfl) rfl) (in_t6 (List.mem_of_getElem? (i := 90) rfl) rfl) (in_t6 (List.mem_of_getElem? (i := 92) rfl) rfl) (in_s3 (List.mem_of_getElem? (i := 10) rfl)) (by decide +kernel) (by decide +kernel) (by decide +kernel) (x_dk dn_164_0_ok 67 rfl))))
  (e_Tok2
  (e_Lok (e_st (I := eI) (er_aload_n (i := 0) (x_dk dn_164_0_ok 68 rfl)) nx_load))
  (e_Lok (e_st (I := eI) (er_getf (ci := 8) (k := 3) (ix := 21) (N := 17) (C := RX8) (T := TX8) rfl in_X8 (by decide) (in_t1 (List.mem_of_getElem? (i := 71) rfl) rfl) (x_dk dn_164_0_ok 69 rfl)) nx_getf))))
  (e_Tok2
  (e_Lok (e_st (I := eI) (er_iload_n (i := 1) (x_dk dn_164_0_ok 70 rfl)) nx_load))
  (e_Tok2
  (e_Lok (e_st (I := eI) (er_iconst (n := 0) (z := 0) (v := 0) (x_dk dn_164_0_ok 71 rfl) (by decide) (by decide)) (nx_push (Or.inl rfl))))
  (e_Lok (e_ca (I := eI) (q' := n_21) rfl (xr_callV (q' := n_21) (ix := 198) (n := 2) (in_t6 (List.mem_of_getElem? (i := 47) rfl) rfl) good_w (in_t1 (List.mem_of_getElem? (i := 3) rfl) rfl) (in_t6 (List.mem_of_getElem? (i := 44) rfl) rfl) (in_t6 (List.mem_of_getElem? (i := 45) rfl) rfl) (in_t6 (List.mem_of_getElem? (i := 46) rfl) rfl) (by decide +kernel) (by decide +kernel) (by decide +kernel) (x_dk dn_164_0_ok 72 rfl)))))))))
def te_164_73 : Nat → eE := (e_T 169 (e_T 156 (e_T 150 (e_T 146 (e_L 146 (0, ei_stk ef_pop 147, 0, 0)) (e_T 147 (e_L 147 (0, ei_goto 193, 0, 0)) (e_L 150 (0, ei_load 0 2 151, 0, 0)))) (e_T 151 (e_L 151 (0, ei_getf eft elay 8 5 154, 0, 0)) (e_T 154 (e_L 154 (0, ei_push (0, 50) 156, 0, 0)) (e_L 156 (0, ei_push (0, 53) 158, 0, 0))))) (e_T 164 (e_T 158 (e_L 158 (2, e_nof, 242, 3)) (e_T 161 (e_L 161 (0, ei_if1 0 189 164, 0, 0)) (e_L 164 (0, ei_load 0 2 165, 0, 0)))) (e_T 165 (e_L 165 (0, ei_getf eft elay 8 3 168, 0, 0)) (e_T 168 (e_L 168 (0, ei_push (0, 5) 169, 0, 0)) (e_L 169 (0, ei_load 0 2 170, 0, 0)))))) (e_T 178 (e_T 174 (e_T 170 (e_L 170 (0, ei_getf eft elay 8 5 173, 0, 0)) (e_T 173 (e_L 173 (0, ei_bin eF_add 174, 0, 0)) (e_L 174 (0, ei_push (0, 50) 176, 0, 0)))) (e_T 176 (e_L 176 (0, ei_bin eF_sub 177, 0, 0)) (e_T 177 (e_L 177 (0, ei_push (0, 0) 178, 0, 0)) (e_L 178 (2, e_nof, 21, 3))))) (e_T 183 (e_T 181 (e_L 181 (0, ei_stk ef_pop 182, 0, 0)) (e_T 182 (e_L 182 (0, ei_load 0 2 183, 0, 0)) (e_L 183 (2, e_nof, 123, 1)))) (e_T 189 (e_T 186 (e_L 186 (0, ei_goto 193, 0, 0)) (e_L 189 (0, ei_load 0 2 190, 0, 0))) (e_T 190 (e_L 190 (2, e_nof, 165, 1)) (e_L 193 (1, e_nof, 0, 0)))))))
set_option maxRecDepth 20000 in
set_option maxHeartbeats 4000000 in
theorem te_164_73_ok : ∀ pc, e_EOq eft cls elay eI n_164 pc (te_164_73 pc) :=
  (e_Tok2
  (e_Tok2
  (e_Tok2
  (e_Tok2
  (e_Lok (e_st (I := eI) (er_pop (x_dk dn_164_0_ok 73 rfl)) (nx_stk bf_pop)))
  (e_Tok2
  (e_Lok (e_st (I := eI) (er_goto (off := 46) (tg := 193) (x_dk dn_164_0_ok 74 rfl) (by decide)) nx_goto))
  (e_Lok (e_st (I := eI) (er_aload_n (i := 0) (x_dk dn_164_0_ok 75 rfl)) nx_load))))
  (e_Tok2
  (e_Lok (e_st (I := eI) (er_getf (ci := 8) (k := 5) (ix := 57) (N := 17) (C := RX8) (T := TX8) rfl in_X8 (by decide) (in_t1 (List.mem_of_getElem? (i := 74) rfl) rfl) (x_dk dn_164_0_ok 76 rfl)) nx_getf))
  (e_Tok2
  (e_Lok (e_st (I := eI) (er_bipush (n := 50) (z := 50) (v := 50) (x_dk dn_164_0_ok 77 rfl) (by decide) (by decide)) (nx_push (Or.inl rfl))))
  (e_Lok (e_st (I := eI) (er_bipush (n := 53) (z := 53) (v := 53) (x_dk dn_164_0_ok 78 rfl) (by decide) (by decide)) (nx_push (Or.inl rfl)))))))
  (e_Tok2
  (e_Tok2
  (e_Lok (e_ca (I := eI) (q' := n_242) rfl (xr_callSN (q' := n_242) (ix := 201) (n := 3) (host := "RobotCellHouse") (in_t4 (List.mem_of_getElem? (i := 168) rfl) rfl) good_w (in_t1 (List.mem_of_getElem? (i := 1) rfl) rfl) (List.mem_of_getElem? (i := 11) rfl) (in_t4 (List.mem_of_getElem? (i := 167) rfl) rfl) (by decide +kernel) (by decide +kernel) (x_dk dn_164_0_ok 79 rfl))))
  (e_Tok2
  (e_Lok (e_st (I := eI) (er_ifeq (off := 28) (tg := 189) (x_dk dn_164_0_ok 80 rfl) (by decide)) nx_if1))
  (e_Lok (e_st (I := eI) (er_aload_n (i := 0) (x_dk dn_164_0_ok 81 rfl)) nx_load))))
  (e_Tok2
  (e_Lok (e_st (I := eI) (er_getf (ci := 8) (k := 3) (ix := 21) (N := 17) (C := RX8) (T := TX8) rfl in_X8 (by decide) (in_t1 (List.mem_of_getElem? (i := 71) rfl) rfl) (x_dk dn_164_0_ok 82 rfl)) nx_getf))
  (e_Tok2
  (e_Lok (e_st (I := eI) (er_iconst (n := 5) (z := 5) (v := 5) (x_dk dn_164_0_ok 83 rfl) (by decide) (by decide)) (nx_push (Or.inl rfl))))
  (e_Lok (e_st (I := eI) (er_aload_n (i := 0) (x_dk dn_164_0_ok 84 rfl)) nx_load))))))
  (e_Tok2
  (e_Tok2
  (e_Tok2
  (e_Lok (e_st (I := eI) (er_getf (ci := 8) (k := 5) (ix := 57) (N := 17) (C := RX8) (T := TX8) rfl in_X8 (by decide) (in_t1 (List.mem_of_getElem? (i := 74) rfl) rfl) (x_dk dn_164_0_ok 85 rfl)) nx_getf))
  (e_Tok2
  (e_Lok (e_st (I := eI) (er_iadd (x_dk dn_164_0_ok 86 rfl)) nx_bin))
  (e_Lok (e_st (I := eI) (er_bipush (n := 50) (z := 50) (v := 50) (x_dk dn_164_0_ok 87 rfl) (by decide) (by decide)) (nx_push (Or.inl rfl))))))
  (e_Tok2
  (e_Lok (e_st (I := eI) (er_isub (x_dk dn_164_0_ok 88 rfl)) nx_bin))
  (e_Tok2
  (e_Lok (e_st (I := eI) (er_iconst (n := 0) (z := 0) (v := 0) (x_dk dn_164_0_ok 89 rfl) (by decide) (by decide)) (nx_push (Or.inl rfl))))
  (e_Lok (e_ca (I := eI) (q' := n_21) rfl (xr_callV (q' := n_21) (ix := 198) (n := 2) (in_t6 (List.mem_of_getElem? (i := 47) rfl) rfl) good_w (in_t1 (List.mem_of_getElem? (i := 3) rfl) rfl) (in_t6 (List.mem_of_getElem? (i := 44) rfl) rfl) (in_t6 (List.mem_of_getElem? (i := 45) rfl) rfl) (in_t6 (List.mem_of_getElem? (i := 46) rfl) rfl) (by decide +kernel) (by decide +kernel) (by decide +kernel) (x_dk dn_164_0_ok 90 rfl)))))))
  (e_Tok2
  (e_Tok2
  (e_Lok (e_st (I := eI) (er_pop (x_dk dn_164_0_ok 91 rfl)) (nx_stk bf_pop)))
  (e_Tok2
  (e_Lok (e_st (I := eI) (er_aload_n (i := 0) (x_dk dn_164_0_ok 92 rfl)) nx_load))
  (e_Lok (e_ca (I := eI) (q' := n_123) rfl (xr_callV (q' := n_123) (ix := 54) (n := 0) (in_t5 (List.mem_of_getElem? (i := 80) rfl) rfl) good_w (in_t1 (List.mem_of_getElem? (i := 2) rfl) rfl) (in_t5 (List.mem_of_getElem? (i := 77) rfl) rfl) (in_t5 (List.mem_of_getElem? (i := 79) rfl) rfl) (in_s1 (List.mem_of_getElem? (i := 11) rfl)) (by decide +kernel) (by decide +kernel) (by decide +kernel) (x_dk dn_164_0_ok 93 rfl))))))
  (e_Tok2
  (e_Tok2
  (e_Lok (e_st (I := eI) (er_goto (off := 7) (tg := 193) (x_dk dn_164_0_ok 94 rfl) (by decide)) nx_goto))
  (e_Lok (e_st (I := eI) (er_aload_n (i := 0) (x_dk dn_164_0_ok 95 rfl)) nx_load)))
  (e_Tok2
  (e_Lok (e_ca (I := eI) (q' := n_165) rfl (xr_callV (q' := n_165) (ix := 278) (n := 0) (in_t6 (List.mem_of_getElem? (i := 93) rfl) rfl) good_w (in_t1 (List.mem_of_getElem? (i := 2) rfl) rfl) (in_t6 (List.mem_of_getElem? (i := 90) rfl) rfl) (in_t6 (List.mem_of_getElem? (i := 92) rfl) rfl) (in_s3 (List.mem_of_getElem? (i := 10) rfl)) (by decide +kernel) (by decide +kernel) (by decide +kernel) (x_dk dn_164_0_ok 96 rfl))))
  (e_Lok (e_rt (I := eI) (k := 0) ⟨(x_dk dn_164_0_ok 97 rfl), rfl⟩)))))))
def te_164 : Nat → eE := (e_T 96 (e_T 45 te_164_0 te_164_24) (e_T 143 te_164_49 te_164_73))
theorem te_164_ok : ∀ pc, e_EOq eft cls elay eI n_164 pc (te_164 pc) := (e_Tok2 ((e_Tok2 (te_164_0_ok) (te_164_24_ok))) ((e_Tok2 (te_164_49_ok) (te_164_73_ok))))
def dn_165_0 : List (Nat × Instr × Nat) := [(0, .aload_n 0, 1), (1, .getfield 57, 3), (4, .bipush 16, 2), (6, .if_icmp .eq 8, 3), (9, .aload_n 0, 1), (10, .invokevirtual 66, 3), (13, .return_, 1), (14, .aload_n 0, 1), (15, .invokevirtual 251, 3), (18, .ifCond .ne 4, 3), (21, .return_, 1), (22, .aload_n 0, 1), (23, .invokevirtual 54, 3), (26, .aload_n 0, 1), (27, .invokevirtual 245, 3), (30, .aload_n 0, 1), (31, .bipush 17, 2), (33, .invokevirtual 180, 3), (36, .aload_n 0, 1), (37, .dup, 1), (38, .getfield 42, 3), (41, .iconst 1, 1), (42, .isub, 1), (43, .putfield 42, 3), (46, .return_, 1)]
set_option maxRecDepth 20000 in
theorem dn_165_0_ok : dn_165_0.all (fun q => decide (decode prog_10_method_49_code q.1 = .ok (q.2.1, q.2.2))) = true := by decide +kernel
def te_165_0 : Nat → eE := (e_T 22 (e_T 10 (e_T 4 (e_T 0 (e_L 0 (0, ei_load 0 2 1, 0, 0)) (e_T 1 (e_L 1 (0, ei_getf eft elay 8 5 4, 0, 0)) (e_L 4 (0, ei_push (0, 16) 6, 0, 0)))) (e_T 6 (e_L 6 (0, ei_if2 0 14 9, 0, 0)) (e_T 9 (e_L 9 (0, ei_load 0 2 10, 0, 0)) (e_L 10 (2, e_nof, 130, 1))))) (e_T 15 (e_T 13 (e_L 13 (1, e_nof, 0, 0)) (e_T 14 (e_L 14 (0, ei_load 0 2 15, 0, 0)) (e_L 15 (2, e_nof, 132, 1)))) (e_T 18 (e_L 18 (0, ei_if1 1 22 21, 0, 0)) (e_T 21 (e_L 21 (1, e_nof, 0, 0)) (e_L 22 (0, ei_load 0 2 23, 0, 0)))))) (e_T 33 (e_T 27 (e_T 23 (e_L 23 (2, e_nof, 123, 1)) (e_T 26 (e_L 26 (0, ei_load 0 2 27, 0, 0)) (e_L 27 (2, e_nof, 158, 1)))) (e_T 30 (e_L 30 (0, ei_load 0 2 31, 0, 0)) (e_T 31 (e_L 31 (0, ei_push (0, 17) 33, 0, 0)) (e_L 33 (2, e_nof, 129, 2))))) (e_T 38 (e_T 36 (e_L 36 (0, ei_load 0 2 37, 0, 0)) (e_T 37 (e_L 37 (0, ei_stk ef_dup 38, 0, 0)) (e_L 38 (0, ei_getf eft elay 8 11 41, 0, 0)))) (e_T 42 (e_T 41 (e_L 41 (0, ei_push (0, 1) 42, 0, 0)) (e_L 42 (0, ei_bin eF_sub 43, 0, 0))) (e_T 43 (e_L 43 (0, ei_putf eft elay 8 11 0 46, 0, 0)) (e_L 46 (1, e_nof, 0, 0)))))))
set_option maxRecDepth 20000 in
set_option maxHeartbeats 4000000 in
theorem te_165_0_ok : ∀ pc, e_EOq eft cls elay eI n_165 pc (te_165_0 pc) :=
  (e_Tok2
  (e_Tok2
  (e_Tok2
  (e_Tok2
  (e_Lok (e_st (I := eI) (er_aload_n (i := 0) (x_dk dn_165_0_ok 0 rfl)) nx_load))
  (e_Tok2
  (e_Lok (e_st (I := eI) (er_getf (ci := 8) (k := 5) (ix := 57) (N := 17) (C := RX8) (T := TX8) rfl in_X8 (by decide) (in_t1 (List.mem_of_getElem? (i := 74) rfl) rfl) (x_dk dn_165_0_ok 1 rfl)) nx_getf))
  (e_Lok (e_st (I := eI) (er_bipush (n := 16) (z := 16) (v := 16) (x_dk dn_165_0_ok 2 rfl) (by decide) (by decide)) (nx_push (Or.inl rfl))))))
  (e_Tok2
  (e_Lok (e_st (I := eI) (er_icmpeq (off := 8) (tg := 14) (x_dk dn_165_0_ok 3 rfl) (by decide)) nx_if2))
  (e_Tok2
  (e_Lok (e_st (I := eI) (er_aload_n (i := 0) (x_dk dn_165_0_ok 4 rfl)) nx_load))
  (e_Lok (e_ca (I := eI) (q' := n_130) rfl (xr_callV (q' := n_130) (ix := 66) (n := 0) (in_t6 (List.mem_of_getElem? (i := 22) rfl) rfl) good_w (in_t1 (List.mem_of_getElem? (i := 2) rfl) rfl) (in_t6 (List.mem_of_getElem? (i := 19) rfl) rfl) (in_t6 (List.mem_of_getElem? (i := 21) rfl) rfl) (in_s2 (List.mem_of_getElem? (i := 10) rfl)) (by decide +kernel) (by decide +kernel) (by decide +kernel) (x_dk dn_165_0_ok 5 rfl)))))))
  (e_Tok2
  (e_Tok2
  (e_Lok (e_rt (I := eI) (k := 0) ⟨(x_dk dn_165_0_ok 6 rfl), rfl⟩))
  (e_Tok2
  (e_Lok (e_st (I := eI) (er_aload_n (i := 0) (x_dk dn_165_0_ok 7 rfl)) nx_load))
  (e_Lok (e_ca (I := eI) (q' := n_132) rfl (xr_callV (q' := n_132) (ix := 251) (n := 0) (in_t6 (List.mem_of_getElem? (i := 72) rfl) rfl) good_w (in_t1 (List.mem_of_getElem? (i := 2) rfl) rfl) (in_t6 (List.mem_of_getElem? (i := 69) rfl) rfl) (in_t6 (List.mem_of_getElem? (i := 71) rfl) rfl) (in_s3 (List.mem_of_getElem? (i := 5) rfl)) (by decide +kernel) (by decide +kernel) (by decide +kernel) (x_dk dn_165_0_ok 8 rfl))))))
  (e_Tok2
  (e_Lok (e_st (I := eI) (er_ifne (off := 4) (tg := 22) (x_dk dn_165_0_ok 9 rfl) (by decide)) nx_if1))
  (e_Tok2
  (e_Lok (e_rt (I := eI) (k := 0) ⟨(x_dk dn_165_0_ok 10 rfl), rfl⟩))
  (e_Lok (e_st (I := eI) (er_aload_n (i := 0) (x_dk dn_165_0_ok 11 rfl)) nx_load))))))
  (e_Tok2
  (e_Tok2
  (e_Tok2
  (e_Lok (e_ca (I := eI) (q' := n_123) rfl (xr_callV (q' := n_123) (ix := 54) (n := 0) (in_t5 (List.mem_of_getElem? (i := 80) rfl) rfl) good_w (in_t1 (List.mem_of_getElem? (i := 2) rfl) rfl) (in_t5 (List.mem_of_getElem? (i := 77) rfl) rfl) (in_t5 (List.mem_of_getElem? (i := 79) rfl) rfl) (in_s1 (List.mem_of_getElem? (i := 11) rfl)) (by decide +kernel) (by decide +kernel) (by decide +kernel) (x_dk dn_165_0_ok 12 rfl))))
  (e_Tok2
  (e_Lok (e_st (I := eI) (er_aload_n (i := 0) (x_dk dn_165_0_ok 13 rfl)) nx_load))
  (e_Lok (e_ca (I := eI) (q' := n_158) rfl (xr_callV (q' := n_158) (ix := 245) (n := 0) (in_t6 (List.mem_of_getElem? (i := 60) rfl) rfl) good_w (in_t1 (List.mem_of_getElem? (i := 2) rfl) rfl) (in_t6 (List.mem_of_getElem? (i := 57) rfl) rfl) (in_t6 (List.mem_of_getElem? (i := 59) rfl) rfl) (in_s3 (List.mem_of_getElem? (i := 2) rfl)) (by decide +kernel) (by decide +kernel) (by decide +kernel) (x_dk dn_165_0_ok 14 rfl))))))
  (e_Tok2
  (e_Lok (e_st (I := eI) (er_aload_n (i := 0) (x_dk dn_165_0_ok 15 rfl)) nx_load))
  (e_Tok2
  (e_Lok (e_st (I := eI) (er_bipush (n := 17) (z := 17) (v := 17) (x_dk dn_165_0_ok 16 rfl) (by decide) (by decide)) (nx_push (Or.inl rfl))))
  (e_Lok (e_ca (I := eI) (q' := n_129) rfl (xr_callV (q' := n_129) (ix := 180) (n := 1) (in_t6 (List.mem_of_getElem? (i := 18) rfl) rfl) good_w (in_t1 (List.mem_of_getElem? (i := 2) rfl) rfl) (in_t6 (List.mem_of_getElem? (i := 15) rfl) rfl) (in_t6 (List.mem_of_getElem? (i := 17) rfl) rfl) (in_s2 (List.mem_of_getElem? (i := 9) rfl)) (by decide +kernel) (by decide +kernel) (by decide +kernel) (x_dk dn_165_0_ok 17 rfl)))))))
  (e_Tok2
  (e_Tok2
  (e_Lok (e_st (I := eI) (er_aload_n (i := 0) (x_dk dn_165_0_ok 18 rfl)) nx_load))
  (e_Tok2
  (e_Lok (e_st (I := eI) (er_dup (x_dk dn_165_0_ok 19 rfl)) (nx_stk bf_dup)))
  (e_Lok (e_st (I := eI) (er_getf (ci := 8) (k := 11) (ix := 42) (N := 17) (C := RX8) (T := TX8) rfl in_X8 (by decide) (in_t1 (List.mem_of_getElem? (i := 80) rfl) rfl) (x_dk dn_165_0_ok 20 rfl)) nx_getf))))
  (e_Tok2
  (e_Tok2
  (e_Lok (e_st (I := eI) (er_iconst (n := 1) (z := 1) (v := 1) (x_dk dn_165_0_ok 21 rfl) (by decide) (by decide)) (nx_push (Or.inl rfl))))
  (e_Lok (e_st (I := eI) (er_isub (x_dk dn_165_0_ok 22 rfl)) nx_bin)))
  (e_Tok2
  (e_Lok (e_st (I := eI) (er_putf (ci := 8) (k := 11) (ix := 42) (N := 17) (fk := 0) (C := RX8) (T := TX8) (ty0 := tyX8) (ty := .int) rfl in_X8 tyX8_ok nmX8 (by decide) (in_t1 (List.mem_of_getElem? (i := 80) rfl) rfl) rfl rfl x_fit_int (x_dk dn_165_0_ok 23 rfl)) nx_putf))
  (e_Lok (e_rt (I := eI) (k := 0) ⟨(x_dk dn_165_0_ok 24 rfl), rfl⟩)))))))
def te_165 : Nat → eE := te_165_0
theorem te_165_ok : ∀ pc, e_EOq eft cls elay eI n_165 pc (te_165 pc) := te_165_0_ok
def dn_166_0 : List (Nat × Instr × Nat) := [(0, .aload_n 0, 1), (1, .getfield 132, 3), (4, .bipush 16, 2), (6, .ishr, 1), (7, .istore_n 1, 1), (8, .iload_n 1, 1), (9, .ifCond .ne 19, 3), (12, .aload_n 0, 1), (13, .getfield 21, 3), (16, .iconst 0, 1), (17, .aload_n 0, 1), (18, .getfield 132, 3), (21, .invokevirtual 198, 3), (24, .pop, 1), (25, .goto 30, 3), (28, .aload_n 0, 1), (29, .getfield 21, 3), (32, .iconst 0, 1), (33, .iload_n 1, 1), (34, .invokevirtual 198, 3), (37, .pop, 1), (38, .aload_n 0, 1), (39, .getfield 21, 3), (42, .iconst 1, 1), (43, .aload_n 0, 1), (44, .getfield 132, 3), (47, .ldc_w 281, 3), (50, .iand, 1), (51, .invokevirtual 198, 3), (54, .pop, 1), (55, .return_, 1)]
set_option maxRecDepth 20000 in
theorem dn_166_0_ok : dn_166_0.all (fun q => decide (decode prog_10_method_50_code q.1 = .ok (q.2.1, q.2.2))) = true := by decide +kernel
def te_166_0 : Nat → eE := (e_T 25 (e_T 9 (e_T 4 (e_T 0 (e_L 0 (0, ei_load 0 2 1, 0, 0)) (e_T 1 (e_L 1 (0, ei_getf eft elay 8 8 4, 0, 0)) (e_L 4 (0, ei_push (0, 16) 6, 0, 0)))) (e_T 7 (e_T 6 (e_L 6 (0, ei_bin (eB (fun x y => x >>> (y &&& 31))) 7, 0, 0)) (e_L 7 (0, ei_stor 1 0 8, 0, 0))) (e_T 8 (e_L 8 (0, ei_load 1 0 9, 0, 0)) (e_L 9 (0, ei_if1 1 28 12, 0, 0))))) (e_T 17 (e_T 13 (e_T 12 (e_L 12 (0, ei_load 0 2 13, 0, 0)) (e_L 13 (0, ei_getf eft elay 8 3 16, 0, 0))) (e_T 16 (e_L 16 (0, ei_push (0, 0) 17, 0, 0)) (e_L 17 (0, ei_load 0 2 18, 0, 0)))) (e_T 21 (e_T 18 (e_L 18 (0, ei_getf eft elay 8 8 21, 0, 0)) (e_L 21 (2, e_nof, 21, 3))) (e_T 24 (e_L 24 (0, ei_stk ef_pop 25, 0, 0)) (e_L 25 (0, ei_goto 55, 0, 0)))))) (e_T 39 (e_T 33 (e_T 29 (e_T 28 (e_L 28 (0, ei_load 0 2 29, 0, 0)) (e_L 29 (0, ei_getf eft elay 8 3 32, 0, 0))) (e_T 32 (e_L 32 (0, ei_push (0, 0) 33, 0, 0)) (e_L 33 (0, ei_load 1 0 34, 0, 0)))) (e_T 37 (e_T 34 (e_L 34 (2, e_nof, 21, 3)) (e_L 37 (0, ei_stk ef_pop 38, 0, 0))) (e_T 38 (e_L 38 (0, ei_load 0 2 39, 0, 0)) (e_L 39 (0, ei_getf eft elay 8 3 42, 0, 0))))) (e_T 47 (e_T 43 (e_T 42 (e_L 42 (0, ei_push (0, 1) 43, 0, 0)) (e_L 43 (0, ei_load 0 2 44, 0, 0))) (e_T 44 (e_L 44 (0, ei_getf eft elay 8 8 47, 0, 0)) (e_L 47 (0, ei_push (0, 65535) 50, 0, 0)))) (e_T 51 (e_T 50 (e_L 50 (0, ei_bin (eB (fun x y => x &&& y)) 51, 0, 0)) (e_L 51 (2, e_nof, 21, 3))) (e_T 54 (e_L 54 (0, ei_stk ef_pop 55, 0, 0)) (e_L 55 (1, e_nof, 0, 0)))))))
set_option maxRecDepth 20000 in
set_option maxHeartbeats 4000000 in
theorem te_166_0_ok : ∀ pc, e_EOq eft cls elay eI n_166 pc (te_166_0 pc) :=
  (e_Tok2
  (e_Tok2
  (e_Tok2
  (e_Tok2
  (e_Lok (e_st (I := eI) (er_aload_n (i := 0) (x_dk dn_166_0_ok 0 rfl)) nx_load))
  (e_Tok2
  (e_Lok (e_st (I := eI) (er_getf (ci := 8) (k := 8) (ix := 132) (N := 17) (C := RX8) (T := TX8) rfl in_X8 (by decide) (in_t1 (List.mem_of_getElem? (i := 77) rfl) rfl) (x_dk dn_166_0_ok 1 rfl)) nx_getf))
  (e_Lok (e_st (I := eI) (er_bipush (n := 16) (z := 16) (v := 16) (x_dk dn_166_0_ok 2 rfl) (by decide) (by decide)) (nx_push (Or.inl rfl))))))
  (e_Tok2
  (e_Tok2
  (e_Lok (e_st (I := eI) (er_ishr (x_dk dn_166_0_ok 3 rfl)) nx_bin))
  (e_Lok (e_st (I := eI) (er_istore_n (i := 1) (x_dk dn_166_0_ok 4 rfl) (by decide +kernel)) nx_stor)))
  (e_Tok2
  (e_Lok (e_st (I := eI) (er_iload_n (i := 1) (x_dk dn_166_0_ok 5 rfl)) nx_load))
  (e_Lok (e_st (I := eI) (er_ifne (off := 19) (tg := 28) (x_dk dn_166_0_ok 6 rfl) (by decide)) nx_if1)))))
  (e_Tok2
  (e_Tok2
  (e_Tok2
  (e_Lok (e_st (I := eI) (er_aload_n (i := 0) (x_dk dn_166_0_ok 7 rfl)) nx_load))
  (e_Lok (e_st (I := eI) (er_getf (ci := 8) (k := 3) (ix := 21) (N := 17) (C := RX8) (T := TX8) rfl in_X8 (by decide) (in_t1 (List.mem_of_getElem? (i := 71) rfl) rfl) (x_dk dn_166_0_ok 8 rfl)) nx_getf)))
  (e_Tok2
  (e_Lok (e_st (I := eI) (er_iconst (n := 0) (z := 0) (v := 0) (x_dk dn_166_0_ok 9 rfl) (by decide) (by decide)) (nx_push (Or.inl rfl))))
  (e_Lok (e_st (I := eI) (er_aload_n (i := 0) (x_dk dn_166_0_ok 10 rfl)) nx_load))))
  (e_Tok2
  (e_Tok2
  (e_Lok (e_st (I := eI) (er_getf (ci := 8) (k := 8) (ix := 132) (N := 17) (C := RX8) (T := TX8) rfl in_X8 (by decide) (in_t1 (List.mem_of_getElem? (i := 77) rfl) rfl) (x_dk dn_166_0_ok 11 rfl)) nx_getf))
  (e_Lok (e_ca (I := eI) (q' := n_21) rfl (xr_callV (q' := n_21) (ix := 198) (n := 2) (in_t6 (List.mem_of_getElem? (i := 47) rfl) rfl) good_w (in_t1 (List.mem_of_getElem? (i := 3) rfl) rfl) (in_t6 (List.mem_of_getElem? (i := 44) rfl) rfl) (in_t6 (List.mem_of_getElem? (i := 45) rfl) rfl) (in_t6 (List.mem_of_getElem? (i := 46) rfl) rfl) (by decide +kernel) (by decide +kernel) (by decide +kernel) (x_dk dn_166_0_ok 12 rfl)))))
  (e_Tok2
  (e_Lok (e_st (I := eI) (er_pop (x_dk dn_166_0_ok 13 rfl)) (nx_stk bf_pop)))
  (e_Lok (e_st (I := eI) (er_goto (off := 30) (tg := 55) (x_dk dn_166_0_ok 14 rfl) (by decide)) nx_goto))))))
  (e_Tok2
  (e_Tok2
  (e_Tok2
  (e_Tok2
  (e_Lok (e_st (I := eI) (er_aload_n (i := 0) (x_dk dn_166_0_ok 15 rfl)) nx_load))
  (e_Lok (e_st (I := eI) (er_getf (ci := 8) (k := 3) (ix := 21) (N := 17) (C := RX8) (T := TX8) rfl in_X8 (by decide) (in_t1 (List.mem_of_getElem? (i := 71) rfl) rfl) (x_dk dn_166_0_ok 16 rfl)) nx_getf)))
  (e_Tok2
  (e_Lok (e_st (I := eI) (er_iconst (n := 0) (z := 0) (v := 0) (x_dk dn_166_0_ok 17 rfl) (by decide) (by decide)) (nx_push (Or.inl rfl))))
  (e_Lok (e_st (I := eI) (er_iload_n (i := 1) (x_dk dn_166_0_ok 18 rfl)) nx_load))))
  (e_Tok2
  (e_Tok2
  (e_Lok (e_ca (I := eI) (q' := n_21) rfl (xr_callV (q' := n_21) (ix := 198) (n := 2) (in_t6 (List.mem_of_getElem? (i := 47) rfl) rfl) good_w (in_t1 (List.mem_of_getElem? (i := 3) rfl) rfl) (in_t6 (List.mem_of_getElem? (i := 44) rfl) rfl) (in_t6 (List.mem_of_getElem? (i := 45) rfl) rfl) (in_t6 (List.mem_of_getElem? (i := 46) rfl) rfl) (by decide +kernel) (by decide +kernel) (by decide +kernel) (x_dk dn_166_0_ok 19 rfl))))
  (e_Lok (e_st (I := eI) (er_pop (x_dk dn_166_0_ok 20 rfl)) (nx_stk bf_pop))))
  (e_Tok2
  (e_Lok (e_st (I := eI) (er_aload_n (i := 0) (x_dk dn_166_0_ok 21 rfl)) nx_load))
  (e_Lok (e_st (I := eI) (er_getf (ci := 8) (k := 3) (ix := 21) (N := 17) (C := RX8) (T := TX8) rfl in_X8 (by decide) (in_t1 (List.mem_of_getElem? (i := 71) rfl) rfl) (x_dk dn_166_0_ok 22 rfl)) nx_getf)))))
  (e_Tok2
  (e_Tok2
  (e_Tok2
  (e_Lok (e_st (I := eI) (er_iconst (n := 1) (z := 1) (v := 1) (x_dk dn_166_0_ok 23 rfl) (by decide) (by decide)) (nx_push (Or.inl rfl))))
  (e_Lok (e_st (I := eI) (er_aload_n (i := 0) (x_dk dn_166_0_ok 24 rfl)) nx_load)))
  (e_Tok2
  (e_Lok (e_st (I := eI) (er_getf (ci := 8) (k := 8) (ix := 132) (N := 17) (C := RX8) (T := TX8) rfl in_X8 (by decide) (in_t1 (List.mem_of_getElem? (i := 77) rfl) rfl) (x_dk dn_166_0_ok 25 rfl)) nx_getf))
  (e_Lok (e_st (I := eI) (er_ldcw (ix := 281) (z := 65535) (v := 65535) (x_dk dn_166_0_ok 26 rfl) (in_t6 (List.mem_of_getElem? (i := 89) rfl) rfl) (by decide)) (nx_push (Or.inl rfl))))))
  (e_Tok2
  (e_Tok2
  (e_Lok (e_st (I := eI) (er_iand (x_dk dn_166_0_ok 27 rfl)) nx_bin))
  (e_Lok (e_ca (I := eI) (q' := n_21) rfl (xr_callV (q' := n_21) (ix := 198) (n := 2) (in_t6 (List.mem_of_getElem? (i := 47) rfl) rfl) good_w (in_t1 (List.mem_of_getElem? (i := 3) rfl) rfl) (in_t6 (List.mem_of_getElem? (i := 44) rfl) rfl) (in_t6 (List.mem_of_getElem? (i := 45) rfl) rfl) (in_t6 (List.mem_of_getElem? (i := 46) rfl) rfl) (by decide +kernel) (by decide +kernel) (by decide +kernel) (x_dk dn_166_0_ok 28 rfl)))))
  (e_Tok2
  (e_Lok (e_st (I := eI) (er_pop (x_dk dn_166_0_ok 29 rfl)) (nx_stk bf_pop)))
  (e_Lok (e_rt (I := eI) (k := 0) ⟨(x_dk dn_166_0_ok 30 rfl), rfl⟩)))))))
def te_166 : Nat → eE := te_166_0
theorem te_166_ok : ∀ pc, e_EOq eft cls elay eI n_166 pc (te_166 pc) := te_166_0_ok
def dn_167_0 : List (Nat × Instr × Nat) := [(0, .aload_n 0, 1), (1, .getfield 45, 3), (4, .bipush 16, 2), (6, .if_icmp .lt 6, 3), (9, .bipush (-3), 2), (11, .ireturn, 1), (12, .aload_n 0, 1), (13, .getfield 9, 3), (16, .aload_n 0, 1), (17, .getfield 45, 3), (20, .iload_n 1, 1), (21, .iastore, 1), (22, .aload_n 0, 1), (23, .getfield 15, 3), (26, .aload_n 0, 1), (27, .getfield 45, 3), (30, .iload_n 2, 1), (31, .iastore, 1), (32, .aload_n 0, 1), (33, .getfield 18, 3), (36, .aload_n 0, 1), (37, .getfield 45, 3), (40, .iload_n 3, 1), (41, .iastore, 1), (42, .aload_n 0, 1), (43, .getfield 21, 3), (46, .aload_n 0, 1), (47, .getfield 45, 3), (50, .iload 4, 2), (52, .iastore, 1), (53, .aload_n 0, 1), (54, .getfield 24, 3), (57, .aload_n 0, 1), (58, .getfield 45, 3), (61, .iload 5, 2), (63, .iastore, 1), (64, .aload_n 0, 1), (65, .dup, 1), (66, .getfield 45, 3), (69, .iconst 1, 1), (70, .iadd, 1), (71, .putfield 45, 3), (74, .aload_n 0, 1), (75, .getfield 45, 3), (78, .iconst 1, 1), (79, .isub, 1), (80, .ireturn, 1)]
set_option maxRecDepth 20000 in
theorem dn_167_0_ok : dn_167_0.all (fun q => decide (decode prog_11_method_2_code q.1 = .ok (q.2.1, q.2.2))) = true := by decide +kernel
def te_167_0 : Nat → eE := (e_T 20 (e_T 9 (e_T 1 (e_T 0 (e_L 0 (0, ei_load 0 2 1, 0, 0)) (e_L 1 (0, ei_getf eft elay 9 0 4, 0, 0))) (e_T 4 (e_L 4 (0, ei_push (0, 16) 6, 0, 0)) (e_T 6 (e_L 6 (0, ei_if2 2 12 9, 0, 0)) (e_L 9 (0, ei_push (0, (-3)) 11, 0, 0))))) (e_T 13 (e_T 11 (e_L 11 (1, e_nof, 1, 0)) (e_T 12 (e_L 12 (0, ei_load 0 2 13, 0, 0)) (e_L 13 (0, ei_getf eft elay 9 2 16, 0, 0)))) (e_T 16 (e_L 16 (0, ei_load 0 2 17, 0, 0)) (e_T 17 (e_L 17 (0, ei_getf eft elay 9 0 20, 0, 0)) (e_L 20 (0, ei_load 1 0 21, 0, 0)))))) (e_T 30 (e_T 23 (e_T 21 (e_L 21 (0, ei_ast elay false 22, 0, 0)) (e_T 22 (e_L 22 (0, ei_load 0 2 23, 0, 0)) (e_L 23 (0, ei_getf eft elay 9 3 26, 0, 0)))) (e_T 26 (e_L 26 (0, ei_load 0 2 27, 0, 0)) (e_T 27 (e_L 27 (0, ei_getf eft elay 9 0 30, 0, 0)) (e_L 30 (0, ei_load 2 0 31, 0, 0))))) (e_T 33 (e_T 31 (e_L 31 (0, ei_ast elay false 32, 0, 0)) (e_T 32 (e_L 32 (0, ei_load 0 2 33, 0, 0)) (e_L 33 (0, ei_getf eft elay 9 4 36, 0, 0)))) (e_T 36 (e_L 36 (0, ei_load 0 2 37, 0, 0)) (e_T 37 (e_L 37 (0, ei_getf eft elay 9 0 40, 0, 0)) (e_L 40 (0, ei_load 3 0 41, 0, 0)))))))
set_option maxRecDepth 20000 in
set_option maxHeartbeats 4000000 in
theorem te_167_0_ok : ∀ pc, e_EOq eft cls elay eI n_167 pc (te_167_0 pc) :=
  (e_Tok2
  (e_Tok2
  (e_Tok2
  (e_Tok2
  (e_Lok (e_st (I := eI) (er_aload_n (i := 0) (x_dk dn_167_0_ok 0 rfl)) nx_load))
  (e_Lok (e_st (I := eI) (er_getf (ci := 9) (k := 0) (ix := 45) (N := 17) (C := RX9) (T := TX9) rfl in_X9 (by decide) (in_t3 (List.mem_of_getElem? (i := 137) rfl) rfl) (x_dk dn_167_0_ok 1 rfl)) nx_getf)))
  (e_Tok2
  (e_Lok (e_st (I := eI) (er_bipush (n := 16) (z := 16) (v := 16) (x_dk dn_167_0_ok 2 rfl) (by decide) (by decide)) (nx_push (Or.inl rfl))))
  (e_Tok2
  (e_Lok (e_st (I := eI) (er_icmplt (off := 6) (tg := 12) (x_dk dn_167_0_ok 3 rfl) (by decide)) nx_if2))
  (e_Lok (e_st (I := eI) (er_bipush (n := (-3)) (z := (-3)) (v := (-3)) (x_dk dn_167_0_ok 4 rfl) (by decide) (by decide)) (nx_push (Or.inl rfl)))))))
  (e_Tok2
  (e_Tok2
  (e_Lok (e_rt (I := eI) (k := 1) ⟨(x_dk dn_167_0_ok 5 rfl), rfl⟩))
  (e_Tok2
  (e_Lok (e_st (I := eI) (er_aload_n (i := 0) (x_dk dn_167_0_ok 6 rfl)) nx_load))
  (e_Lok (e_st (I := eI) (er_getf (ci := 9) (k := 2) (ix := 9) (N := 17) (C := RX9) (T := TX9) rfl in_X9 (by decide) (in_t3 (List.mem_of_getElem? (i := 141) rfl) rfl) (x_dk dn_167_0_ok 7 rfl)) nx_getf))))
  (e_Tok2
  (e_Lok (e_st (I := eI) (er_aload_n (i := 0) (x_dk dn_167_0_ok 8 rfl)) nx_load))
  (e_Tok2
  (e_Lok (e_st (I := eI) (er_getf (ci := 9) (k := 0) (ix := 45) (N := 17) (C := RX9) (T := TX9) rfl in_X9 (by decide) (in_t3 (List.mem_of_getElem? (i := 137) rfl) rfl) (x_dk dn_167_0_ok 9 rfl)) nx_getf))
  (e_Lok (e_st (I := eI) (er_iload_n (i := 1) (x_dk dn_167_0_ok 10 rfl)) nx_load))))))
  (e_Tok2
  (e_Tok2
  (e_Tok2
  (e_Lok (e_st (I := eI) (er_iastore (x_dk dn_167_0_ok 11 rfl)) nx_ast))
  (e_Tok2
  (e_Lok (e_st (I := eI) (er_aload_n (i := 0) (x_dk dn_167_0_ok 12 rfl)) nx_load))
  (e_Lok (e_st (I := eI) (er_getf (ci := 9) (k := 3) (ix := 15) (N := 17) (C := RX9) (T := TX9) rfl in_X9 (by decide) (in_t3 (List.mem_of_getElem? (i := 142) rfl) rfl) (x_dk dn_167_0_ok 13 rfl)) nx_getf))))
  (e_Tok2
  (e_Lok (e_st (I := eI) (er_aload_n (i := 0) (x_dk dn_167_0_ok 14 rfl)) nx_load))
  (e_Tok2
  (e_Lok (e_st (I := eI) (er_getf (ci := 9) (k := 0) (ix := 45) (N := 17) (C := RX9) (T := TX9) rfl in_X9 (by decide) (in_t3 (List.mem_of_getElem? (i := 137) rfl) rfl) (x_dk dn_167_0_ok 15 rfl)) nx_getf))
  (e_Lok (e_st (I := eI) (er_iload_n (i := 2) (x_dk dn_167_0_ok 16 rfl)) nx_load)))))
  (e_Tok2
  (e_Tok2
  (e_Lok (e_st (I := eI) (er_iastore (x_dk dn_167_0_ok 17 rfl)) nx_ast))
  (e_Tok2
  (e_Lok (e_st (I := eI) (er_aload_n (i := 0) (x_dk dn_167_0_ok 18 rfl)) nx_load))
  (e_Lok (e_st (I := eI) (er_getf (ci := 9) (k := 4) (ix := 18) (N := 17) (C := RX9) (T := TX9) rfl in_X9 (by decide) (in_t3 (List.mem_of_getElem? (i := 143) rfl) rfl) (x_dk dn_167_0_ok 19 rfl)) nx_getf))))
  (e_Tok2
  (e_Lok (e_st (I := eI) (er_aload_n (i := 0) (x_dk dn_167_0_ok 20 rfl)) nx_load))
  (e_Tok2
  (e_Lok (e_st (I := eI) (er_getf (ci := 9) (k := 0) (ix := 45) (N := 17) (C := RX9) (T := TX9) rfl in_X9 (by decide) (in_t3 (List.mem_of_getElem? (i := 137) rfl) rfl) (x_dk dn_167_0_ok 21 rfl)) nx_getf))
  (e_Lok (e_st (I := eI) (er_iload_n (i := 3) (x_dk dn_167_0_ok 22 rfl)) nx_load)))))))
def te_167_23 : Nat → eE := (e_T 61 (e_T 50 (e_T 43 (e_T 41 (e_L 41 (0, ei_ast elay false 42, 0, 0)) (e_T 42 (e_L 42 (0, ei_load 0 2 43, 0, 0)) (e_L 43 (0, ei_getf eft elay 9 5 46, 0, 0)))) (e_T 46 (e_L 46 (0, ei_load 0 2 47, 0, 0)) (e_T 47 (e_L 47 (0, ei_getf eft elay 9 0 50, 0, 0)) (e_L 50 (0, ei_load 4 0 52, 0, 0))))) (e_T 54 (e_T 52 (e_L 52 (0, ei_ast elay false 53, 0, 0)) (e_T 53 (e_L 53 (0, ei_load 0 2 54, 0, 0)) (e_L 54 (0, ei_getf eft elay 9 6 57, 0, 0)))) (e_T 57 (e_L 57 (0, ei_load 0 2 58, 0, 0)) (e_T 58 (e_L 58 (0, ei_getf eft elay 9 0 61, 0, 0)) (e_L 61 (0, ei_load 5 0 63, 0, 0)))))) (e_T 70 (e_T 65 (e_T 63 (e_L 63 (0, ei_ast elay false 64, 0, 0)) (e_T 64 (e_L 64 (0, ei_load 0 2 65, 0, 0)) (e_L 65 (0, ei_stk ef_dup 66, 0, 0)))) (e_T 66 (e_L 66 (0, ei_getf eft elay 9 0 69, 0, 0)) (e_T 69 (e_L 69 (0, ei_push (0, 1) 70, 0, 0)) (e_L 70 (0, ei_bin eF_add 71, 0, 0))))) (e_T 75 (e_T 71 (e_L 71 (0, ei_putf eft elay 9 0 0 74, 0, 0)) (e_T 74 (e_L 74 (0, ei_load 0 2 75, 0, 0)) (e_L 75 (0, ei_getf eft elay 9 0 78, 0, 0)))) (e_T 78 (e_L 78 (0, ei_push (0, 1) 79, 0, 0)) (e_T 79 (e_L 79 (0, ei_bin eF_sub 80, 0, 0)) (e_L 80 (1, e_nof, 1, 0)))))))
set_option maxRecDepth 20000 in
set_option maxHeartbeats 4000000 in
theorem te_167_23_ok : ∀ pc, e_EOq eft cls elay eI n_167 pc (te_167_23 pc) :=
  (e_Tok2
  (e_Tok2
  (e_Tok2
  (e_Tok2
  (e_Lok (e_st (I := eI) (er_iastore (x_dk dn_167_0_ok 23 rfl)) nx_ast))
  (e_Tok2
  (e_Lok (e_st (I := eI) (er_aload_n (i := 0) (x_dk dn_167_0_ok 24 rfl)) nx_load))
  (e_Lok (e_st (I := eI) (er_getf (ci := 9) (k := 5) (ix := 21) (N := 17) (C := RX9) (T := TX9) rfl in_X9 (by decide) (in_t3 (List.mem_of_getElem? (i := 144) rfl) rfl) (x_dk dn_167_0_ok 25 rfl)) nx_getf))))
  (e_Tok2
  (e_Lok (e_st (I := eI) (er_aload_n (i := 0) (x_dk dn_167_0_ok 26 rfl)) nx_load))
  (e_Tok2
  (e_Lok (e_st (I := eI) (er_getf (ci := 9) (k := 0) (ix := 45) (N := 17) (C := RX9) (T := TX9) rfl in_X9 (by decide) (in_t3 (List.mem_of_getElem? (i := 137) rfl) rfl) (x_dk dn_167_0_ok 27 rfl)) nx_getf))
  (e_Lok (e_st (I := eI) (er_iload (i := 4) (x_dk dn_167_0_ok 28 rfl)) nx_load)))))
  (e_Tok2
  (e_Tok2
  (e_Lok (e_st (I := eI) (er_iastore (x_dk dn_167_0_ok 29 rfl)) nx_ast))
  (e_Tok2
  (e_Lok (e_st (I := eI) (er_aload_n (i := 0) (x_dk dn_167_0_ok 30 rfl)) nx_load))
  (e_Lok (e_st (I := eI) (er_getf (ci := 9) (k := 6) (ix := 24) (N := 17) (C := RX9) (T := TX9) rfl in_X9 (by decide) (in_t3 (List.mem_of_getElem? (i := 145) rfl) rfl) (x_dk dn_167_0_ok 31 rfl)) nx_getf))))
  (e_Tok2
  (e_Lok (e_st (I := eI) (er_aload_n (i := 0) (x_dk dn_167_0_ok 32 rfl)) nx_load))
  (e_Tok2
  (e_Lok (e_st (I := eI) (er_getf (ci := 9) (k := 0) (ix := 45) (N := 17) (C := RX9) (T := TX9) rfl in_X9 (by decide) (in_t3 (List.mem_of_getElem? (i := 137) rfl) rfl) (x_dk dn_167_0_ok 33 rfl)) nx_getf))
  (e_Lok (e_st (I := eI) (er_iload (i := 5) (x_dk dn_167_0_ok 34 rfl)) nx_load))))))
  (e_Tok2
  (e_Tok2
  (e_Tok2
  (e_Lok (e_st (I := eI) (er_iastore (x_dk dn_167_0_ok 35 rfl)) nx_ast))
  (e_Tok2
  (e_Lok (e_st (I := eI) (er_aload_n (i := 0) (x_dk dn_167_0_ok 36 rfl)) nx_load))
  (e_Lok (e_st (I := eI) (er_dup (x_dk dn_167_0_ok 37 rfl)) (nx_stk bf_dup)))))
  (e_Tok2
  (e_Lok (e_st (I := eI) (er_getf (ci := 9) (k := 0) (ix := 45) (N := 17) (C := RX9) (T := TX9) rfl in_X9 (by decide) (in_t3 (List.mem_of_getElem? (i := 137) rfl) rfl) (x_dk dn_167_0_ok 38 rfl)) nx_getf))
  (e_Tok2
  (e_Lok (e_st (I := eI) (er_iconst (n := 1) (z := 1) (v := 1) (x_dk dn_167_0_ok 39 rfl) (by decide) (by decide)) (nx_push (Or.inl rfl))))
  (e_Lok (e_st (I := eI) (er_iadd (x_dk dn_167_0_ok 40 rfl)) nx_bin)))))
  (e_Tok2
  (e_Tok2
  (e_Lok (e_st (I := eI) (er_putf (ci := 9) (k := 0) (ix := 45) (N := 17) (fk := 0) (C := RX9) (T := TX9) (ty0 := tyX9) (ty := .int) rfl in_X9 tyX9_ok nmX9 (by decide) (in_t3 (List.mem_of_getElem? (i := 137) rfl) rfl) rfl rfl x_fit_int (x_dk dn_167_0_ok 41 rfl)) nx_putf))
  (e_Tok2
  (e_Lok (e_st (I := eI) (er_aload_n (i := 0) (x_dk dn_167_0_ok 42 rfl)) nx_load))
  (e_Lok (e_st (I := eI) (er_getf (ci := 9) (k := 0) (ix := 45) (N := 17) (C := RX9) (T := TX9) rfl in_X9 (by decide) (in_t3 (List.mem_of_getElem? (i := 137) rfl) rfl) (x_dk dn_167_0_ok 43 rfl)) nx_getf))))
  (e_Tok2
  (e_Lok (e_st (I := eI) (er_iconst (n := 1) (z := 1) (v := 1) (x_dk dn_167_0_ok 44 rfl) (by decide) (by decide)) (nx_push (Or.inl rfl))))
  (e_Tok2
  (e_Lok (e_st (I := eI) (er_isub (x_dk dn_167_0_ok 45 rfl)) nx_bin))
  (e_Lok (e_rt (I := eI) (k := 1) ⟨(x_dk dn_167_0_ok 46 rfl), rfl⟩)))))))
def te_167 : Nat → eE := (e_T 40 te_167_0 te_167_23)
theorem te_167_ok : ∀ pc, e_EOq eft cls elay eI n_167 pc (te_167 pc) := (e_Tok2 (te_167_0_ok) (te_167_23_ok))
def dn_168_0 : List (Nat × Instr × Nat) := [(0, .aload_n 0, 1), (1, .getfield 49, 3), (4, .bipush 8, 2), (6, .if_icmp .lt 6, 3), (9, .bipush (-3), 2), (11, .ireturn, 1), (12, .aload_n 0, 1), (13, .getfield 27, 3), (16, .aload_n 0, 1), (17, .getfield 49, 3), (20, .iload_n 1, 1), (21, .iastore, 1), (22, .aload_n 0, 1), (23, .getfield 33, 3), (26, .aload_n 0, 1), (27, .getfield 49, 3), (30, .iload_n 2, 1), (31, .iastore, 1), (32, .aload_n 0, 1), (33, .getfield 36, 3), (36, .aload_n 0, 1), (37, .getfield 49, 3), (40, .iload_n 3, 1), (41, .iastore, 1), (42, .aload_n 0, 1), (43, .getfield 39, 3), (46, .aload_n 0, 1), (47, .getfield 49, 3), (50, .iload_n 2, 1), (51, .iload 4, 2), (53, .iadd, 1), (54, .iastore, 1), (55, .aload_n 0, 1), (56, .getfield 42, 3), (59, .aload_n 0, 1), (60, .getfield 49, 3), (63, .iload_n 3, 1), (64, .iload 5, 2), (66, .iadd, 1), (67, .iastore, 1), (68, .aload_n 0, 1), (69, .getfield 30, 3), (72, .aload_n 0, 1), (73, .getfield 49, 3), (76, .iconst (-1), 1), (77, .iastore, 1), (78, .aload_n 0, 1), (79, .dup, 1), (80, .getfield 49, 3), (83, .iconst 1, 1), (84, .iadd, 1), (85, .putfield 49, 3), (88, .aload_n 0, 1), (89, .getfield 49, 3), (92, .iconst 1, 1), (93, .isub, 1), (94, .ireturn, 1)]
set_option maxRecDepth 20000 in
theorem dn_168_0_ok : dn_168_0.all (fun q => decide (decode prog_11_method_3_code q.1 = .ok (q.2.1, q.2.2))) = true := by decide +kernel
def te_168_0 : Nat → eE := (e_T 23 (e_T 12 (e_T 4 (e_T 0 (e_L 0 (0, ei_load 0 2 1, 0, 0)) (e_T 1 (e_L 1 (0, ei_getf eft elay 9 1 4, 0, 0)) (e_L 4 (0, ei_push (0, 8) 6, 0, 0)))) (e_T 9 (e_T 6 (e_L 6 (0, ei_if2 2 12 9, 0, 0)) (e_L 9 (0, ei_push (0, (-3)) 11, 0, 0))) (e_T 11 (e_L 11 (1, e_nof, 1, 0)) (e_L 12 (0, ei_load 0 2 13, 0, 0))))) (e_T 17 (e_T 13 (e_L 13 (0, ei_getf eft elay 9 7 16, 0, 0)) (e_T 16 (e_L 16 (0, ei_load 0 2 17, 0, 0)) (e_L 17 (0, ei_getf eft elay 9 1 20, 0, 0)))) (e_T 21 (e_T 20 (e_L 20 (0, ei_load 1 0 21, 0, 0)) (e_L 21 (0, ei_ast elay false 22, 0, 0))) (e_T 22 (e_L 22 (0, ei_load 0 2 23, 0, 0)) (e_L 23 (0, ei_getf eft elay 9 9 26, 0, 0)))))) (e_T 36 (e_T 30 (e_T 26 (e_L 26 (0, ei_load 0 2 27, 0, 0)) (e_T 27 (e_L 27 (0, ei_getf eft elay 9 1 30, 0, 0)) (e_L 30 (0, ei_load 2 0 31, 0, 0)))) (e_T 32 (e_T 31 (e_L 31 (0, ei_ast elay false 32, 0, 0)) (e_L 32 (0, ei_load 0 2 33, 0, 0))) (e_T 33 (e_L 33 (0, ei_getf eft elay 9 10 36, 0, 0)) (e_L 36 (0, ei_load 0 2 37, 0, 0))))) (e_T 41 (e_T 37 (e_L 37 (0, ei_getf eft elay 9 1 40, 0, 0)) (e_T 40 (e_L 40 (0, ei_load 3 0 41, 0, 0)) (e_L 41 (0, ei_ast elay false 42, 0, 0)))) (e_T 43 (e_T 42 (e_L 42 (0, ei_load 0 2 43, 0, 0)) (e_L 43 (0, ei_getf eft elay 9 11 46, 0, 0))) (e_T 46 (e_L 46 (0, ei_load 0 2 47, 0, 0)) (e_L 47 (0, ei_getf eft elay 9 1 50, 0, 0)))))))
set_option maxRecDepth 20000 in
set_option maxHeartbeats 4000000 in
theorem te_168_0_ok : ∀ pc, e_EOq eft cls elay eI n_168 pc (te_168_0 pc) :=
  (e_Tok2
  (e_Tok2
  (e_Tok2
  (e_Tok2
  (e_Lok (e_st (I := eI) (er_aload_n (i := 0) (x_dk dn_168_0_ok 0 rfl)) nx_load))
  (e_Tok2
  (e_Lok (e_st (I := eI) (er_getf (ci := 9) (k := 1) (ix := 49) (N := 17) (C := RX9) (T := TX9) rfl in_X9 (by decide) (in_t3 (List.mem_of_getElem? (i := 139) rfl) rfl) (x_dk dn_168_0_ok 1 rfl)) nx_getf))
  (e_Lok (e_st (I := eI) (er_bipush (n := 8) (z := 8) (v := 8) (x_dk dn_168_0_ok 2 rfl) (by decide) (by decide)) (nx_push (Or.inl rfl))))))
  (e_Tok2
  (e_Tok2
  (e_Lok (e_st (I := eI) (er_icmplt (off := 6) (tg := 12) (x_dk dn_168_0_ok 3 rfl) (by decide)) nx_if2))
  (e_Lok (e_st (I := eI) (er_bipush (n := (-3)) (z := (-3)) (v := (-3)) (x_dk dn_168_0_ok 4 rfl) (by decide) (by decide)) (nx_push (Or.inl rfl)))))
  (e_Tok2
  (e_Lok (e_rt (I := eI) (k := 1) ⟨(x_dk dn_168_0_ok 5 rfl), rfl⟩))
  (e_Lok (e_st (I := eI) (er_aload_n (i := 0) (x_dk dn_168_0_ok 6 rfl)) nx_load)))))
  (e_Tok2
  (e_Tok2
  (e_Lok (e_st (I := eI) (er_getf (ci := 9) (k := 7) (ix := 27) (N := 17) (C := RX9) (T := TX9) rfl in_X9 (by decide) (in_t3 (List.mem_of_getElem? (i := 146) rfl) rfl) (x_dk dn_168_0_ok 7 rfl)) nx_getf))
  (e_Tok2
  (e_Lok (e_st (I := eI) (er_aload_n (i := 0) (x_dk dn_168_0_ok 8 rfl)) nx_load))
  (e_Lok (e_st (I := eI) (er_getf (ci := 9) (k := 1) (ix := 49) (N := 17) (C := RX9) (T := TX9) rfl in_X9 (by decide) (in_t3 (List.mem_of_getElem? (i := 139) rfl) rfl) (x_dk dn_168_0_ok 9 rfl)) nx_getf))))
  (e_Tok2
  (e_Tok2
  (e_Lok (e_st (I := eI) (er_iload_n (i := 1) (x_dk dn_168_0_ok 10 rfl)) nx_load))
  (e_Lok (e_st (I := eI) (er_iastore (x_dk dn_168_0_ok 11 rfl)) nx_ast)))
  (e_Tok2
  (e_Lok (e_st (I := eI) (er_aload_n (i := 0) (x_dk dn_168_0_ok 12 rfl)) nx_load))
  (e_Lok (e_st (I := eI) (er_getf (ci := 9) (k := 9) (ix := 33) (N := 17) (C := RX9) (T := TX9) rfl in_X9 (by decide) (in_t3 (List.mem_of_getElem? (i := 149) rfl) rfl) (x_dk dn_168_0_ok 13 rfl)) nx_getf))))))
  (e_Tok2
  (e_Tok2
  (e_Tok2
  (e_Lok (e_st (I := eI) (er_aload_n (i := 0) (x_dk dn_168_0_ok 14 rfl)) nx_load))
  (e_Tok2
  (e_Lok (e_st (I := eI) (er_getf (ci := 9) (k := 1) (ix := 49) (N := 17) (C := RX9) (T := TX9) rfl in_X9 (by decide) (in_t3 (List.mem_of_getElem? (i := 139) rfl) rfl) (x_dk dn_168_0_ok 15 rfl)) nx_getf))
  (e_Lok (e_st (I := eI) (er_iload_n (i := 2) (x_dk dn_168_0_ok 16 rfl)) nx_load))))
  (e_Tok2
  (e_Tok2
  (e_Lok (e_st (I := eI) (er_iastore (x_dk dn_168_0_ok 17 rfl)) nx_ast))
  (e_Lok (e_st (I := eI) (er_aload_n (i := 0) (x_dk dn_168_0_ok 18 rfl)) nx_load)))
  (e_Tok2
  (e_Lok (e_st (I := eI) (er_getf (ci := 9) (k := 10) (ix := 36) (N := 17) (C := RX9) (T := TX9) rfl in_X9 (by decide) (in_t3 (List.mem_of_getElem? (i := 150) rfl) rfl) (x_dk dn_168_0_ok 19 rfl)) nx_getf))
  (e_Lok (e_st (I := eI) (er_aload_n (i := 0) (x_dk dn_168_0_ok 20 rfl)) nx_load)))))
  (e_Tok2
  (e_Tok2
  (e_Lok (e_st (I := eI) (er_getf (ci := 9) (k := 1) (ix := 49) (N := 17) (C := RX9) (T := TX9) rfl in_X9 (by decide) (in_t3 (List.mem_of_getElem? (i := 139) rfl) rfl) (x_dk dn_168_0_ok 21 rfl)) nx_getf))
  (e_Tok2
  (e_Lok (e_st (I := eI) (er_iload_n (i := 3) (x_dk dn_168_0_ok 22 rfl)) nx_load))
  (e_Lok (e_st (I := eI) (er_iastore (x_dk dn_168_0_ok 23 rfl)) nx_ast))))
  (e_Tok2
  (e_Tok2
  (e_Lok (e_st (I := eI) (er_aload_n (i := 0) (x_dk dn_168_0_ok 24 rfl)) nx_load))
  (e_Lok (e_st (I := eI) (er_getf (ci := 9) (k := 11) (ix := 39) (N := 17) (C := RX9) (T := TX9) rfl in_X9 (by decide) (in_t3 (List.mem_of_getElem? (i := 151) rfl) rfl) (x_dk dn_168_0_ok 25 rfl)) nx_getf)))
  (e_Tok2
  (e_Lok (e_st (I := eI) (er_aload_n (i := 0) (x_dk dn_168_0_ok 26 rfl)) nx_load))
  (e_Lok (e_st (I := eI) (er_getf (ci := 9) (k := 1) (ix := 49) (N := 17) (C := RX9) (T := TX9) rfl in_X9 (by decide) (in_t3 (List.mem_of_getElem? (i := 139) rfl) rfl) (x_dk dn_168_0_ok 27 rfl)) nx_getf)))))))
def te_168_28 : Nat → eE := (e_T 69 (e_T 59 (e_T 53 (e_T 50 (e_L 50 (0, ei_load 2 0 51, 0, 0)) (e_T 51 (e_L 51 (0, ei_load 4 0 53, 0, 0)) (e_L 53 (0, ei_bin eF_add 54, 0, 0)))) (e_T 55 (e_T 54 (e_L 54 (0, ei_ast elay false 55, 0, 0)) (e_L 55 (0, ei_load 0 2 56, 0, 0))) (e_T 56 (e_L 56 (0, ei_getf eft elay 9 12 59, 0, 0)) (e_L 59 (0, ei_load 0 2 60, 0, 0))))) (e_T 64 (e_T 60 (e_L 60 (0, ei_getf eft elay 9 1 63, 0, 0)) (e_T 63 (e_L 63 (0, ei_load 3 0 64, 0, 0)) (e_L 64 (0, ei_load 5 0 66, 0, 0)))) (e_T 67 (e_T 66 (e_L 66 (0, ei_bin eF_add 67, 0, 0)) (e_L 67 (0, ei_ast elay false 68, 0, 0))) (e_T 68 (e_L 68 (0, ei_load 0 2 69, 0, 0)) (e_L 69 (0, ei_getf eft elay 9 8 72, 0, 0)))))) (e_T 80 (e_T 76 (e_T 72 (e_L 72 (0, ei_load 0 2 73, 0, 0)) (e_T 73 (e_L 73 (0, ei_getf eft elay 9 1 76, 0, 0)) (e_L 76 (0, ei_push (0, (-1)) 77, 0, 0)))) (e_T 78 (e_T 77 (e_L 77 (0, ei_ast elay false 78, 0, 0)) (e_L 78 (0, ei_load 0 2 79, 0, 0))) (e_T 79 (e_L 79 (0, ei_stk ef_dup 80, 0, 0)) (e_L 80 (0, ei_getf eft elay 9 1 83, 0, 0))))) (e_T 88 (e_T 84 (e_T 83 (e_L 83 (0, ei_push (0, 1) 84, 0, 0)) (e_L 84 (0, ei_bin eF_add 85, 0, 0))) (e_T 85 (e_L 85 (0, ei_putf eft elay 9 1 0 88, 0, 0)) (e_L 88 (0, ei_load 0 2 89, 0, 0)))) (e_T 92 (e_T 89 (e_L 89 (0, ei_getf eft elay 9 1 92, 0, 0)) (e_L 92 (0, ei_push (0, 1) 93, 0, 0))) (e_T 93 (e_L 93 (0, ei_bin eF_sub 94, 0, 0)) (e_L 94 (1, e_nof, 1, 0)))))))
set_option maxRecDepth 20000 in
set_option maxHeartbeats 4000000 in
theorem te_168_28_ok : ∀ pc, e_EOq eft cls elay eI n_168 pc (te_168_28 pc) :=
  (e_Tok2
  (e_Tok2
  (e_Tok2
  (e_Tok2
  (e_Lok (e_st (I := eI) (er_iload_n (i := 2) (x_dk dn_168_0_ok 28 rfl)) nx_load))
  (e_Tok2
  (e_Lok (e_st (I := eI) (er_iload (i := 4) (x_dk dn_168_0_ok 29 rfl)) nx_load))
  (e_Lok (e_st (I := eI) (er_iadd (x_dk dn_168_0_ok 30 rfl)) nx_bin))))
  (e_Tok2
  (e_Tok2
  (e_Lok (e_st (I := eI) (er_iastore (x_dk dn_168_0_ok 31 rfl)) nx_ast))
  (e_Lok (e_st (I := eI) (er_aload_n (i := 0) (x_dk dn_168_0_ok 32 rfl)) nx_load)))
  (e_Tok2
  (e_Lok (e_st (I := eI) (er_getf (ci := 9) (k := 12) (ix := 42) (N := 17) (C := RX9) (T := TX9) rfl in_X9 (by decide) (in_t3 (List.mem_of_getElem? (i := 152) rfl) rfl) (x_dk dn_168_0_ok 33 rfl)) nx_getf))
  (e_Lok (e_st (I := eI) (er_aload_n (i := 0) (x_dk dn_168_0_ok 34 rfl)) nx_load)))))
  (e_Tok2
  (e_Tok2
  (e_Lok (e_st (I := eI) (er_getf (ci := 9) (k := 1) (ix := 49) (N := 17) (C := RX9) (T := TX9) rfl in_X9 (by decide) (in_t3 (List.mem_of_getElem? (i := 139) rfl) rfl) (x_dk dn_168_0_ok 35 rfl)) nx_getf))
  (e_Tok2
  (e_Lok (e_st (I := eI) (er_iload_n (i := 3) (x_dk dn_168_0_ok 36 rfl)) nx_load))
  (e_Lok (e_st (I := eI) (er_iload (i := 5) (x_dk dn_168_0_ok 37 rfl)) nx_load))))
  (e_Tok2
  (e_Tok2
  (e_Lok (e_st (I := eI) (er_iadd (x_dk dn_168_0_ok 38 rfl)) nx_bin))
  (e_Lok (e_st (I := eI) (er_iastore (x_dk dn_168_0_ok 39 rfl)) nx_ast)))
  (e_Tok2
  (e_Lok (e_st (I := eI) (er_aload_n (i := 0) (x_dk dn_168_0_ok 40 rfl)) nx_load))
  (e_Lok (e_st (I := eI) (er_getf (ci := 9) (k := 8) (ix := 30) (N := 17) (C := RX9) (T := TX9) rfl in_X9 (by decide) (in_t3 (List.mem_of_getElem? (i := 147) rfl) rfl) (x_dk dn_168_0_ok 41 rfl)) nx_getf))))))
  (e_Tok2
  (e_Tok2
  (e_Tok2
  (e_Lok (e_st (I := eI) (er_aload_n (i := 0) (x_dk dn_168_0_ok 42 rfl)) nx_load))
  (e_Tok2
  (e_Lok (e_st (I := eI) (er_getf (ci := 9) (k := 1) (ix := 49) (N := 17) (C := RX9) (T := TX9) rfl in_X9 (by decide) (in_t3 (List.mem_of_getElem? (i := 139) rfl) rfl) (x_dk dn_168_0_ok 43 rfl)) nx_getf))
  (e_Lok (e_st (I := eI) (er_iconst (n := (-1)) (z := (-1)) (v := (-1)) (x_dk dn_168_0_ok 44 rfl) (by decide) (by decide)) (nx_push (Or.inl rfl))))))
  (e_Tok2
  (e_Tok2
  (e_Lok (e_st (I := eI) (er_iastore (x_dk dn_168_0_ok 45 rfl)) nx_ast))
  (e_Lok (e_st (I := eI) (er_aload_n (i := 0) (x_dk dn_168_0_ok 46 rfl)) nx_load)))
  (e_Tok2
  (e_Lok (e_st (I := eI) (er_dup (x_dk dn_168_0_ok 47 rfl)) (nx_stk bf_dup)))
  (e_Lok (e_st (I := eI) (er_getf (ci := 9) (k := 1) (ix := 49) (N := 17) (C := RX9) (T := TX9) rfl in_X9 (by decide) (in_t3 (List.mem_of_getElem? (i := 139) rfl) rfl) (x_dk dn_168_0_ok 48 rfl)) nx_getf)))))
  (e_Tok2
  (e_Tok2
  (e_Tok2
  (e_Lok (e_st (I := eI) (er_iconst (n := 1) (z := 1) (v := 1) (x_dk dn_168_0_ok 49 rfl) (by decide) (by decide)) (nx_push (Or.inl rfl))))
  (e_Lok (e_st (I := eI) (er_iadd (x_dk dn_168_0_ok 50 rfl)) nx_bin)))
  (e_Tok2
  (e_Lok (e_st (I := eI) (er_putf (ci := 9) (k := 1) (ix := 49) (N := 17) (fk := 0) (C := RX9) (T := TX9) (ty0 := tyX9) (ty := .int) rfl in_X9 tyX9_ok nmX9 (by decide) (in_t3 (List.mem_of_getElem? (i := 139) rfl) rfl) rfl rfl x_fit_int (x_dk dn_168_0_ok 51 rfl)) nx_putf))
  (e_Lok (e_st (I := eI) (er_aload_n (i := 0) (x_dk dn_168_0_ok 52 rfl)) nx_load))))
  (e_Tok2
  (e_Tok2
  (e_Lok (e_st (I := eI) (er_getf (ci := 9) (k := 1) (ix := 49) (N := 17) (C := RX9) (T := TX9) rfl in_X9 (by decide) (in_t3 (List.mem_of_getElem? (i := 139) rfl) rfl) (x_dk dn_168_0_ok 53 rfl)) nx_getf))
  (e_Lok (e_st (I := eI) (er_iconst (n := 1) (z := 1) (v := 1) (x_dk dn_168_0_ok 54 rfl) (by decide) (by decide)) (nx_push (Or.inl rfl)))))
  (e_Tok2
  (e_Lok (e_st (I := eI) (er_isub (x_dk dn_168_0_ok 55 rfl)) nx_bin))
  (e_Lok (e_rt (I := eI) (k := 1) ⟨(x_dk dn_168_0_ok 56 rfl), rfl⟩)))))))
def te_168 : Nat → eE := (e_T 47 te_168_0 te_168_28)
theorem te_168_ok : ∀ pc, e_EOq eft cls elay eI n_168 pc (te_168 pc) := (e_Tok2 (te_168_0_ok) (te_168_28_ok))
def dn_169_0 : List (Nat × Instr × Nat) := [(0, .iconst 0, 1), (1, .istore_n 2, 1), (2, .iload_n 2, 1), (3, .aload_n 0, 1), (4, .getfield 49, 3), (7, .if_icmp .ge 49, 3), (10, .aload_n 1, 1), (11, .aload_n 0, 1), (12, .getfield 27, 3), (15, .iload_n 2, 1), (16, .iaload, 1), (17, .aaload, 1), (18, .astore_n 3, 1), (19, .iconst 1, 1), (20, .istore 4, 2), (22, .iload 4, 2), (24, .aload_n 3, 1), (25, .getfield 52, 3), (28, .if_icmp .gt 22, 3), (31, .aload_n 0, 1), (32, .iload_n 2, 1), (33, .aload_n 3, 1), (34, .iload 4, 2), (36, .invokevirtual 57, 3), (39, .ifCond .eq 5, 3), (42, .iload_n 2, 1), (43, .ireturn, 1), (44, .iinc 4 1, 3), (47, .goto (-25), 3), (50, .iinc 2 1, 3), (53, .goto (-51), 3), (56, .iconst (-1), 1), (57, .ireturn, 1)]
set_option maxRecDepth 20000 in
theorem dn_169_0_ok : dn_169_0.all (fun q => decide (decode prog_11_method_4_code q.1 = .ok (q.2.1, q.2.2))) = true := by decide +kernel
def te_169_0 : Nat → eE := (e_T 22 (e_T 11 (e_T 3 (e_T 1 (e_T 0 (e_L 0 (0, ei_push (0, 0) 1, 0, 0)) (e_L 1 (0, ei_stor 2 0 2, 0, 0))) (e_T 2 (e_L 2 (0, ei_load 2 0 3, 0, 0)) (e_L 3 (0, ei_load 0 2 4, 0, 0)))) (e_T 7 (e_T 4 (e_L 4 (0, ei_getf eft elay 9 1 7, 0, 0)) (e_L 7 (0, ei_if2 3 56 10, 0, 0))) (e_T 10 (e_L 10 (0, ei_load 1 2 11, 0, 0)) (e_L 11 (0, ei_load 0 2 12, 0, 0))))) (e_T 17 (e_T 15 (e_T 12 (e_L 12 (0, ei_getf eft elay 9 7 15, 0, 0)) (e_L 15 (0, ei_load 2 0 16, 0, 0))) (e_T 16 (e_L 16 (0, ei_ald elay false 17, 0, 0)) (e_L 17 (0, ei_aald elay 18, 0, 0)))) (e_T 19 (e_T 18 (e_L 18 (0, ei_stor 3 2 19, 0, 0)) (e_L 19 (0, ei_push (0, 1) 20, 0, 0))) (e_T 20 (e_L 20 (0, ei_stor 4 0 22, 0, 0)) (e_L 22 (0, ei_load 4 0 24, 0, 0)))))) (e_T 36 (e_T 31 (e_T 25 (e_T 24 (e_L 24 (0, ei_load 3 2 25, 0, 0)) (e_L 25 (0, ei_getf eft elay 0 8 28, 0, 0))) (e_T 28 (e_L 28 (0, ei_if2 4 50 31, 0, 0)) (e_L 31 (0, ei_load 0 2 32, 0, 0)))) (e_T 33 (e_T 32 (e_L 32 (0, ei_load 2 0 33, 0, 0)) (e_L 33 (0, ei_load 3 2 34, 0, 0))) (e_T 34 (e_L 34 (0, ei_load 4 0 36, 0, 0)) (e_L 36 (2, e_nof, 170, 4))))) (e_T 44 (e_T 42 (e_T 39 (e_L 39 (0, ei_if1 0 44 42, 0, 0)) (e_L 42 (0, ei_load 2 0 43, 0, 0))) (e_T 43 (e_L 43 (1, e_nof, 1, 0)) (e_L 44 (0, ei_inc 4 1 47, 0, 0)))) (e_T 50 (e_T 47 (e_L 47 (0, ei_goto 22, 0, 0)) (e_L 50 (0, ei_inc 2 1 53, 0, 0))) (e_T 53 (e_L 53 (0, ei_goto 2, 0, 0)) (e_T 56 (e_L 56 (0, ei_push (0, (-1)) 57, 0, 0)) (e_L 57 (1, e_nof, 1, 0))))))))
set_option maxRecDepth 20000 in
set_option maxHeartbeats 4000000 in
theorem te_169_0_ok : ∀ pc, e_EOq eft cls elay eI n_169 pc (te_169_0 pc) :=
  (e_Tok2
  (e_Tok2
  (e_Tok2
  (e_Tok2
  (e_Tok2
  (e_Lok (e_st (I := eI) (er_iconst (n := 0) (z := 0) (v := 0) (x_dk dn_169_0_ok 0 rfl) (by decide) (by decide)) (nx_push (Or.inl rfl))))
  (e_Lok (e_st (I := eI) (er_istore_n (i := 2) (x_dk dn_169_0_ok 1 rfl) (by decide +kernel)) nx_stor)))
  (e_Tok2
  (e_Lok (e_st (I := eI) (er_iload_n (i := 2) (x_dk dn_169_0_ok 2 rfl)) nx_load))
  (e_Lok (e_st (I := eI) (er_aload_n (i := 0) (x_dk dn_169_0_ok 3 rfl)) nx_load))))
  (e_Tok2
  (e_Tok2
  (e_Lok (e_st (I := eI) (er_getf (ci := 9) (k := 1) (ix := 49) (N := 17) (C := RX9) (T := TX9) rfl in_X9 (by decide) (in_t3 (List.mem_of_getElem? (i := 139) rfl) rfl) (x_dk dn_169_0_ok 4 rfl)) nx_getf))
  (e_Lok (e_st (I := eI) (er_icmpge (off := 49) (tg := 56) (x_dk dn_169_0_ok 5 rfl) (by decide)) nx_if2)))
  (e_Tok2
  (e_Lok (e_st (I := eI) (er_aload_n (i := 1) (x_dk dn_169_0_ok 6 rfl)) nx_load))
  (e_Lok (e_st (I := eI) (er_aload_n (i := 0) (x_dk dn_169_0_ok 7 rfl)) nx_load)))))
  (e_Tok2
  (e_Tok2
  (e_Tok2
  (e_Lok (e_st (I := eI) (er_getf (ci := 9) (k := 7) (ix := 27) (N := 17) (C := RX9) (T := TX9) rfl in_X9 (by decide) (in_t3 (List.mem_of_getElem? (i := 146) rfl) rfl) (x_dk dn_169_0_ok 8 rfl)) nx_getf))
  (e_Lok (e_st (I := eI) (er_iload_n (i := 2) (x_dk dn_169_0_ok 9 rfl)) nx_load)))
  (e_Tok2
  (e_Lok (e_st (I := eI) (er_iaload (x_dk dn_169_0_ok 10 rfl)) nx_ald))
  (e_Lok (e_st (I := eI) (er_aaload (x_dk dn_169_0_ok 11 rfl)) nx_aald))))
  (e_Tok2
  (e_Tok2
  (e_Lok (e_st (I := eI) (er_astore_n (i := 3) (x_dk dn_169_0_ok 12 rfl) (by decide +kernel)) nx_stor))
  (e_Lok (e_st (I := eI) (er_iconst (n := 1) (z := 1) (v := 1) (x_dk dn_169_0_ok 13 rfl) (by decide) (by decide)) (nx_push (Or.inl rfl)))))
  (e_Tok2
  (e_Lok (e_st (I := eI) (er_istore (i := 4) (x_dk dn_169_0_ok 14 rfl) (by decide +kernel)) nx_stor))
  (e_Lok (e_st (I := eI) (er_iload (i := 4) (x_dk dn_169_0_ok 15 rfl)) nx_load))))))
  (e_Tok2
  (e_Tok2
  (e_Tok2
  (e_Tok2
  (e_Lok (e_st (I := eI) (er_aload_n (i := 3) (x_dk dn_169_0_ok 16 rfl)) nx_load))
  (e_Lok (e_st (I := eI) (er_getf (ci := 0) (k := 8) (ix := 52) (N := 20) (C := RX0) (T := TX0) rfl in_X0 (by decide) (in_t2 (List.mem_of_getElem? (i := 169) rfl) rfl) (x_dk dn_169_0_ok 17 rfl)) nx_getf)))
  (e_Tok2
  (e_Lok (e_st (I := eI) (er_icmpgt (off := 22) (tg := 50) (x_dk dn_169_0_ok 18 rfl) (by decide)) nx_if2))
  (e_Lok (e_st (I := eI) (er_aload_n (i := 0) (x_dk dn_169_0_ok 19 rfl)) nx_load))))
  (e_Tok2
  (e_Tok2
  (e_Lok (e_st (I := eI) (er_iload_n (i := 2) (x_dk dn_169_0_ok 20 rfl)) nx_load))
  (e_Lok (e_st (I := eI) (er_aload_n (i := 3) (x_dk dn_169_0_ok 21 rfl)) nx_load)))
  (e_Tok2
  (e_Lok (e_st (I := eI) (er_iload (i := 4) (x_dk dn_169_0_ok 22 rfl)) nx_load))
  (e_Lok (e_ca (I := eI) (q' := n_170) rfl (xr_callV (q' := n_170) (ix := 57) (n := 3) (in_t8 (List.mem_of_getElem? (i := 138) rfl) rfl) good_w (in_t1 (List.mem_of_getElem? (i := 11) rfl) rfl) (in_t8 (List.mem_of_getElem? (i := 135) rfl) rfl) (in_t8 (List.mem_of_getElem? (i := 137) rfl) rfl) (in_s7 (List.mem_of_getElem? (i := 9) rfl)) (by decide +kernel) (by decide +kernel) (by decide +kernel) (x_dk dn_169_0_ok 23 rfl)))))))
  (e_Tok2
  (e_Tok2
  (e_Tok2
  (e_Lok (e_st (I := eI) (er_ifeq (off := 5) (tg := 44) (x_dk dn_169_0_ok 24 rfl) (by decide)) nx_if1))
  (e_Lok (e_st (I := eI) (er_iload_n (i := 2) (x_dk dn_169_0_ok 25 rfl)) nx_load)))
  (e_Tok2
  (e_Lok (e_rt (I := eI) (k := 1) ⟨(x_dk dn_169_0_ok 26 rfl), rfl⟩))
  (e_Lok (e_st (I := eI) (er_iinc (i := 4) (n := 1) (x_dk dn_169_0_ok 27 rfl) (by decide +kernel) (by decide)) nx_inc))))
  (e_Tok2
  (e_Tok2
  (e_Lok (e_st (I := eI) (er_goto (off := (-25)) (tg := 22) (x_dk dn_169_0_ok 28 rfl) (by decide)) nx_goto))
  (e_Lok (e_st (I := eI) (er_iinc (i := 2) (n := 1) (x_dk dn_169_0_ok 29 rfl) (by decide +kernel) (by decide)) nx_inc)))
  (e_Tok2
  (e_Lok (e_st (I := eI) (er_goto (off := (-51)) (tg := 2) (x_dk dn_169_0_ok 30 rfl) (by decide)) nx_goto))
  (e_Tok2
  (e_Lok (e_st (I := eI) (er_iconst (n := (-1)) (z := (-1)) (v := (-1)) (x_dk dn_169_0_ok 31 rfl) (by decide) (by decide)) (nx_push (Or.inl rfl))))
  (e_Lok (e_rt (I := eI) (k := 1) ⟨(x_dk dn_169_0_ok 32 rfl), rfl⟩))))))))
def te_169 : Nat → eE := te_169_0
theorem te_169_ok : ∀ pc, e_EOq eft cls elay eI n_169 pc (te_169 pc) := te_169_0_ok
end
