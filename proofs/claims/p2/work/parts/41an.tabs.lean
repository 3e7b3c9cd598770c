noncomputable section
def dn_185_0 : List (Nat × Instr × Nat) := [(0, .aload_n 0, 1), (1, .getfield 63, 3), (4, .iconst 1, 1), (5, .if_icmp .ge 4, 3), (8, .return_, 1), (9, .aload_n 0, 1), (10, .getfield 18, 3), (13, .aload_n 0, 1), (14, .getfield 63, 3), (17, .iconst 1, 1), (18, .isub, 1), (19, .iaload, 1), (20, .istore_n 2, 1), (21, .aload_n 1, 1), (22, .iload_n 2, 1), (23, .iconst 2, 1), (24, .iadd, 1), (25, .invokevirtual 73, 3), (28, .istore_n 3, 1), (29, .iload_n 3, 1), (30, .ifCond .ne 27, 3), (33, .aload_n 0, 1), (34, .dup, 1), (35, .getfield 63, 3), (38, .iconst 1, 1), (39, .isub, 1), (40, .putfield 63, 3), (43, .aload_n 0, 1), (44, .aload_n 1, 1), (45, .iload_n 2, 1), (46, .iconst 3, 1), (47, .iadd, 1), (48, .invokevirtual 73, 3), (51, .putfield 70, 3), (54, .goto 20, 3), (57, .aload_n 0, 1), (58, .getfield 21, 3), (61, .aload_n 0, 1), (62, .getfield 63, 3), (65, .iconst 1, 1), (66, .isub, 1), (67, .iconst 2, 1), (68, .iastore, 1), (69, .aload_n 0, 1), (70, .iload_n 3, 1), (71, .putfield 70, 3), (74, .return_, 1)]
set_option maxRecDepth 20000 in
theorem dn_185_0_ok : dn_185_0.all (fun q => decide (decode prog_12_method_8_code q.1 = .ok (q.2.1, q.2.2))) = true := by decide +kernel
def te_185_0 : Nat → eE := (e_T 18 (e_T 8 (e_T 1 (e_T 0 (e_L 0 (0, ei_load 0 2 1, 0, 0)) (e_L 1 (0, ei_getf eft elay 10 15 4, 0, 0))) (e_T 4 (e_L 4 (0, ei_push (0, 1) 5, 0, 0)) (e_T 5 (e_L 5 (0, ei_if2 3 9 8, 0, 0)) (e_L 8 (1, e_nof, 0, 0))))) (e_T 13 (e_T 9 (e_L 9 (0, ei_load 0 2 10, 0, 0)) (e_T 10 (e_L 10 (0, ei_getf eft elay 10 18 13, 0, 0)) (e_L 13 (0, ei_load 0 2 14, 0, 0)))) (e_T 14 (e_L 14 (0, ei_getf eft elay 10 15 17, 0, 0)) (e_T 17 (e_L 17 (0, ei_push (0, 1) 18, 0, 0)) (e_L 18 (0, ei_bin eF_sub 19, 0, 0)))))) (e_T 24 (e_T 21 (e_T 19 (e_L 19 (0, ei_ald elay false 20, 0, 0)) (e_T 20 (e_L 20 (0, ei_stor 2 0 21, 0, 0)) (e_L 21 (0, ei_load 1 2 22, 0, 0)))) (e_T 22 (e_L 22 (0, ei_load 2 0 23, 0, 0)) (e_T 23 (e_L 23 (0, ei_push (0, 2) 24, 0, 0)) (e_L 24 (0, ei_bin eF_add 25, 0, 0))))) (e_T 29 (e_T 25 (e_L 25 (2, e_nof, 24, 2)) (e_T 28 (e_L 28 (0, ei_stor 3 0 29, 0, 0)) (e_L 29 (0, ei_load 3 0 30, 0, 0)))) (e_T 30 (e_L 30 (0, ei_if1 1 57 33, 0, 0)) (e_T 33 (e_L 33 (0, ei_load 0 2 34, 0, 0)) (e_L 34 (0, ei_stk ef_dup 35, 0, 0)))))))
set_option maxRecDepth 20000 in
set_option maxHeartbeats 4000000 in
theorem te_185_0_ok : ∀ pc, e_EOq eft cls elay eI n_185 pc (te_185_0 pc) :=
  (e_Tok2
  (e_Tok2
  (e_Tok2
  (e_Tok2
  (e_Lok (e_st (I := eI) (er_aload_n (i := 0) (x_dk dn_185_0_ok 0 rfl))))
  (e_Lok (e_st (I := eI) (er_getf (ci := 10) (k := 15) (ix := 63) (N := 21) (C := RX10) (T := TX10) rfl in_X10 (by decide) (in_t3 (List.mem_of_getElem? (i := 39) rfl) rfl) (x_dk dn_185_0_ok 1 rfl)))))
  (e_Tok2
  (e_Lok (e_st (I := eI) (er_iconst (n := 1) (z := 1) (v := 1) (x_dk dn_185_0_ok 2 rfl) (by decide) (by decide))))
  (e_Tok2
  (e_Lok (e_st (I := eI) (er_icmpge (off := 4) (tg := 9) (x_dk dn_185_0_ok 3 rfl) (by decide))))
  (e_Lok (e_rt (I := eI) (k := 0) ⟨(x_dk dn_185_0_ok 4 rfl), rfl⟩)))))
  (e_Tok2
  (e_Tok2
  (e_Lok (e_st (I := eI) (er_aload_n (i := 0) (x_dk dn_185_0_ok 5 rfl))))
  (e_Tok2
  (e_Lok (e_st (I := eI) (er_getf (ci := 10) (k := 18) (ix := 18) (N := 21) (C := RX10) (T := TX10) rfl in_X10 (by decide) (in_t3 (List.mem_of_getElem? (i := 42) rfl) rfl) (x_dk dn_185_0_ok 6 rfl))))
  (e_Lok (e_st (I := eI) (er_aload_n (i := 0) (x_dk dn_185_0_ok 7 rfl))))))
  (e_Tok2
  (e_Lok (e_st (I := eI) (er_getf (ci := 10) (k := 15) (ix := 63) (N := 21) (C := RX10) (T := TX10) rfl in_X10 (by decide) (in_t3 (List.mem_of_getElem? (i := 39) rfl) rfl) (x_dk dn_185_0_ok 8 rfl))))
  (e_Tok2
  (e_Lok (e_st (I := eI) (er_iconst (n := 1) (z := 1) (v := 1) (x_dk dn_185_0_ok 9 rfl) (by decide) (by decide))))
  (e_Lok (e_st (I := eI) (er_isub (x_dk dn_185_0_ok 10 rfl))))))))
  (e_Tok2
  (e_Tok2
  (e_Tok2
  (e_Lok (e_st (I := eI) (er_iaload (x_dk dn_185_0_ok 11 rfl))))
  (e_Tok2
  (e_Lok (e_st (I := eI) (er_istore_n (i := 2) (x_dk dn_185_0_ok 12 rfl) (by decide +kernel))))
  (e_Lok (e_st (I := eI) (er_aload_n (i := 1) (x_dk dn_185_0_ok 13 rfl))))))
  (e_Tok2
  (e_Lok (e_st (I := eI) (er_iload_n (i := 2) (x_dk dn_185_0_ok 14 rfl))))
  (e_Tok2
  (e_Lok (e_st (I := eI) (er_iconst (n := 2) (z := 2) (v := 2) (x_dk dn_185_0_ok 15 rfl) (by decide) (by decide))))
  (e_Lok (e_st (I := eI) (er_iadd (x_dk dn_185_0_ok 16 rfl)))))))
  (e_Tok2
  (e_Tok2
  (e_Lok (e_ca (I := eI) (q' := n_24) rfl (xr_callV (q' := n_24) (ix := 73) (n := 1) (in_t6 (List.mem_of_getElem? (i := 158) rfl) rfl) good_w (in_t1 (List.mem_of_getElem? (i := 3) rfl) rfl) (in_t7 (List.mem_of_getElem? (i := 87) rfl) rfl) (in_t6 (List.mem_of_getElem? (i := 156) rfl) rfl) (in_t6 (List.mem_of_getElem? (i := 157) rfl) rfl) (by decide +kernel) (by decide +kernel) (by decide +kernel) (x_dk dn_185_0_ok 17 rfl))))
  (e_Tok2
  (e_Lok (e_st (I := eI) (er_istore_n (i := 3) (x_dk dn_185_0_ok 18 rfl) (by decide +kernel))))
  (e_Lok (e_st (I := eI) (er_iload_n (i := 3) (x_dk dn_185_0_ok 19 rfl))))))
  (e_Tok2
  (e_Lok (e_st (I := eI) (er_ifne (off := 27) (tg := 57) (x_dk dn_185_0_ok 20 rfl) (by decide))))
  (e_Tok2
  (e_Lok (e_st (I := eI) (er_aload_n (i := 0) (x_dk dn_185_0_ok 21 rfl))))
  (e_Lok (e_st (I := eI) (er_dup (x_dk dn_185_0_ok 22 rfl)))))))))
def te_185_23 : Nat → eE := (e_T 54 (e_T 44 (e_T 39 (e_T 35 (e_L 35 (0, ei_getf eft elay 10 15 38, 0, 0)) (e_T 38 (e_L 38 (0, ei_push (0, 1) 39, 0, 0)) (e_L 39 (0, ei_bin eF_sub 40, 0, 0)))) (e_T 40 (e_L 40 (0, ei_putf eft elay 10 15 0 43, 0, 0)) (e_T 43 (e_L 43 (0, ei_load 0 2 44, 0, 0)) (e_L 44 (0, ei_load 1 2 45, 0, 0))))) (e_T 47 (e_T 45 (e_L 45 (0, ei_load 2 0 46, 0, 0)) (e_T 46 (e_L 46 (0, ei_push (0, 3) 47, 0, 0)) (e_L 47 (0, ei_bin eF_add 48, 0, 0)))) (e_T 48 (e_L 48 (2, e_nof, 24, 2)) (e_T 51 (e_L 51 (0, ei_putf eft elay 10 3 0 54, 0, 0)) (e_L 54 (0, ei_goto 74, 0, 0)))))) (e_T 66 (e_T 61 (e_T 57 (e_L 57 (0, ei_load 0 2 58, 0, 0)) (e_T 58 (e_L 58 (0, ei_getf eft elay 10 19 61, 0, 0)) (e_L 61 (0, ei_load 0 2 62, 0, 0)))) (e_T 62 (e_L 62 (0, ei_getf eft elay 10 15 65, 0, 0)) (e_T 65 (e_L 65 (0, ei_push (0, 1) 66, 0, 0)) (e_L 66 (0, ei_bin eF_sub 67, 0, 0))))) (e_T 69 (e_T 67 (e_L 67 (0, ei_push (0, 2) 68, 0, 0)) (e_T 68 (e_L 68 (0, ei_ast elay false 69, 0, 0)) (e_L 69 (0, ei_load 0 2 70, 0, 0)))) (e_T 70 (e_L 70 (0, ei_load 3 0 71, 0, 0)) (e_T 71 (e_L 71 (0, ei_putf eft elay 10 3 0 74, 0, 0)) (e_L 74 (1, e_nof, 0, 0)))))))
set_option maxRecDepth 20000 in
set_option maxHeartbeats 4000000 in
theorem te_185_23_ok : ∀ pc, e_EOq eft cls elay eI n_185 pc (te_185_23 pc) :=
  (e_Tok2
  (e_Tok2
  (e_Tok2
  (e_Tok2
  (e_Lok (e_st (I := eI) (er_getf (ci := 10) (k := 15) (ix := 63) (N := 21) (C := RX10) (T := TX10) rfl in_X10 (by decide) (in_t3 (List.mem_of_getElem? (i := 39) rfl) rfl) (x_dk dn_185_0_ok 23 rfl))))
  (e_Tok2
  (e_Lok (e_st (I := eI) (er_iconst (n := 1) (z := 1) (v := 1) (x_dk dn_185_0_ok 24 rfl) (by decide) (by decide))))
  (e_Lok (e_st (I := eI) (er_isub (x_dk dn_185_0_ok 25 rfl))))))
  (e_Tok2
  (e_Lok (e_st (I := eI) (er_putf (ci := 10) (k := 15) (ix := 63) (N := 21) (fk := 0) (C := RX10) (T := TX10) (ty0 := tyX10) (ty := .int) rfl in_X10 tyX10_ok nmX10 (by decide) (in_t3 (List.mem_of_getElem? (i := 39) rfl) rfl) rfl rfl x_fit_int (x_dk dn_185_0_ok 26 rfl))))
  (e_Tok2
  (e_Lok (e_st (I := eI) (er_aload_n (i := 0) (x_dk dn_185_0_ok 27 rfl))))
  (e_Lok (e_st (I := eI) (er_aload_n (i := 1) (x_dk dn_185_0_ok 28 rfl)))))))
  (e_Tok2
  (e_Tok2
  (e_Lok (e_st (I := eI) (er_iload_n (i := 2) (x_dk dn_185_0_ok 29 rfl))))
  (e_Tok2
  (e_Lok (e_st (I := eI) (er_iconst (n := 3) (z := 3) (v := 3) (x_dk dn_185_0_ok 30 rfl) (by decide) (by decide))))
  (e_Lok (e_st (I := eI) (er_iadd (x_dk dn_185_0_ok 31 rfl))))))
  (e_Tok2
  (e_Lok (e_ca (I := eI) (q' := n_24) rfl (xr_callV (q' := n_24) (ix := 73) (n := 1) (in_t6 (List.mem_of_getElem? (i := 158) rfl) rfl) good_w (in_t1 (List.mem_of_getElem? (i := 3) rfl) rfl) (in_t7 (List.mem_of_getElem? (i := 87) rfl) rfl) (in_t6 (List.mem_of_getElem? (i := 156) rfl) rfl) (in_t6 (List.mem_of_getElem? (i := 157) rfl) rfl) (by decide +kernel) (by decide +kernel) (by decide +kernel) (x_dk dn_185_0_ok 32 rfl))))
  (e_Tok2
  (e_Lok (e_st (I := eI) (er_putf (ci := 10) (k := 3) (ix := 70) (N := 21) (fk := 0) (C := RX10) (T := TX10) (ty0 := tyX10) (ty := .int) rfl in_X10 tyX10_ok nmX10 (by decide) (in_t3 (List.mem_of_getElem? (i := 17) rfl) rfl) rfl rfl x_fit_int (x_dk dn_185_0_ok 33 rfl))))
  (e_Lok (e_st (I := eI) (er_goto (off := 20) (tg := 74) (x_dk dn_185_0_ok 34 rfl) (by decide))))))))
  (e_Tok2
  (e_Tok2
  (e_Tok2
  (e_Lok (e_st (I := eI) (er_aload_n (i := 0) (x_dk dn_185_0_ok 35 rfl))))
  (e_Tok2
  (e_Lok (e_st (I := eI) (er_getf (ci := 10) (k := 19) (ix := 21) (N := 21) (C := RX10) (T := TX10) rfl in_X10 (by decide) (in_t3 (List.mem_of_getElem? (i := 43) rfl) rfl) (x_dk dn_185_0_ok 36 rfl))))
  (e_Lok (e_st (I := eI) (er_aload_n (i := 0) (x_dk dn_185_0_ok 37 rfl))))))
  (e_Tok2
  (e_Lok (e_st (I := eI) (er_getf (ci := 10) (k := 15) (ix := 63) (N := 21) (C := RX10) (T := TX10) rfl in_X10 (by decide) (in_t3 (List.mem_of_getElem? (i := 39) rfl) rfl) (x_dk dn_185_0_ok 38 rfl))))
  (e_Tok2
  (e_Lok (e_st (I := eI) (er_iconst (n := 1) (z := 1) (v := 1) (x_dk dn_185_0_ok 39 rfl) (by decide) (by decide))))
  (e_Lok (e_st (I := eI) (er_isub (x_dk dn_185_0_ok 40 rfl)))))))
  (e_Tok2
  (e_Tok2
  (e_Lok (e_st (I := eI) (er_iconst (n := 2) (z := 2) (v := 2) (x_dk dn_185_0_ok 41 rfl) (by decide) (by decide))))
  (e_Tok2
  (e_Lok (e_st (I := eI) (er_iastore (x_dk dn_185_0_ok 42 rfl))))
  (e_Lok (e_st (I := eI) (er_aload_n (i := 0) (x_dk dn_185_0_ok 43 rfl))))))
  (e_Tok2
  (e_Lok (e_st (I := eI) (er_iload_n (i := 3) (x_dk dn_185_0_ok 44 rfl))))
  (e_Tok2
  (e_Lok (e_st (I := eI) (er_putf (ci := 10) (k := 3) (ix := 70) (N := 21) (fk := 0) (C := RX10) (T := TX10) (ty0 := tyX10) (ty := .int) rfl in_X10 tyX10_ok nmX10 (by decide) (in_t3 (List.mem_of_getElem? (i := 17) rfl) rfl) rfl rfl x_fit_int (x_dk dn_185_0_ok 45 rfl))))
  (e_Lok (e_rt (I := eI) (k := 0) ⟨(x_dk dn_185_0_ok 46 rfl), rfl⟩)))))))
def te_185 : Nat → eE := (e_T 34 te_185_0 te_185_23)
theorem te_185_ok : ∀ pc, e_EOq eft cls elay eI n_185 pc (te_185 pc) := (e_Tok2 (te_185_0_ok) (te_185_23_ok))
def dn_186_0 : List (Nat × Instr × Nat) := [(0, .aload_n 0, 1), (1, .getfield 63, 3), (4, .iconst 1, 1), (5, .if_icmp .ge 5, 3), (8, .iconst 0, 1), (9, .ireturn, 1), (10, .aload_n 0, 1), (11, .dup, 1), (12, .getfield 63, 3), (15, .iconst 1, 1), (16, .isub, 1), (17, .putfield 63, 3), (20, .aload_n 0, 1), (21, .getfield 21, 3), (24, .aload_n 0, 1), (25, .getfield 63, 3), (28, .iaload, 1), (29, .iconst 2, 1), (30, .ishr, 1), (31, .ireturn, 1)]
set_option maxRecDepth 20000 in
theorem dn_186_0_ok : dn_186_0.all (fun q => decide (decode prog_12_method_9_code q.1 = .ok (q.2.1, q.2.2))) = true := by decide +kernel
def te_186_0 : Nat → eE := (e_T 15 (e_T 8 (e_T 1 (e_T 0 (e_L 0 (0, ei_load 0 2 1, 0, 0)) (e_L 1 (0, ei_getf eft elay 10 15 4, 0, 0))) (e_T 4 (e_L 4 (0, ei_push (0, 1) 5, 0, 0)) (e_T 5 (e_L 5 (0, ei_if2 3 10 8, 0, 0)) (e_L 8 (0, ei_push (0, 0) 9, 0, 0))))) (e_T 10 (e_T 9 (e_L 9 (1, e_nof, 1, 0)) (e_L 10 (0, ei_load 0 2 11, 0, 0))) (e_T 11 (e_L 11 (0, ei_stk ef_dup 12, 0, 0)) (e_T 12 (e_L 12 (0, ei_getf eft elay 10 15 15, 0, 0)) (e_L 15 (0, ei_push (0, 1) 16, 0, 0)))))) (e_T 24 (e_T 17 (e_T 16 (e_L 16 (0, ei_bin eF_sub 17, 0, 0)) (e_L 17 (0, ei_putf eft elay 10 15 0 20, 0, 0))) (e_T 20 (e_L 20 (0, ei_load 0 2 21, 0, 0)) (e_T 21 (e_L 21 (0, ei_getf eft elay 10 19 24, 0, 0)) (e_L 24 (0, ei_load 0 2 25, 0, 0))))) (e_T 28 (e_T 25 (e_L 25 (0, ei_getf eft elay 10 15 28, 0, 0)) (e_L 28 (0, ei_ald elay false 29, 0, 0))) (e_T 29 (e_L 29 (0, ei_push (0, 2) 30, 0, 0)) (e_T 30 (e_L 30 (0, ei_bin (eB (fun x y => x >>> (y &&& 31))) 31, 0, 0)) (e_L 31 (1, e_nof, 1, 0)))))))
set_option maxRecDepth 20000 in
set_option maxHeartbeats 4000000 in
theorem te_186_0_ok : ∀ pc, e_EOq eft cls elay eI n_186 pc (te_186_0 pc) :=
  (e_Tok2
  (e_Tok2
  (e_Tok2
  (e_Tok2
  (e_Lok (e_st (I := eI) (er_aload_n (i := 0) (x_dk dn_186_0_ok 0 rfl))))
  (e_Lok (e_st (I := eI) (er_getf (ci := 10) (k := 15) (ix := 63) (N := 21) (C := RX10) (T := TX10) rfl in_X10 (by decide) (in_t3 (List.mem_of_getElem? (i := 39) rfl) rfl) (x_dk dn_186_0_ok 1 rfl)))))
  (e_Tok2
  (e_Lok (e_st (I := eI) (er_iconst (n := 1) (z := 1) (v := 1) (x_dk dn_186_0_ok 2 rfl) (by decide) (by decide))))
  (e_Tok2
  (e_Lok (e_st (I := eI) (er_icmpge (off := 5) (tg := 10) (x_dk dn_186_0_ok 3 rfl) (by decide))))
  (e_Lok (e_st (I := eI) (er_iconst (n := 0) (z := 0) (v := 0) (x_dk dn_186_0_ok 4 rfl) (by decide) (by decide)))))))
  (e_Tok2
  (e_Tok2
  (e_Lok (e_rt (I := eI) (k := 1) ⟨(x_dk dn_186_0_ok 5 rfl), rfl⟩))
  (e_Lok (e_st (I := eI) (er_aload_n (i := 0) (x_dk dn_186_0_ok 6 rfl)))))
  (e_Tok2
  (e_Lok (e_st (I := eI) (er_dup (x_dk dn_186_0_ok 7 rfl))))
  (e_Tok2
  (e_Lok (e_st (I := eI) (er_getf (ci := 10) (k := 15) (ix := 63) (N := 21) (C := RX10) (T := TX10) rfl in_X10 (by decide) (in_t3 (List.mem_of_getElem? (i := 39) rfl) rfl) (x_dk dn_186_0_ok 8 rfl))))
  (e_Lok (e_st (I := eI) (er_iconst (n := 1) (z := 1) (v := 1) (x_dk dn_186_0_ok 9 rfl) (by decide) (by decide))))))))
  (e_Tok2
  (e_Tok2
  (e_Tok2
  (e_Lok (e_st (I := eI) (er_isub (x_dk dn_186_0_ok 10 rfl))))
  (e_Lok (e_st (I := eI) (er_putf (ci := 10) (k := 15) (ix := 63) (N := 21) (fk := 0) (C := RX10) (T := TX10) (ty0 := tyX10) (ty := .int) rfl in_X10 tyX10_ok nmX10 (by decide) (in_t3 (List.mem_of_getElem? (i := 39) rfl) rfl) rfl rfl x_fit_int (x_dk dn_186_0_ok 11 rfl)))))
  (e_Tok2
  (e_Lok (e_st (I := eI) (er_aload_n (i := 0) (x_dk dn_186_0_ok 12 rfl))))
  (e_Tok2
  (e_Lok (e_st (I := eI) (er_getf (ci := 10) (k := 19) (ix := 21) (N := 21) (C := RX10) (T := TX10) rfl in_X10 (by decide) (in_t3 (List.mem_of_getElem? (i := 43) rfl) rfl) (x_dk dn_186_0_ok 13 rfl))))
  (e_Lok (e_st (I := eI) (er_aload_n (i := 0) (x_dk dn_186_0_ok 14 rfl)))))))
  (e_Tok2
  (e_Tok2
  (e_Lok (e_st (I := eI) (er_getf (ci := 10) (k := 15) (ix := 63) (N := 21) (C := RX10) (T := TX10) rfl in_X10 (by decide) (in_t3 (List.mem_of_getElem? (i := 39) rfl) rfl) (x_dk dn_186_0_ok 15 rfl))))
  (e_Lok (e_st (I := eI) (er_iaload (x_dk dn_186_0_ok 16 rfl)))))
  (e_Tok2
  (e_Lok (e_st (I := eI) (er_iconst (n := 2) (z := 2) (v := 2) (x_dk dn_186_0_ok 17 rfl) (by decide) (by decide))))
  (e_Tok2
  (e_Lok (e_st (I := eI) (er_ishr (x_dk dn_186_0_ok 18 rfl))))
  (e_Lok (e_rt (I := eI) (k := 1) ⟨(x_dk dn_186_0_ok 19 rfl), rfl⟩)))))))
def te_186 : Nat → eE := te_186_0
theorem te_186_ok : ∀ pc, e_EOq eft cls elay eI n_186 pc (te_186 pc) := te_186_0_ok
def dn_187_0 : List (Nat × Instr × Nat) := [(0, .aload_n 0, 1), (1, .getfield 63, 3), (4, .sipush 600, 3), (7, .if_icmp .ge 15, 3), (10, .aload_n 0, 1), (11, .getfield 24, 3), (14, .aload_n 0, 1), (15, .getfield 63, 3), (18, .iaload, 1), (19, .goto 4, 3), (22, .iconst 0, 1), (23, .ireturn, 1)]
set_option maxRecDepth 20000 in
theorem dn_187_0_ok : dn_187_0.all (fun q => decide (decode prog_12_method_10_code q.1 = .ok (q.2.1, q.2.2))) = true := by decide +kernel
def te_187_0 : Nat → eE := (e_T 11 (e_T 4 (e_T 0 (e_L 0 (0, ei_load 0 2 1, 0, 0)) (e_T 1 (e_L 1 (0, ei_getf eft elay 10 15 4, 0, 0)) (e_L 4 (0, ei_push (0, 600) 7, 0, 0)))) (e_T 7 (e_L 7 (0, ei_if2 3 22 10, 0, 0)) (e_T 10 (e_L 10 (0, ei_load 0 2 11, 0, 0)) (e_L 11 (0, ei_getf eft elay 10 20 14, 0, 0))))) (e_T 18 (e_T 14 (e_L 14 (0, ei_load 0 2 15, 0, 0)) (e_T 15 (e_L 15 (0, ei_getf eft elay 10 15 18, 0, 0)) (e_L 18 (0, ei_ald elay false 19, 0, 0)))) (e_T 19 (e_L 19 (0, ei_goto 23, 0, 0)) (e_T 22 (e_L 22 (0, ei_push (0, 0) 23, 0, 0)) (e_L 23 (1, e_nof, 1, 0))))))
set_option maxRecDepth 20000 in
set_option maxHeartbeats 4000000 in
theorem te_187_0_ok : ∀ pc, e_EOq eft cls elay eI n_187 pc (te_187_0 pc) :=
  (e_Tok2
  (e_Tok2
  (e_Tok2
  (e_Lok (e_st (I := eI) (er_aload_n (i := 0) (x_dk dn_187_0_ok 0 rfl))))
  (e_Tok2
  (e_Lok (e_st (I := eI) (er_getf (ci := 10) (k := 15) (ix := 63) (N := 21) (C := RX10) (T := TX10) rfl in_X10 (by decide) (in_t3 (List.mem_of_getElem? (i := 39) rfl) rfl) (x_dk dn_187_0_ok 1 rfl))))
  (e_Lok (e_st (I := eI) (er_sipush (n := 600) (z := 600) (v := 600) (x_dk dn_187_0_ok 2 rfl) (by decide) (by decide))))))
  (e_Tok2
  (e_Lok (e_st (I := eI) (er_icmpge (off := 15) (tg := 22) (x_dk dn_187_0_ok 3 rfl) (by decide))))
  (e_Tok2
  (e_Lok (e_st (I := eI) (er_aload_n (i := 0) (x_dk dn_187_0_ok 4 rfl))))
  (e_Lok (e_st (I := eI) (er_getf (ci := 10) (k := 20) (ix := 24) (N := 21) (C := RX10) (T := TX10) rfl in_X10 (by decide) (in_t3 (List.mem_of_getElem? (i := 44) rfl) rfl) (x_dk dn_187_0_ok 5 rfl)))))))
  (e_Tok2
  (e_Tok2
  (e_Lok (e_st (I := eI) (er_aload_n (i := 0) (x_dk dn_187_0_ok 6 rfl))))
  (e_Tok2
  (e_Lok (e_st (I := eI) (er_getf (ci := 10) (k := 15) (ix := 63) (N := 21) (C := RX10) (T := TX10) rfl in_X10 (by decide) (in_t3 (List.mem_of_getElem? (i := 39) rfl) rfl) (x_dk dn_187_0_ok 7 rfl))))
  (e_Lok (e_st (I := eI) (er_iaload (x_dk dn_187_0_ok 8 rfl))))))
  (e_Tok2
  (e_Lok (e_st (I := eI) (er_goto (off := 4) (tg := 23) (x_dk dn_187_0_ok 9 rfl) (by decide))))
  (e_Tok2
  (e_Lok (e_st (I := eI) (er_iconst (n := 0) (z := 0) (v := 0) (x_dk dn_187_0_ok 10 rfl) (by decide) (by decide))))
  (e_Lok (e_rt (I := eI) (k := 1) ⟨(x_dk dn_187_0_ok 11 rfl), rfl⟩))))))
def te_187 : Nat → eE := te_187_0
theorem te_187_ok : ∀ pc, e_EOq eft cls elay eI n_187 pc (te_187 pc) := te_187_0_ok
def dn_188_0 : List (Nat × Instr × Nat) := [(0, .iload_n 2, 1), (1, .iconst 1, 1), (2, .if_icmp .eq 11, 3), (5, .aload_n 0, 1), (6, .getfield 38, 3), (9, .iconst 1, 1), (10, .if_icmp .ge 7, 3), (13, .iconst 0, 1), (14, .goto 14, 3), (17, .aload_n 0, 1), (18, .getfield 15, 3), (21, .aload_n 0, 1), (22, .getfield 38, 3), (25, .iconst 1, 1), (26, .isub, 1), (27, .iaload, 1), (28, .istore 4, 2), (30, .iload_n 2, 1), (31, .iconst 3, 1), (32, .if_icmp .ne 13, 3), (35, .iload 4, 2), (37, .aload_n 1, 1), (38, .iload_n 3, 1), (39, .invokevirtual 73, 3), (42, .iadd, 1), (43, .istore 4, 2), (45, .aload_n 0, 1), (46, .getfield 63, 3), (49, .iload 4, 2), (51, .if_icmp .le 133, 3), (54, .aload_n 0, 1), (55, .getfield 18, 3), (58, .aload_n 0, 1), (59, .getfield 63, 3), (62, .iconst 1, 1), (63, .isub, 1), (64, .iaload, 1), (65, .istore 5, 2), (67, .aload_n 0, 1), (68, .getfield 21, 3), (71, .aload_n 0, 1), (72, .getfield 63, 3), (75, .iconst 1, 1), (76, .isub, 1), (77, .iaload, 1), (78, .iconst 3, 1), (79, .iand, 1), (80, .istore 6, 2), (82, .iload_n 2, 1), (83, .iconst 1, 1), (84, .if_icmp .ne 39, 3), (87, .iload 6, 2), (89, .ifCond .ne 34, 3), (92, .aload_n 1, 1), (93, .iload 5, 2), (95, .iconst 1, 1), (96, .iadd, 1), (97, .invokevirtual 73, 3), (100, .ifCond .eq 23, 3), (103, .aload_n 0, 1), (104, .iload_n 3, 1), (105, .putfield 50, 3), (108, .aload_n 0, 1), (109, .iconst 1, 1), (110, .aload_n 1, 1), (111, .iload 5, 2), (113, .iconst 1, 1), (114, .iadd, 1), (115, .invokevirtual 73, 3), (118, .invokevirtual 79, 3), (121, .iconst 1, 1), (122, .ireturn, 1), (123, .iload 6, 2), (125, .iconst 2, 1), (126, .if_icmp .eq 45, 3), (129, .aload_n 1, 1), (130, .iload 5, 2), (132, .iconst 2, 1), (133, .iadd, 1), (134, .invokevirtual 73, 3), (137, .ifCond .eq 34, 3), (140, .aload_n 0, 1), (141, .getfield 24, 3), (144, .aload_n 0, 1), (145, .getfield 63, 3), (148, .iconst 1, 1), (149, .isub, 1), (150, .iload_n 3, 1), (151, .iastore, 1), (152, .aload_n 0, 1), (153, .iconst 2, 1), (154, .iload_n 2, 1), (155, .iconst 2, 1), (156, .ishl, 1), (157, .ior, 1), (158, .aload_n 1, 1), (159, .iload 5, 2), (161, .iconst 2, 1), (162, .iadd, 1), (163, .invokevirtual 73, 3)]
set_option maxRecDepth 20000 in
theorem dn_188_0_ok : dn_188_0.all (fun q => decide (decode prog_12_method_11_code q.1 = .ok (q.2.1, q.2.2))) = true := by decide +kernel
def dn_188_1 : List (Nat × Instr × Nat) := [(166, .invokevirtual 79, 3), (169, .iconst 1, 1), (170, .ireturn, 1), (171, .aload_n 0, 1), (172, .dup, 1), (173, .getfield 63, 3), (176, .iconst 1, 1), (177, .isub, 1), (178, .putfield 63, 3), (181, .goto (-136), 3), (184, .iload_n 2, 1), (185, .iconst 2, 1), (186, .if_icmp .ne 7, 3), (189, .aload_n 0, 1), (190, .invokevirtual 83, 3), (193, .iload_n 2, 1), (194, .iconst 3, 1), (195, .if_icmp .ne 14, 3), (198, .aload_n 0, 1), (199, .aload_n 1, 1), (200, .iload_n 3, 1), (201, .iconst 1, 1), (202, .iadd, 1), (203, .invokevirtual 73, 3), (206, .putfield 70, 3), (209, .iload_n 2, 1), (210, .iconst 1, 1), (211, .if_icmp .eq 7, 3), (214, .iconst 1, 1), (215, .goto 4, 3), (218, .iconst 0, 1), (219, .ireturn, 1)]
set_option maxRecDepth 20000 in
theorem dn_188_1_ok : dn_188_1.all (fun q => decide (decode prog_12_method_11_code q.1 = .ok (q.2.1, q.2.2))) = true := by decide +kernel
def te_188_0 : Nat → eE := (e_T 27 (e_T 13 (e_T 5 (e_T 1 (e_T 0 (e_L 0 (0, ei_load 2 0 1, 0, 0)) (e_L 1 (0, ei_push (0, 1) 2, 0, 0))) (e_T 2 (e_L 2 (0, ei_if2 0 13 5, 0, 0)) (e_L 5 (0, ei_load 0 2 6, 0, 0)))) (e_T 9 (e_T 6 (e_L 6 (0, ei_getf eft elay 10 4 9, 0, 0)) (e_L 9 (0, ei_push (0, 1) 10, 0, 0))) (e_T 10 (e_L 10 (0, ei_if2 3 17 13, 0, 0)) (e_L 13 (0, ei_push (0, 0) 14, 0, 0))))) (e_T 21 (e_T 17 (e_T 14 (e_L 14 (0, ei_goto 28, 0, 0)) (e_L 17 (0, ei_load 0 2 18, 0, 0))) (e_T 18 (e_L 18 (0, ei_getf eft elay 10 17 21, 0, 0)) (e_L 21 (0, ei_load 0 2 22, 0, 0)))) (e_T 25 (e_T 22 (e_L 22 (0, ei_getf eft elay 10 4 25, 0, 0)) (e_L 25 (0, ei_push (0, 1) 26, 0, 0))) (e_T 26 (e_L 26 (0, ei_bin eF_sub 27, 0, 0)) (e_L 27 (0, ei_ald elay false 28, 0, 0)))))) (e_T 39 (e_T 32 (e_T 30 (e_T 28 (e_L 28 (0, ei_stor 4 0 30, 0, 0)) (e_L 30 (0, ei_load 2 0 31, 0, 0))) (e_T 31 (e_L 31 (0, ei_push (0, 3) 32, 0, 0)) (e_L 32 (0, ei_if2 1 45 35, 0, 0)))) (e_T 37 (e_T 35 (e_L 35 (0, ei_load 4 0 37, 0, 0)) (e_L 37 (0, ei_load 1 2 38, 0, 0))) (e_T 38 (e_L 38 (0, ei_load 3 0 39, 0, 0)) (e_L 39 (2, e_nof, 24, 2))))) (e_T 46 (e_T 43 (e_T 42 (e_L 42 (0, ei_bin eF_add 43, 0, 0)) (e_L 43 (0, ei_stor 4 0 45, 0, 0))) (e_T 45 (e_L 45 (0, ei_load 0 2 46, 0, 0)) (e_L 46 (0, ei_getf eft elay 10 15 49, 0, 0)))) (e_T 51 (e_T 49 (e_L 49 (0, ei_load 4 0 51, 0, 0)) (e_L 51 (0, ei_if2 5 184 54, 0, 0))) (e_T 54 (e_L 54 (0, ei_load 0 2 55, 0, 0)) (e_T 55 (e_L 55 (0, ei_getf eft elay 10 18 58, 0, 0)) (e_L 58 (0, ei_load 0 2 59, 0, 0))))))))
set_option maxRecDepth 20000 in
set_option maxHeartbeats 4000000 in
theorem te_188_0_ok : ∀ pc, e_EOq eft cls elay eI n_188 pc (te_188_0 pc) :=
  (e_Tok2
  (e_Tok2
  (e_Tok2
  (e_Tok2
  (e_Tok2
  (e_Lok (e_st (I := eI) (er_iload_n (i := 2) (x_dk dn_188_0_ok 0 rfl))))
  (e_Lok (e_st (I := eI) (er_iconst (n := 1) (z := 1) (v := 1) (x_dk dn_188_0_ok 1 rfl) (by decide) (by decide)))))
  (e_Tok2
  (e_Lok (e_st (I := eI) (er_icmpeq (off := 11) (tg := 13) (x_dk dn_188_0_ok 2 rfl) (by decide))))
  (e_Lok (e_st (I := eI) (er_aload_n (i := 0) (x_dk dn_188_0_ok 3 rfl))))))
  (e_Tok2
  (e_Tok2
  (e_Lok (e_st (I := eI) (er_getf (ci := 10) (k := 4) (ix := 38) (N := 21) (C := RX10) (T := TX10) rfl in_X10 (by decide) (in_t3 (List.mem_of_getElem? (i := 19) rfl) rfl) (x_dk dn_188_0_ok 4 rfl))))
  (e_Lok (e_st (I := eI) (er_iconst (n := 1) (z := 1) (v := 1) (x_dk dn_188_0_ok 5 rfl) (by decide) (by decide)))))
  (e_Tok2
  (e_Lok (e_st (I := eI) (er_icmpge (off := 7) (tg := 17) (x_dk dn_188_0_ok 6 rfl) (by decide))))
  (e_Lok (e_st (I := eI) (er_iconst (n := 0) (z := 0) (v := 0) (x_dk dn_188_0_ok 7 rfl) (by decide) (by decide)))))))
  (e_Tok2
  (e_Tok2
  (e_Tok2
  (e_Lok (e_st (I := eI) (er_goto (off := 14) (tg := 28) (x_dk dn_188_0_ok 8 rfl) (by decide))))
  (e_Lok (e_st (I := eI) (er_aload_n (i := 0) (x_dk dn_188_0_ok 9 rfl)))))
  (e_Tok2
  (e_Lok (e_st (I := eI) (er_getf (ci := 10) (k := 17) (ix := 15) (N := 21) (C := RX10) (T := TX10) rfl in_X10 (by decide) (in_t3 (List.mem_of_getElem? (i := 41) rfl) rfl) (x_dk dn_188_0_ok 10 rfl))))
  (e_Lok (e_st (I := eI) (er_aload_n (i := 0) (x_dk dn_188_0_ok 11 rfl))))))
  (e_Tok2
  (e_Tok2
  (e_Lok (e_st (I := eI) (er_getf (ci := 10) (k := 4) (ix := 38) (N := 21) (C := RX10) (T := TX10) rfl in_X10 (by decide) (in_t3 (List.mem_of_getElem? (i := 19) rfl) rfl) (x_dk dn_188_0_ok 12 rfl))))
  (e_Lok (e_st (I := eI) (er_iconst (n := 1) (z := 1) (v := 1) (x_dk dn_188_0_ok 13 rfl) (by decide) (by decide)))))
  (e_Tok2
  (e_Lok (e_st (I := eI) (er_isub (x_dk dn_188_0_ok 14 rfl))))
  (e_Lok (e_st (I := eI) (er_iaload (x_dk dn_188_0_ok 15 rfl))))))))
  (e_Tok2
  (e_Tok2
  (e_Tok2
  (e_Tok2
  (e_Lok (e_st (I := eI) (er_istore (i := 4) (x_dk dn_188_0_ok 16 rfl) (by decide +kernel))))
  (e_Lok (e_st (I := eI) (er_iload_n (i := 2) (x_dk dn_188_0_ok 17 rfl)))))
  (e_Tok2
  (e_Lok (e_st (I := eI) (er_iconst (n := 3) (z := 3) (v := 3) (x_dk dn_188_0_ok 18 rfl) (by decide) (by decide))))
  (e_Lok (e_st (I := eI) (er_icmpne (off := 13) (tg := 45) (x_dk dn_188_0_ok 19 rfl) (by decide))))))
  (e_Tok2
  (e_Tok2
  (e_Lok (e_st (I := eI) (er_iload (i := 4) (x_dk dn_188_0_ok 20 rfl))))
  (e_Lok (e_st (I := eI) (er_aload_n (i := 1) (x_dk dn_188_0_ok 21 rfl)))))
  (e_Tok2
  (e_Lok (e_st (I := eI) (er_iload_n (i := 3) (x_dk dn_188_0_ok 22 rfl))))
  (e_Lok (e_ca (I := eI) (q' := n_24) rfl (xr_callV (q' := n_24) (ix := 73) (n := 1) (in_t6 (List.mem_of_getElem? (i := 158) rfl) rfl) good_w (in_t1 (List.mem_of_getElem? (i := 3) rfl) rfl) (in_t7 (List.mem_of_getElem? (i := 87) rfl) rfl) (in_t6 (List.mem_of_getElem? (i := 156) rfl) rfl) (in_t6 (List.mem_of_getElem? (i := 157) rfl) rfl) (by decide +kernel) (by decide +kernel) (by decide +kernel) (x_dk dn_188_0_ok 23 rfl)))))))
  (e_Tok2
  (e_Tok2
  (e_Tok2
  (e_Lok (e_st (I := eI) (er_iadd (x_dk dn_188_0_ok 24 rfl))))
  (e_Lok (e_st (I := eI) (er_istore (i := 4) (x_dk dn_188_0_ok 25 rfl) (by decide +kernel)))))
  (e_Tok2
  (e_Lok (e_st (I := eI) (er_aload_n (i := 0) (x_dk dn_188_0_ok 26 rfl))))
  (e_Lok (e_st (I := eI) (er_getf (ci := 10) (k := 15) (ix := 63) (N := 21) (C := RX10) (T := TX10) rfl in_X10 (by decide) (in_t3 (List.mem_of_getElem? (i := 39) rfl) rfl) (x_dk dn_188_0_ok 27 rfl))))))
  (e_Tok2
  (e_Tok2
  (e_Lok (e_st (I := eI) (er_iload (i := 4) (x_dk dn_188_0_ok 28 rfl))))
  (e_Lok (e_st (I := eI) (er_icmple (off := 133) (tg := 184) (x_dk dn_188_0_ok 29 rfl) (by decide)))))
  (e_Tok2
  (e_Lok (e_st (I := eI) (er_aload_n (i := 0) (x_dk dn_188_0_ok 30 rfl))))
  (e_Tok2
  (e_Lok (e_st (I := eI) (er_getf (ci := 10) (k := 18) (ix := 18) (N := 21) (C := RX10) (T := TX10) rfl in_X10 (by decide) (in_t3 (List.mem_of_getElem? (i := 42) rfl) rfl) (x_dk dn_188_0_ok 31 rfl))))
  (e_Lok (e_st (I := eI) (er_aload_n (i := 0) (x_dk dn_188_0_ok 32 rfl))))))))))
def te_188_33 : Nat → eE := (e_T 82 (e_T 71 (e_T 64 (e_T 62 (e_T 59 (e_L 59 (0, ei_getf eft elay 10 15 62, 0, 0)) (e_L 62 (0, ei_push (0, 1) 63, 0, 0))) (e_T 63 (e_L 63 (0, ei_bin eF_sub 64, 0, 0)) (e_L 64 (0, ei_ald elay false 65, 0, 0)))) (e_T 67 (e_T 65 (e_L 65 (0, ei_stor 5 0 67, 0, 0)) (e_L 67 (0, ei_load 0 2 68, 0, 0))) (e_T 68 (e_L 68 (0, ei_getf eft elay 10 19 71, 0, 0)) (e_L 71 (0, ei_load 0 2 72, 0, 0))))) (e_T 77 (e_T 75 (e_T 72 (e_L 72 (0, ei_getf eft elay 10 15 75, 0, 0)) (e_L 75 (0, ei_push (0, 1) 76, 0, 0))) (e_T 76 (e_L 76 (0, ei_bin eF_sub 77, 0, 0)) (e_L 77 (0, ei_ald elay false 78, 0, 0)))) (e_T 79 (e_T 78 (e_L 78 (0, ei_push (0, 3) 79, 0, 0)) (e_L 79 (0, ei_bin (eB (fun x y => x &&& y)) 80, 0, 0))) (e_T 80 (e_L 80 (0, ei_stor 6 0 82, 0, 0)) (e_L 82 (0, ei_load 2 0 83, 0, 0)))))) (e_T 96 (e_T 89 (e_T 84 (e_T 83 (e_L 83 (0, ei_push (0, 1) 84, 0, 0)) (e_L 84 (0, ei_if2 1 123 87, 0, 0))) (e_T 87 (e_L 87 (0, ei_load 6 0 89, 0, 0)) (e_L 89 (0, ei_if1 1 123 92, 0, 0)))) (e_T 93 (e_T 92 (e_L 92 (0, ei_load 1 2 93, 0, 0)) (e_L 93 (0, ei_load 5 0 95, 0, 0))) (e_T 95 (e_L 95 (0, ei_push (0, 1) 96, 0, 0)) (e_L 96 (0, ei_bin eF_add 97, 0, 0))))) (e_T 104 (e_T 100 (e_T 97 (e_L 97 (2, e_nof, 24, 2)) (e_L 100 (0, ei_if1 0 123 103, 0, 0))) (e_T 103 (e_L 103 (0, ei_load 0 2 104, 0, 0)) (e_L 104 (0, ei_load 3 0 105, 0, 0)))) (e_T 108 (e_T 105 (e_L 105 (0, ei_putf eft elay 10 6 0 108, 0, 0)) (e_L 108 (0, ei_load 0 2 109, 0, 0))) (e_T 109 (e_L 109 (0, ei_push (0, 1) 110, 0, 0)) (e_T 110 (e_L 110 (0, ei_load 1 2 111, 0, 0)) (e_L 111 (0, ei_load 5 0 113, 0, 0))))))))
set_option maxRecDepth 20000 in
set_option maxHeartbeats 4000000 in
theorem te_188_33_ok : ∀ pc, e_EOq eft cls elay eI n_188 pc (te_188_33 pc) :=
  (e_Tok2
  (e_Tok2
  (e_Tok2
  (e_Tok2
  (e_Tok2
  (e_Lok (e_st (I := eI) (er_getf (ci := 10) (k := 15) (ix := 63) (N := 21) (C := RX10) (T := TX10) rfl in_X10 (by decide) (in_t3 (List.mem_of_getElem? (i := 39) rfl) rfl) (x_dk dn_188_0_ok 33 rfl))))
  (e_Lok (e_st (I := eI) (er_iconst (n := 1) (z := 1) (v := 1) (x_dk dn_188_0_ok 34 rfl) (by decide) (by decide)))))
  (e_Tok2
  (e_Lok (e_st (I := eI) (er_isub (x_dk dn_188_0_ok 35 rfl))))
  (e_Lok (e_st (I := eI) (er_iaload (x_dk dn_188_0_ok 36 rfl))))))
  (e_Tok2
  (e_Tok2
  (e_Lok (e_st (I := eI) (er_istore (i := 5) (x_dk dn_188_0_ok 37 rfl) (by decide +kernel))))
  (e_Lok (e_st (I := eI) (er_aload_n (i := 0) (x_dk dn_188_0_ok 38 rfl)))))
  (e_Tok2
  (e_Lok (e_st (I := eI) (er_getf (ci := 10) (k := 19) (ix := 21) (N := 21) (C := RX10) (T := TX10) rfl in_X10 (by decide) (in_t3 (List.mem_of_getElem? (i := 43) rfl) rfl) (x_dk dn_188_0_ok 39 rfl))))
  (e_Lok (e_st (I := eI) (er_aload_n (i := 0) (x_dk dn_188_0_ok 40 rfl)))))))
  (e_Tok2
  (e_Tok2
  (e_Tok2
  (e_Lok (e_st (I := eI) (er_getf (ci := 10) (k := 15) (ix := 63) (N := 21) (C := RX10) (T := TX10) rfl in_X10 (by decide) (in_t3 (List.mem_of_getElem? (i := 39) rfl) rfl) (x_dk dn_188_0_ok 41 rfl))))
  (e_Lok (e_st (I := eI) (er_iconst (n := 1) (z := 1) (v := 1) (x_dk dn_188_0_ok 42 rfl) (by decide) (by decide)))))
  (e_Tok2
  (e_Lok (e_st (I := eI) (er_isub (x_dk dn_188_0_ok 43 rfl))))
  (e_Lok (e_st (I := eI) (er_iaload (x_dk dn_188_0_ok 44 rfl))))))
  (e_Tok2
  (e_Tok2
  (e_Lok (e_st (I := eI) (er_iconst (n := 3) (z := 3) (v := 3) (x_dk dn_188_0_ok 45 rfl) (by decide) (by decide))))
  (e_Lok (e_st (I := eI) (er_iand (x_dk dn_188_0_ok 46 rfl)))))
  (e_Tok2
  (e_Lok (e_st (I := eI) (er_istore (i := 6) (x_dk dn_188_0_ok 47 rfl) (by decide +kernel))))
  (e_Lok (e_st (I := eI) (er_iload_n (i := 2) (x_dk dn_188_0_ok 48 rfl))))))))
  (e_Tok2
  (e_Tok2
  (e_Tok2
  (e_Tok2
  (e_Lok (e_st (I := eI) (er_iconst (n := 1) (z := 1) (v := 1) (x_dk dn_188_0_ok 49 rfl) (by decide) (by decide))))
  (e_Lok (e_st (I := eI) (er_icmpne (off := 39) (tg := 123) (x_dk dn_188_0_ok 50 rfl) (by decide)))))
  (e_Tok2
  (e_Lok (e_st (I := eI) (er_iload (i := 6) (x_dk dn_188_0_ok 51 rfl))))
  (e_Lok (e_st (I := eI) (er_ifne (off := 34) (tg := 123) (x_dk dn_188_0_ok 52 rfl) (by decide))))))
  (e_Tok2
  (e_Tok2
  (e_Lok (e_st (I := eI) (er_aload_n (i := 1) (x_dk dn_188_0_ok 53 rfl))))
  (e_Lok (e_st (I := eI) (er_iload (i := 5) (x_dk dn_188_0_ok 54 rfl)))))
  (e_Tok2
  (e_Lok (e_st (I := eI) (er_iconst (n := 1) (z := 1) (v := 1) (x_dk dn_188_0_ok 55 rfl) (by decide) (by decide))))
  (e_Lok (e_st (I := eI) (er_iadd (x_dk dn_188_0_ok 56 rfl)))))))
  (e_Tok2
  (e_Tok2
  (e_Tok2
  (e_Lok (e_ca (I := eI) (q' := n_24) rfl (xr_callV (q' := n_24) (ix := 73) (n := 1) (in_t6 (List.mem_of_getElem? (i := 158) rfl) rfl) good_w (in_t1 (List.mem_of_getElem? (i := 3) rfl) rfl) (in_t7 (List.mem_of_getElem? (i := 87) rfl) rfl) (in_t6 (List.mem_of_getElem? (i := 156) rfl) rfl) (in_t6 (List.mem_of_getElem? (i := 157) rfl) rfl) (by decide +kernel) (by decide +kernel) (by decide +kernel) (x_dk dn_188_0_ok 57 rfl))))
  (e_Lok (e_st (I := eI) (er_ifeq (off := 23) (tg := 123) (x_dk dn_188_0_ok 58 rfl) (by decide)))))
  (e_Tok2
  (e_Lok (e_st (I := eI) (er_aload_n (i := 0) (x_dk dn_188_0_ok 59 rfl))))
  (e_Lok (e_st (I := eI) (er_iload_n (i := 3) (x_dk dn_188_0_ok 60 rfl))))))
  (e_Tok2
  (e_Tok2
  (e_Lok (e_st (I := eI) (er_putf (ci := 10) (k := 6) (ix := 50) (N := 21) (fk := 0) (C := RX10) (T := TX10) (ty0 := tyX10) (ty := .int) rfl in_X10 tyX10_ok nmX10 (by decide) (in_t3 (List.mem_of_getElem? (i := 25) rfl) rfl) rfl rfl x_fit_int (x_dk dn_188_0_ok 61 rfl))))
  (e_Lok (e_st (I := eI) (er_aload_n (i := 0) (x_dk dn_188_0_ok 62 rfl)))))
  (e_Tok2
  (e_Lok (e_st (I := eI) (er_iconst (n := 1) (z := 1) (v := 1) (x_dk dn_188_0_ok 63 rfl) (by decide) (by decide))))
  (e_Tok2
  (e_Lok (e_st (I := eI) (er_aload_n (i := 1) (x_dk dn_188_0_ok 64 rfl))))
  (e_Lok (e_st (I := eI) (er_iload (i := 5) (x_dk dn_188_0_ok 65 rfl))))))))))
def te_188_66 : Nat → eE := (e_T 140 (e_T 125 (e_T 118 (e_T 114 (e_T 113 (e_L 113 (0, ei_push (0, 1) 114, 0, 0)) (e_L 114 (0, ei_bin eF_add 115, 0, 0))) (e_T 115 (e_L 115 (2, e_nof, 24, 2)) (e_L 118 (2, e_nof, 189, 3)))) (e_T 122 (e_T 121 (e_L 121 (0, ei_push (0, 1) 122, 0, 0)) (e_L 122 (1, e_nof, 4, 0))) (e_T 123 (e_L 123 (0, ei_load 6 0 125, 0, 0)) (e_L 125 (0, ei_push (0, 2) 126, 0, 0))))) (e_T 132 (e_T 129 (e_T 126 (e_L 126 (0, ei_if2 0 171 129, 0, 0)) (e_L 129 (0, ei_load 1 2 130, 0, 0))) (e_T 130 (e_L 130 (0, ei_load 5 0 132, 0, 0)) (e_L 132 (0, ei_push (0, 2) 133, 0, 0)))) (e_T 134 (e_T 133 (e_L 133 (0, ei_bin eF_add 134, 0, 0)) (e_L 134 (2, e_nof, 24, 2))) (e_T 137 (e_L 137 (0, ei_if1 0 171 140, 0, 0)) (e_L 140 (0, ei_load 0 2 141, 0, 0)))))) (e_T 152 (e_T 148 (e_T 144 (e_T 141 (e_L 141 (0, ei_getf eft elay 10 20 144, 0, 0)) (e_L 144 (0, ei_load 0 2 145, 0, 0))) (e_T 145 (e_L 145 (0, ei_getf eft elay 10 15 148, 0, 0)) (e_L 148 (0, ei_push (0, 1) 149, 0, 0)))) (e_T 150 (e_T 149 (e_L 149 (0, ei_bin eF_sub 150, 0, 0)) (e_L 150 (0, ei_load 3 0 151, 0, 0))) (e_T 151 (e_L 151 (0, ei_ast elay false 152, 0, 0)) (e_L 152 (0, ei_load 0 2 153, 0, 0))))) (e_T 156 (e_T 154 (e_T 153 (e_L 153 (0, ei_push (0, 2) 154, 0, 0)) (e_L 154 (0, ei_load 2 0 155, 0, 0))) (e_T 155 (e_L 155 (0, ei_push (0, 2) 156, 0, 0)) (e_L 156 (0, ei_bin (eB (fun x y => x <<< (y &&& 31))) 157, 0, 0)))) (e_T 158 (e_T 157 (e_L 157 (0, ei_bin (eB (fun x y => x ||| y)) 158, 0, 0)) (e_L 158 (0, ei_load 1 2 159, 0, 0))) (e_T 159 (e_L 159 (0, ei_load 5 0 161, 0, 0)) (e_T 161 (e_L 161 (0, ei_push (0, 2) 162, 0, 0)) (e_L 162 (0, ei_bin eF_add 163, 0, 0))))))))
set_option maxRecDepth 20000 in
set_option maxHeartbeats 4000000 in
theorem te_188_66_ok : ∀ pc, e_EOq eft cls elay eI n_188 pc (te_188_66 pc) :=
  (e_Tok2
  (e_Tok2
  (e_Tok2
  (e_Tok2
  (e_Tok2
  (e_Lok (e_st (I := eI) (er_iconst (n := 1) (z := 1) (v := 1) (x_dk dn_188_0_ok 66 rfl) (by decide) (by decide))))
  (e_Lok (e_st (I := eI) (er_iadd (x_dk dn_188_0_ok 67 rfl)))))
  (e_Tok2
  (e_Lok (e_ca (I := eI) (q' := n_24) rfl (xr_callV (q' := n_24) (ix := 73) (n := 1) (in_t6 (List.mem_of_getElem? (i := 158) rfl) rfl) good_w (in_t1 (List.mem_of_getElem? (i := 3) rfl) rfl) (in_t7 (List.mem_of_getElem? (i := 87) rfl) rfl) (in_t6 (List.mem_of_getElem? (i := 156) rfl) rfl) (in_t6 (List.mem_of_getElem? (i := 157) rfl) rfl) (by decide +kernel) (by decide +kernel) (by decide +kernel) (x_dk dn_188_0_ok 68 rfl))))
  (e_Lok (e_ca (I := eI) (q' := n_189) rfl (xr_callV (q' := n_189) (ix := 79) (n := 2) (in_t7 (List.mem_of_getElem? (i := 91) rfl) rfl) good_w (in_t1 (List.mem_of_getElem? (i := 10) rfl) rfl) (in_t7 (List.mem_of_getElem? (i := 88) rfl) rfl) (in_t7 (List.mem_of_getElem? (i := 90) rfl) rfl) (in_s5 (List.mem_of_getElem? (i := 4) rfl)) (by decide +kernel) (by decide +kernel) (by decide +kernel) (x_dk dn_188_0_ok 69 rfl))))))
  (e_Tok2
  (e_Tok2
  (e_Lok (e_st (I := eI) (er_iconst (n := 1) (z := 1) (v := 1) (x_dk dn_188_0_ok 70 rfl) (by decide) (by decide))))
  (e_Lok (e_rt (I := eI) (k := 4) ⟨(x_dk dn_188_0_ok 71 rfl), rfl⟩)))
  (e_Tok2
  (e_Lok (e_st (I := eI) (er_iload (i := 6) (x_dk dn_188_0_ok 72 rfl))))
  (e_Lok (e_st (I := eI) (er_iconst (n := 2) (z := 2) (v := 2) (x_dk dn_188_0_ok 73 rfl) (by decide) (by decide)))))))
  (e_Tok2
  (e_Tok2
  (e_Tok2
  (e_Lok (e_st (I := eI) (er_icmpeq (off := 45) (tg := 171) (x_dk dn_188_0_ok 74 rfl) (by decide))))
  (e_Lok (e_st (I := eI) (er_aload_n (i := 1) (x_dk dn_188_0_ok 75 rfl)))))
  (e_Tok2
  (e_Lok (e_st (I := eI) (er_iload (i := 5) (x_dk dn_188_0_ok 76 rfl))))
  (e_Lok (e_st (I := eI) (er_iconst (n := 2) (z := 2) (v := 2) (x_dk dn_188_0_ok 77 rfl) (by decide) (by decide))))))
  (e_Tok2
  (e_Tok2
  (e_Lok (e_st (I := eI) (er_iadd (x_dk dn_188_0_ok 78 rfl))))
  (e_Lok (e_ca (I := eI) (q' := n_24) rfl (xr_callV (q' := n_24) (ix := 73) (n := 1) (in_t6 (List.mem_of_getElem? (i := 158) rfl) rfl) good_w (in_t1 (List.mem_of_getElem? (i := 3) rfl) rfl) (in_t7 (List.mem_of_getElem? (i := 87) rfl) rfl) (in_t6 (List.mem_of_getElem? (i := 156) rfl) rfl) (in_t6 (List.mem_of_getElem? (i := 157) rfl) rfl) (by decide +kernel) (by decide +kernel) (by decide +kernel) (x_dk dn_188_0_ok 79 rfl)))))
  (e_Tok2
  (e_Lok (e_st (I := eI) (er_ifeq (off := 34) (tg := 171) (x_dk dn_188_0_ok 80 rfl) (by decide))))
  (e_Lok (e_st (I := eI) (er_aload_n (i := 0) (x_dk dn_188_0_ok 81 rfl))))))))
  (e_Tok2
  (e_Tok2
  (e_Tok2
  (e_Tok2
  (e_Lok (e_st (I := eI) (er_getf (ci := 10) (k := 20) (ix := 24) (N := 21) (C := RX10) (T := TX10) rfl in_X10 (by decide) (in_t3 (List.mem_of_getElem? (i := 44) rfl) rfl) (x_dk dn_188_0_ok 82 rfl))))
  (e_Lok (e_st (I := eI) (er_aload_n (i := 0) (x_dk dn_188_0_ok 83 rfl)))))
  (e_Tok2
  (e_Lok (e_st (I := eI) (er_getf (ci := 10) (k := 15) (ix := 63) (N := 21) (C := RX10) (T := TX10) rfl in_X10 (by decide) (in_t3 (List.mem_of_getElem? (i := 39) rfl) rfl) (x_dk dn_188_0_ok 84 rfl))))
  (e_Lok (e_st (I := eI) (er_iconst (n := 1) (z := 1) (v := 1) (x_dk dn_188_0_ok 85 rfl) (by decide) (by decide))))))
  (e_Tok2
  (e_Tok2
  (e_Lok (e_st (I := eI) (er_isub (x_dk dn_188_0_ok 86 rfl))))
  (e_Lok (e_st (I := eI) (er_iload_n (i := 3) (x_dk dn_188_0_ok 87 rfl)))))
  (e_Tok2
  (e_Lok (e_st (I := eI) (er_iastore (x_dk dn_188_0_ok 88 rfl))))
  (e_Lok (e_st (I := eI) (er_aload_n (i := 0) (x_dk dn_188_0_ok 89 rfl)))))))
  (e_Tok2
  (e_Tok2
  (e_Tok2
  (e_Lok (e_st (I := eI) (er_iconst (n := 2) (z := 2) (v := 2) (x_dk dn_188_0_ok 90 rfl) (by decide) (by decide))))
  (e_Lok (e_st (I := eI) (er_iload_n (i := 2) (x_dk dn_188_0_ok 91 rfl)))))
  (e_Tok2
  (e_Lok (e_st (I := eI) (er_iconst (n := 2) (z := 2) (v := 2) (x_dk dn_188_0_ok 92 rfl) (by decide) (by decide))))
  (e_Lok (e_st (I := eI) (er_ishl (x_dk dn_188_0_ok 93 rfl))))))
  (e_Tok2
  (e_Tok2
  (e_Lok (e_st (I := eI) (er_ior (x_dk dn_188_0_ok 94 rfl))))
  (e_Lok (e_st (I := eI) (er_aload_n (i := 1) (x_dk dn_188_0_ok 95 rfl)))))
  (e_Tok2
  (e_Lok (e_st (I := eI) (er_iload (i := 5) (x_dk dn_188_0_ok 96 rfl))))
  (e_Tok2
  (e_Lok (e_st (I := eI) (er_iconst (n := 2) (z := 2) (v := 2) (x_dk dn_188_0_ok 97 rfl) (by decide) (by decide))))
  (e_Lok (e_st (I := eI) (er_iadd (x_dk dn_188_0_ok 98 rfl))))))))))
def te_188_99 : Nat → eE := (e_T 190 (e_T 176 (e_T 170 (e_T 166 (e_T 163 (e_L 163 (2, e_nof, 24, 2)) (e_L 166 (2, e_nof, 189, 3))) (e_T 169 (e_L 169 (0, ei_push (0, 1) 170, 0, 0)) (e_L 170 (1, e_nof, 4, 0)))) (e_T 172 (e_T 171 (e_L 171 (0, ei_load 0 2 172, 0, 0)) (e_L 172 (0, ei_stk ef_dup 173, 0, 0))) (e_T 173 (e_L 173 (0, ei_getf eft elay 10 15 176, 0, 0)) (e_L 176 (0, ei_push (0, 1) 177, 0, 0))))) (e_T 184 (e_T 178 (e_T 177 (e_L 177 (0, ei_bin eF_sub 178, 0, 0)) (e_L 178 (0, ei_putf eft elay 10 15 0 181, 0, 0))) (e_T 181 (e_L 181 (0, ei_goto 45, 0, 0)) (e_L 184 (0, ei_load 2 0 185, 0, 0)))) (e_T 186 (e_T 185 (e_L 185 (0, ei_push (0, 2) 186, 0, 0)) (e_L 186 (0, ei_if2 1 193 189, 0, 0))) (e_T 189 (e_L 189 (0, ei_load 0 2 190, 0, 0)) (e_L 190 (2, e_nof, 183, 1)))))) (e_T 202 (e_T 198 (e_T 194 (e_T 193 (e_L 193 (0, ei_load 2 0 194, 0, 0)) (e_L 194 (0, ei_push (0, 3) 195, 0, 0))) (e_T 195 (e_L 195 (0, ei_if2 1 209 198, 0, 0)) (e_L 198 (0, ei_load 0 2 199, 0, 0)))) (e_T 200 (e_T 199 (e_L 199 (0, ei_load 1 2 200, 0, 0)) (e_L 200 (0, ei_load 3 0 201, 0, 0))) (e_T 201 (e_L 201 (0, ei_push (0, 1) 202, 0, 0)) (e_L 202 (0, ei_bin eF_add 203, 0, 0))))) (e_T 210 (e_T 206 (e_T 203 (e_L 203 (2, e_nof, 24, 2)) (e_L 206 (0, ei_putf eft elay 10 3 0 209, 0, 0))) (e_T 209 (e_L 209 (0, ei_load 2 0 210, 0, 0)) (e_L 210 (0, ei_push (0, 1) 211, 0, 0)))) (e_T 214 (e_T 211 (e_L 211 (0, ei_if2 0 218 214, 0, 0)) (e_L 214 (0, ei_push (0, 1) 215, 0, 0))) (e_T 215 (e_L 215 (0, ei_goto 219, 0, 0)) (e_T 218 (e_L 218 (0, ei_push (0, 0) 219, 0, 0)) (e_L 219 (1, e_nof, 4, 0))))))))
set_option maxRecDepth 20000 in
set_option maxHeartbeats 4000000 in
theorem te_188_99_ok : ∀ pc, e_EOq eft cls elay eI n_188 pc (te_188_99 pc) :=
  (e_Tok2
  (e_Tok2
  (e_Tok2
  (e_Tok2
  (e_Tok2
  (e_Lok (e_ca (I := eI) (q' := n_24) rfl (xr_callV (q' := n_24) (ix := 73) (n := 1) (in_t6 (List.mem_of_getElem? (i := 158) rfl) rfl) good_w (in_t1 (List.mem_of_getElem? (i := 3) rfl) rfl) (in_t7 (List.mem_of_getElem? (i := 87) rfl) rfl) (in_t6 (List.mem_of_getElem? (i := 156) rfl) rfl) (in_t6 (List.mem_of_getElem? (i := 157) rfl) rfl) (by decide +kernel) (by decide +kernel) (by decide +kernel) (x_dk dn_188_0_ok 99 rfl))))
  (e_Lok (e_ca (I := eI) (q' := n_189) rfl (xr_callV (q' := n_189) (ix := 79) (n := 2) (in_t7 (List.mem_of_getElem? (i := 91) rfl) rfl) good_w (in_t1 (List.mem_of_getElem? (i := 10) rfl) rfl) (in_t7 (List.mem_of_getElem? (i := 88) rfl) rfl) (in_t7 (List.mem_of_getElem? (i := 90) rfl) rfl) (in_s5 (List.mem_of_getElem? (i := 4) rfl)) (by decide +kernel) (by decide +kernel) (by decide +kernel) (x_dk dn_188_1_ok 0 rfl)))))
  (e_Tok2
  (e_Lok (e_st (I := eI) (er_iconst (n := 1) (z := 1) (v := 1) (x_dk dn_188_1_ok 1 rfl) (by decide) (by decide))))
  (e_Lok (e_rt (I := eI) (k := 4) ⟨(x_dk dn_188_1_ok 2 rfl), rfl⟩))))
  (e_Tok2
  (e_Tok2
  (e_Lok (e_st (I := eI) (er_aload_n (i := 0) (x_dk dn_188_1_ok 3 rfl))))
  (e_Lok (e_st (I := eI) (er_dup (x_dk dn_188_1_ok 4 rfl)))))
  (e_Tok2
  (e_Lok (e_st (I := eI) (er_getf (ci := 10) (k := 15) (ix := 63) (N := 21) (C := RX10) (T := TX10) rfl in_X10 (by decide) (in_t3 (List.mem_of_getElem? (i := 39) rfl) rfl) (x_dk dn_188_1_ok 5 rfl))))
  (e_Lok (e_st (I := eI) (er_iconst (n := 1) (z := 1) (v := 1) (x_dk dn_188_1_ok 6 rfl) (by decide) (by decide)))))))
  (e_Tok2
  (e_Tok2
  (e_Tok2
  (e_Lok (e_st (I := eI) (er_isub (x_dk dn_188_1_ok 7 rfl))))
  (e_Lok (e_st (I := eI) (er_putf (ci := 10) (k := 15) (ix := 63) (N := 21) (fk := 0) (C := RX10) (T := TX10) (ty0 := tyX10) (ty := .int) rfl in_X10 tyX10_ok nmX10 (by decide) (in_t3 (List.mem_of_getElem? (i := 39) rfl) rfl) rfl rfl x_fit_int (x_dk dn_188_1_ok 8 rfl)))))
  (e_Tok2
  (e_Lok (e_st (I := eI) (er_goto (off := (-136)) (tg := 45) (x_dk dn_188_1_ok 9 rfl) (by decide))))
  (e_Lok (e_st (I := eI) (er_iload_n (i := 2) (x_dk dn_188_1_ok 10 rfl))))))
  (e_Tok2
  (e_Tok2
  (e_Lok (e_st (I := eI) (er_iconst (n := 2) (z := 2) (v := 2) (x_dk dn_188_1_ok 11 rfl) (by decide) (by decide))))
  (e_Lok (e_st (I := eI) (er_icmpne (off := 7) (tg := 193) (x_dk dn_188_1_ok 12 rfl) (by decide)))))
  (e_Tok2
  (e_Lok (e_st (I := eI) (er_aload_n (i := 0) (x_dk dn_188_1_ok 13 rfl))))
  (e_Lok (e_ca (I := eI) (q' := n_183) rfl (xr_callV (q' := n_183) (ix := 83) (n := 0) (in_t7 (List.mem_of_getElem? (i := 95) rfl) rfl) good_w (in_t1 (List.mem_of_getElem? (i := 10) rfl) rfl) (in_t7 (List.mem_of_getElem? (i := 92) rfl) rfl) (in_t7 (List.mem_of_getElem? (i := 93) rfl) rfl) (in_t7 (List.mem_of_getElem? (i := 94) rfl) rfl) (by decide +kernel) (by decide +kernel) (by decide +kernel) (x_dk dn_188_1_ok 14 rfl))))))))
  (e_Tok2
  (e_Tok2
  (e_Tok2
  (e_Tok2
  (e_Lok (e_st (I := eI) (er_iload_n (i := 2) (x_dk dn_188_1_ok 15 rfl))))
  (e_Lok (e_st (I := eI) (er_iconst (n := 3) (z := 3) (v := 3) (x_dk dn_188_1_ok 16 rfl) (by decide) (by decide)))))
  (e_Tok2
  (e_Lok (e_st (I := eI) (er_icmpne (off := 14) (tg := 209) (x_dk dn_188_1_ok 17 rfl) (by decide))))
  (e_Lok (e_st (I := eI) (er_aload_n (i := 0) (x_dk dn_188_1_ok 18 rfl))))))
  (e_Tok2
  (e_Tok2
  (e_Lok (e_st (I := eI) (er_aload_n (i := 1) (x_dk dn_188_1_ok 19 rfl))))
  (e_Lok (e_st (I := eI) (er_iload_n (i := 3) (x_dk dn_188_1_ok 20 rfl)))))
  (e_Tok2
  (e_Lok (e_st (I := eI) (er_iconst (n := 1) (z := 1) (v := 1) (x_dk dn_188_1_ok 21 rfl) (by decide) (by decide))))
  (e_Lok (e_st (I := eI) (er_iadd (x_dk dn_188_1_ok 22 rfl)))))))
  (e_Tok2
  (e_Tok2
  (e_Tok2
  (e_Lok (e_ca (I := eI) (q' := n_24) rfl (xr_callV (q' := n_24) (ix := 73) (n := 1) (in_t6 (List.mem_of_getElem? (i := 158) rfl) rfl) good_w (in_t1 (List.mem_of_getElem? (i := 3) rfl) rfl) (in_t7 (List.mem_of_getElem? (i := 87) rfl) rfl) (in_t6 (List.mem_of_getElem? (i := 156) rfl) rfl) (in_t6 (List.mem_of_getElem? (i := 157) rfl) rfl) (by decide +kernel) (by decide +kernel) (by decide +kernel) (x_dk dn_188_1_ok 23 rfl))))
  (e_Lok (e_st (I := eI) (er_putf (ci := 10) (k := 3) (ix := 70) (N := 21) (fk := 0) (C := RX10) (T := TX10) (ty0 := tyX10) (ty := .int) rfl in_X10 tyX10_ok nmX10 (by decide) (in_t3 (List.mem_of_getElem? (i := 17) rfl) rfl) rfl rfl x_fit_int (x_dk dn_188_1_ok 24 rfl)))))
  (e_Tok2
  (e_Lok (e_st (I := eI) (er_iload_n (i := 2) (x_dk dn_188_1_ok 25 rfl))))
  (e_Lok (e_st (I := eI) (er_iconst (n := 1) (z := 1) (v := 1) (x_dk dn_188_1_ok 26 rfl) (by decide) (by decide))))))
  (e_Tok2
  (e_Tok2
  (e_Lok (e_st (I := eI) (er_icmpeq (off := 7) (tg := 218) (x_dk dn_188_1_ok 27 rfl) (by decide))))
  (e_Lok (e_st (I := eI) (er_iconst (n := 1) (z := 1) (v := 1) (x_dk dn_188_1_ok 28 rfl) (by decide) (by decide)))))
  (e_Tok2
  (e_Lok (e_st (I := eI) (er_goto (off := 4) (tg := 219) (x_dk dn_188_1_ok 29 rfl) (by decide))))
  (e_Tok2
  (e_Lok (e_st (I := eI) (er_iconst (n := 0) (z := 0) (v := 0) (x_dk dn_188_1_ok 30 rfl) (by decide) (by decide))))
  (e_Lok (e_rt (I := eI) (k := 4) ⟨(x_dk dn_188_1_ok 31 rfl), rfl⟩))))))))
def te_188 : Nat → eE := (e_T 111 (e_T 58 te_188_0 te_188_33) (e_T 162 te_188_66 te_188_99))
theorem te_188_ok : ∀ pc, e_EOq eft cls elay eI n_188 pc (te_188 pc) := (e_Tok2 ((e_Tok2 (te_188_0_ok) (te_188_33_ok))) ((e_Tok2 (te_188_66_ok) (te_188_99_ok))))
def dn_189_0 : List (Nat × Instr × Nat) := [(0, .aload_n 0, 1), (1, .getfield 21, 3), (4, .aload_n 0, 1), (5, .getfield 63, 3), (8, .iconst 1, 1), (9, .isub, 1), (10, .iload_n 1, 1), (11, .iastore, 1), (12, .aload_n 0, 1), (13, .getfield 38, 3), (16, .iconst 1, 1), (17, .if_icmp .le 34, 3), (20, .aload_n 0, 1), (21, .getfield 15, 3), (24, .aload_n 0, 1), (25, .getfield 38, 3), (28, .iconst 1, 1), (29, .isub, 1), (30, .iaload, 1), (31, .aload_n 0, 1), (32, .getfield 63, 3), (35, .if_icmp .lt 16, 3), (38, .aload_n 0, 1), (39, .dup, 1), (40, .getfield 38, 3), (43, .iconst 1, 1), (44, .isub, 1), (45, .putfield 38, 3), (48, .goto (-36), 3), (51, .aload_n 0, 1), (52, .iload_n 2, 1), (53, .putfield 70, 3), (56, .return_, 1)]
set_option maxRecDepth 20000 in
theorem dn_189_0_ok : dn_189_0.all (fun q => decide (decode prog_12_method_12_code q.1 = .ok (q.2.1, q.2.2))) = true := by decide +kernel
def te_189_0 : Nat → eE := (e_T 25 (e_T 11 (e_T 5 (e_T 1 (e_T 0 (e_L 0 (0, ei_load 0 2 1, 0, 0)) (e_L 1 (0, ei_getf eft elay 10 19 4, 0, 0))) (e_T 4 (e_L 4 (0, ei_load 0 2 5, 0, 0)) (e_L 5 (0, ei_getf eft elay 10 15 8, 0, 0)))) (e_T 9 (e_T 8 (e_L 8 (0, ei_push (0, 1) 9, 0, 0)) (e_L 9 (0, ei_bin eF_sub 10, 0, 0))) (e_T 10 (e_L 10 (0, ei_load 1 0 11, 0, 0)) (e_L 11 (0, ei_ast elay false 12, 0, 0))))) (e_T 17 (e_T 13 (e_T 12 (e_L 12 (0, ei_load 0 2 13, 0, 0)) (e_L 13 (0, ei_getf eft elay 10 4 16, 0, 0))) (e_T 16 (e_L 16 (0, ei_push (0, 1) 17, 0, 0)) (e_L 17 (0, ei_if2 5 51 20, 0, 0)))) (e_T 21 (e_T 20 (e_L 20 (0, ei_load 0 2 21, 0, 0)) (e_L 21 (0, ei_getf eft elay 10 17 24, 0, 0))) (e_T 24 (e_L 24 (0, ei_load 0 2 25, 0, 0)) (e_L 25 (0, ei_getf eft elay 10 4 28, 0, 0)))))) (e_T 39 (e_T 31 (e_T 29 (e_T 28 (e_L 28 (0, ei_push (0, 1) 29, 0, 0)) (e_L 29 (0, ei_bin eF_sub 30, 0, 0))) (e_T 30 (e_L 30 (0, ei_ald elay false 31, 0, 0)) (e_L 31 (0, ei_load 0 2 32, 0, 0)))) (e_T 35 (e_T 32 (e_L 32 (0, ei_getf eft elay 10 15 35, 0, 0)) (e_L 35 (0, ei_if2 2 51 38, 0, 0))) (e_T 38 (e_L 38 (0, ei_load 0 2 39, 0, 0)) (e_L 39 (0, ei_stk ef_dup 40, 0, 0))))) (e_T 45 (e_T 43 (e_T 40 (e_L 40 (0, ei_getf eft elay 10 4 43, 0, 0)) (e_L 43 (0, ei_push (0, 1) 44, 0, 0))) (e_T 44 (e_L 44 (0, ei_bin eF_sub 45, 0, 0)) (e_L 45 (0, ei_putf eft elay 10 4 0 48, 0, 0)))) (e_T 51 (e_T 48 (e_L 48 (0, ei_goto 12, 0, 0)) (e_L 51 (0, ei_load 0 2 52, 0, 0))) (e_T 52 (e_L 52 (0, ei_load 2 0 53, 0, 0)) (e_T 53 (e_L 53 (0, ei_putf eft elay 10 3 0 56, 0, 0)) (e_L 56 (1, e_nof, 0, 0))))))))
set_option maxRecDepth 20000 in
set_option maxHeartbeats 4000000 in
theorem te_189_0_ok : ∀ pc, e_EOq eft cls elay eI n_189 pc (te_189_0 pc) :=
  (e_Tok2
  (e_Tok2
  (e_Tok2
  (e_Tok2
  (e_Tok2
  (e_Lok (e_st (I := eI) (er_aload_n (i := 0) (x_dk dn_189_0_ok 0 rfl))))
  (e_Lok (e_st (I := eI) (er_getf (ci := 10) (k := 19) (ix := 21) (N := 21) (C := RX10) (T := TX10) rfl in_X10 (by decide) (in_t3 (List.mem_of_getElem? (i := 43) rfl) rfl) (x_dk dn_189_0_ok 1 rfl)))))
  (e_Tok2
  (e_Lok (e_st (I := eI) (er_aload_n (i := 0) (x_dk dn_189_0_ok 2 rfl))))
  (e_Lok (e_st (I := eI) (er_getf (ci := 10) (k := 15) (ix := 63) (N := 21) (C := RX10) (T := TX10) rfl in_X10 (by decide) (in_t3 (List.mem_of_getElem? (i := 39) rfl) rfl) (x_dk dn_189_0_ok 3 rfl))))))
  (e_Tok2
  (e_Tok2
  (e_Lok (e_st (I := eI) (er_iconst (n := 1) (z := 1) (v := 1) (x_dk dn_189_0_ok 4 rfl) (by decide) (by decide))))
  (e_Lok (e_st (I := eI) (er_isub (x_dk dn_189_0_ok 5 rfl)))))
  (e_Tok2
  (e_Lok (e_st (I := eI) (er_iload_n (i := 1) (x_dk dn_189_0_ok 6 rfl))))
  (e_Lok (e_st (I := eI) (er_iastore (x_dk dn_189_0_ok 7 rfl)))))))
  (e_Tok2
  (e_Tok2
  (e_Tok2
  (e_Lok (e_st (I := eI) (er_aload_n (i := 0) (x_dk dn_189_0_ok 8 rfl))))
  (e_Lok (e_st (I := eI) (er_getf (ci := 10) (k := 4) (ix := 38) (N := 21) (C := RX10) (T := TX10) rfl in_X10 (by decide) (in_t3 (List.mem_of_getElem? (i := 19) rfl) rfl) (x_dk dn_189_0_ok 9 rfl)))))
  (e_Tok2
  (e_Lok (e_st (I := eI) (er_iconst (n := 1) (z := 1) (v := 1) (x_dk dn_189_0_ok 10 rfl) (by decide) (by decide))))
  (e_Lok (e_st (I := eI) (er_icmple (off := 34) (tg := 51) (x_dk dn_189_0_ok 11 rfl) (by decide))))))
  (e_Tok2
  (e_Tok2
  (e_Lok (e_st (I := eI) (er_aload_n (i := 0) (x_dk dn_189_0_ok 12 rfl))))
  (e_Lok (e_st (I := eI) (er_getf (ci := 10) (k := 17) (ix := 15) (N := 21) (C := RX10) (T := TX10) rfl in_X10 (by decide) (in_t3 (List.mem_of_getElem? (i := 41) rfl) rfl) (x_dk dn_189_0_ok 13 rfl)))))
  (e_Tok2
  (e_Lok (e_st (I := eI) (er_aload_n (i := 0) (x_dk dn_189_0_ok 14 rfl))))
  (e_Lok (e_st (I := eI) (er_getf (ci := 10) (k := 4) (ix := 38) (N := 21) (C := RX10) (T := TX10) rfl in_X10 (by decide) (in_t3 (List.mem_of_getElem? (i := 19) rfl) rfl) (x_dk dn_189_0_ok 15 rfl))))))))
  (e_Tok2
  (e_Tok2
  (e_Tok2
  (e_Tok2
  (e_Lok (e_st (I := eI) (er_iconst (n := 1) (z := 1) (v := 1) (x_dk dn_189_0_ok 16 rfl) (by decide) (by decide))))
  (e_Lok (e_st (I := eI) (er_isub (x_dk dn_189_0_ok 17 rfl)))))
  (e_Tok2
  (e_Lok (e_st (I := eI) (er_iaload (x_dk dn_189_0_ok 18 rfl))))
  (e_Lok (e_st (I := eI) (er_aload_n (i := 0) (x_dk dn_189_0_ok 19 rfl))))))
  (e_Tok2
  (e_Tok2
  (e_Lok (e_st (I := eI) (er_getf (ci := 10) (k := 15) (ix := 63) (N := 21) (C := RX10) (T := TX10) rfl in_X10 (by decide) (in_t3 (List.mem_of_getElem? (i := 39) rfl) rfl) (x_dk dn_189_0_ok 20 rfl))))
  (e_Lok (e_st (I := eI) (er_icmplt (off := 16) (tg := 51) (x_dk dn_189_0_ok 21 rfl) (by decide)))))
  (e_Tok2
  (e_Lok (e_st (I := eI) (er_aload_n (i := 0) (x_dk dn_189_0_ok 22 rfl))))
  (e_Lok (e_st (I := eI) (er_dup (x_dk dn_189_0_ok 23 rfl)))))))
  (e_Tok2
  (e_Tok2
  (e_Tok2
  (e_Lok (e_st (I := eI) (er_getf (ci := 10) (k := 4) (ix := 38) (N := 21) (C := RX10) (T := TX10) rfl in_X10 (by decide) (in_t3 (List.mem_of_getElem? (i := 19) rfl) rfl) (x_dk dn_189_0_ok 24 rfl))))
  (e_Lok (e_st (I := eI) (er_iconst (n := 1) (z := 1) (v := 1) (x_dk dn_189_0_ok 25 rfl) (by decide) (by decide)))))
  (e_Tok2
  (e_Lok (e_st (I := eI) (er_isub (x_dk dn_189_0_ok 26 rfl))))
  (e_Lok (e_st (I := eI) (er_putf (ci := 10) (k := 4) (ix := 38) (N := 21) (fk := 0) (C := RX10) (T := TX10) (ty0 := tyX10) (ty := .int) rfl in_X10 tyX10_ok nmX10 (by decide) (in_t3 (List.mem_of_getElem? (i := 19) rfl) rfl) rfl rfl x_fit_int (x_dk dn_189_0_ok 27 rfl))))))
  (e_Tok2
  (e_Tok2
  (e_Lok (e_st (I := eI) (er_goto (off := (-36)) (tg := 12) (x_dk dn_189_0_ok 28 rfl) (by decide))))
  (e_Lok (e_st (I := eI) (er_aload_n (i := 0) (x_dk dn_189_0_ok 29 rfl)))))
  (e_Tok2
  (e_Lok (e_st (I := eI) (er_iload_n (i := 2) (x_dk dn_189_0_ok 30 rfl))))
  (e_Tok2
  (e_Lok (e_st (I := eI) (er_putf (ci := 10) (k := 3) (ix := 70) (N := 21) (fk := 0) (C := RX10) (T := TX10) (ty0 := tyX10) (ty := .int) rfl in_X10 tyX10_ok nmX10 (by decide) (in_t3 (List.mem_of_getElem? (i := 17) rfl) rfl) rfl rfl x_fit_int (x_dk dn_189_0_ok 31 rfl))))
  (e_Lok (e_rt (I := eI) (k := 0) ⟨(x_dk dn_189_0_ok 32 rfl), rfl⟩))))))))
def te_189 : Nat → eE := te_189_0
theorem te_189_ok : ∀ pc, e_EOq eft cls elay eI n_189 pc (te_189 pc) := te_189_0_ok
def dn_190_0 : List (Nat × Instr × Nat) := [(0, .aload_n 0, 1), (1, .getfield 10, 3), (4, .getfield 74, 3), (7, .sipush 3980, 3), (10, .if_icmp .le 6, 3), (13, .bipush (-3), 2), (15, .ireturn, 1), (16, .aload_n 0, 1), (17, .getfield 10, 3), (20, .iload_n 1, 1), (21, .invokevirtual 78, 3), (24, .aload_n 0, 1), (25, .getfield 10, 3), (28, .iload_n 2, 1), (29, .invokevirtual 78, 3), (32, .aload_n 0, 1), (33, .getfield 10, 3), (36, .iload_n 3, 1), (37, .invokevirtual 78, 3), (40, .aload_n 0, 1), (41, .getfield 10, 3), (44, .iload 4, 2), (46, .invokevirtual 78, 3), (49, .aload_n 0, 1), (50, .getfield 10, 3), (53, .iload 5, 2), (55, .invokevirtual 78, 3), (58, .aload_n 0, 1), (59, .getfield 10, 3), (62, .getfield 74, 3), (65, .ireturn, 1)]
set_option maxRecDepth 20000 in
theorem dn_190_0_ok : dn_190_0.all (fun q => decide (decode prog_1_method_2_code q.1 = .ok (q.2.1, q.2.2))) = true := by decide +kernel
def te_190_0 : Nat → eE := (e_T 29 (e_T 15 (e_T 4 (e_T 0 (e_L 0 (0, ei_load 0 2 1, 0, 0)) (e_T 1 (e_L 1 (0, ei_getf eft elay 11 0 4, 0, 0)) (e_L 4 (0, ei_getf eft elay 8 0 7, 0, 0)))) (e_T 10 (e_T 7 (e_L 7 (0, ei_push (0, 3980) 10, 0, 0)) (e_L 10 (0, ei_if2 5 16 13, 0, 0))) (e_T 13 (e_L 13 (0, ei_push (0, (-3)) 15, 0, 0)) (e_L 15 (1, e_nof, 1, 0))))) (e_T 21 (e_T 17 (e_T 16 (e_L 16 (0, ei_load 0 2 17, 0, 0)) (e_L 17 (0, ei_getf eft elay 11 0 20, 0, 0))) (e_T 20 (e_L 20 (0, ei_load 1 0 21, 0, 0)) (e_L 21 (2, e_nof, 118, 2)))) (e_T 25 (e_T 24 (e_L 24 (0, ei_load 0 2 25, 0, 0)) (e_L 25 (0, ei_getf eft elay 11 0 28, 0, 0))) (e_T 28 (e_L 28 (0, ei_load 2 0 29, 0, 0)) (e_L 29 (2, e_nof, 118, 2)))))) (e_T 46 (e_T 37 (e_T 33 (e_T 32 (e_L 32 (0, ei_load 0 2 33, 0, 0)) (e_L 33 (0, ei_getf eft elay 11 0 36, 0, 0))) (e_T 36 (e_L 36 (0, ei_load 3 0 37, 0, 0)) (e_L 37 (2, e_nof, 118, 2)))) (e_T 41 (e_T 40 (e_L 40 (0, ei_load 0 2 41, 0, 0)) (e_L 41 (0, ei_getf eft elay 11 0 44, 0, 0))) (e_T 44 (e_L 44 (0, ei_load 4 0 46, 0, 0)) (e_L 46 (2, e_nof, 118, 2))))) (e_T 55 (e_T 50 (e_T 49 (e_L 49 (0, ei_load 0 2 50, 0, 0)) (e_L 50 (0, ei_getf eft elay 11 0 53, 0, 0))) (e_T 53 (e_L 53 (0, ei_load 5 0 55, 0, 0)) (e_L 55 (2, e_nof, 118, 2)))) (e_T 59 (e_T 58 (e_L 58 (0, ei_load 0 2 59, 0, 0)) (e_L 59 (0, ei_getf eft elay 11 0 62, 0, 0))) (e_T 62 (e_L 62 (0, ei_getf eft elay 8 0 65, 0, 0)) (e_L 65 (1, e_nof, 1, 0)))))))
set_option maxRecDepth 20000 in
set_option maxHeartbeats 4000000 in
theorem te_190_0_ok : ∀ pc, e_EOq eft cls elay eI n_190 pc (te_190_0 pc) :=
  (e_Tok2
  (e_Tok2
  (e_Tok2
  (e_Tok2
  (e_Lok (e_st (I := eI) (er_aload_n (i := 0) (x_dk dn_190_0_ok 0 rfl))))
  (e_Tok2
  (e_Lok (e_st (I := eI) (er_getf (ci := 11) (k := 0) (ix := 10) (N := 15) (C := RX11) (T := TX11) rfl in_X11 (by decide) (in_t4 (List.mem_of_getElem? (i := 108) rfl) rfl) (x_dk dn_190_0_ok 1 rfl))))
  (e_Lok (e_st (I := eI) (er_getf (ci := 8) (k := 0) (ix := 74) (N := 17) (C := RX8) (T := TX8) rfl in_X8 (by decide) (in_t1 (List.mem_of_getElem? (i := 65) rfl) rfl) (x_dk dn_190_0_ok 2 rfl))))))
  (e_Tok2
  (e_Tok2
  (e_Lok (e_st (I := eI) (er_sipush (n := 3980) (z := 3980) (v := 3980) (x_dk dn_190_0_ok 3 rfl) (by decide) (by decide))))
  (e_Lok (e_st (I := eI) (er_icmple (off := 6) (tg := 16) (x_dk dn_190_0_ok 4 rfl) (by decide)))))
  (e_Tok2
  (e_Lok (e_st (I := eI) (er_bipush (n := (-3)) (z := (-3)) (v := (-3)) (x_dk dn_190_0_ok 5 rfl) (by decide) (by decide))))
  (e_Lok (e_rt (I := eI) (k := 1) ⟨(x_dk dn_190_0_ok 6 rfl), rfl⟩)))))
  (e_Tok2
  (e_Tok2
  (e_Tok2
  (e_Lok (e_st (I := eI) (er_aload_n (i := 0) (x_dk dn_190_0_ok 7 rfl))))
  (e_Lok (e_st (I := eI) (er_getf (ci := 11) (k := 0) (ix := 10) (N := 15) (C := RX11) (T := TX11) rfl in_X11 (by decide) (in_t4 (List.mem_of_getElem? (i := 108) rfl) rfl) (x_dk dn_190_0_ok 8 rfl)))))
  (e_Tok2
  (e_Lok (e_st (I := eI) (er_iload_n (i := 1) (x_dk dn_190_0_ok 9 rfl))))
  (e_Lok (e_ca (I := eI) (q' := n_118) rfl (xr_callV (q' := n_118) (ix := 78) (n := 1) (in_t4 (List.mem_of_getElem? (i := 161) rfl) rfl) good_w (in_t1 (List.mem_of_getElem? (i := 2) rfl) rfl) (in_t4 (List.mem_of_getElem? (i := 158) rfl) rfl) (in_t4 (List.mem_of_getElem? (i := 159) rfl) rfl) (in_t4 (List.mem_of_getElem? (i := 160) rfl) rfl) (by decide +kernel) (by decide +kernel) (by decide +kernel) (x_dk dn_190_0_ok 10 rfl))))))
  (e_Tok2
  (e_Tok2
  (e_Lok (e_st (I := eI) (er_aload_n (i := 0) (x_dk dn_190_0_ok 11 rfl))))
  (e_Lok (e_st (I := eI) (er_getf (ci := 11) (k := 0) (ix := 10) (N := 15) (C := RX11) (T := TX11) rfl in_X11 (by decide) (in_t4 (List.mem_of_getElem? (i := 108) rfl) rfl) (x_dk dn_190_0_ok 12 rfl)))))
  (e_Tok2
  (e_Lok (e_st (I := eI) (er_iload_n (i := 2) (x_dk dn_190_0_ok 13 rfl))))
  (e_Lok (e_ca (I := eI) (q' := n_118) rfl (xr_callV (q' := n_118) (ix := 78) (n := 1) (in_t4 (List.mem_of_getElem? (i := 161) rfl) rfl) good_w (in_t1 (List.mem_of_getElem? (i := 2) rfl) rfl) (in_t4 (List.mem_of_getElem? (i := 158) rfl) rfl) (in_t4 (List.mem_of_getElem? (i := 159) rfl) rfl) (in_t4 (List.mem_of_getElem? (i := 160) rfl) rfl) (by decide +kernel) (by decide +kernel) (by decide +kernel) (x_dk dn_190_0_ok 14 rfl))))))))
  (e_Tok2
  (e_Tok2
  (e_Tok2
  (e_Tok2
  (e_Lok (e_st (I := eI) (er_aload_n (i := 0) (x_dk dn_190_0_ok 15 rfl))))
  (e_Lok (e_st (I := eI) (er_getf (ci := 11) (k := 0) (ix := 10) (N := 15) (C := RX11) (T := TX11) rfl in_X11 (by decide) (in_t4 (List.mem_of_getElem? (i := 108) rfl) rfl) (x_dk dn_190_0_ok 16 rfl)))))
  (e_Tok2
  (e_Lok (e_st (I := eI) (er_iload_n (i := 3) (x_dk dn_190_0_ok 17 rfl))))
  (e_Lok (e_ca (I := eI) (q' := n_118) rfl (xr_callV (q' := n_118) (ix := 78) (n := 1) (in_t4 (List.mem_of_getElem? (i := 161) rfl) rfl) good_w (in_t1 (List.mem_of_getElem? (i := 2) rfl) rfl) (in_t4 (List.mem_of_getElem? (i := 158) rfl) rfl) (in_t4 (List.mem_of_getElem? (i := 159) rfl) rfl) (in_t4 (List.mem_of_getElem? (i := 160) rfl) rfl) (by decide +kernel) (by decide +kernel) (by decide +kernel) (x_dk dn_190_0_ok 18 rfl))))))
  (e_Tok2
  (e_Tok2
  (e_Lok (e_st (I := eI) (er_aload_n (i := 0) (x_dk dn_190_0_ok 19 rfl))))
  (e_Lok (e_st (I := eI) (er_getf (ci := 11) (k := 0) (ix := 10) (N := 15) (C := RX11) (T := TX11) rfl in_X11 (by decide) (in_t4 (List.mem_of_getElem? (i := 108) rfl) rfl) (x_dk dn_190_0_ok 20 rfl)))))
  (e_Tok2
  (e_Lok (e_st (I := eI) (er_iload (i := 4) (x_dk dn_190_0_ok 21 rfl))))
  (e_Lok (e_ca (I := eI) (q' := n_118) rfl (xr_callV (q' := n_118) (ix := 78) (n := 1) (in_t4 (List.mem_of_getElem? (i := 161) rfl) rfl) good_w (in_t1 (List.mem_of_getElem? (i := 2) rfl) rfl) (in_t4 (List.mem_of_getElem? (i := 158) rfl) rfl) (in_t4 (List.mem_of_getElem? (i := 159) rfl) rfl) (in_t4 (List.mem_of_getElem? (i := 160) rfl) rfl) (by decide +kernel) (by decide +kernel) (by decide +kernel) (x_dk dn_190_0_ok 22 rfl)))))))
  (e_Tok2
  (e_Tok2
  (e_Tok2
  (e_Lok (e_st (I := eI) (er_aload_n (i := 0) (x_dk dn_190_0_ok 23 rfl))))
  (e_Lok (e_st (I := eI) (er_getf (ci := 11) (k := 0) (ix := 10) (N := 15) (C := RX11) (T := TX11) rfl in_X11 (by decide) (in_t4 (List.mem_of_getElem? (i := 108) rfl) rfl) (x_dk dn_190_0_ok 24 rfl)))))
  (e_Tok2
  (e_Lok (e_st (I := eI) (er_iload (i := 5) (x_dk dn_190_0_ok 25 rfl))))
  (e_Lok (e_ca (I := eI) (q' := n_118) rfl (xr_callV (q' := n_118) (ix := 78) (n := 1) (in_t4 (List.mem_of_getElem? (i := 161) rfl) rfl) good_w (in_t1 (List.mem_of_getElem? (i := 2) rfl) rfl) (in_t4 (List.mem_of_getElem? (i := 158) rfl) rfl) (in_t4 (List.mem_of_getElem? (i := 159) rfl) rfl) (in_t4 (List.mem_of_getElem? (i := 160) rfl) rfl) (by decide +kernel) (by decide +kernel) (by decide +kernel) (x_dk dn_190_0_ok 26 rfl))))))
  (e_Tok2
  (e_Tok2
  (e_Lok (e_st (I := eI) (er_aload_n (i := 0) (x_dk dn_190_0_ok 27 rfl))))
  (e_Lok (e_st (I := eI) (er_getf (ci := 11) (k := 0) (ix := 10) (N := 15) (C := RX11) (T := TX11) rfl in_X11 (by decide) (in_t4 (List.mem_of_getElem? (i := 108) rfl) rfl) (x_dk dn_190_0_ok 28 rfl)))))
  (e_Tok2
  (e_Lok (e_st (I := eI) (er_getf (ci := 8) (k := 0) (ix := 74) (N := 17) (C := RX8) (T := TX8) rfl in_X8 (by decide) (in_t1 (List.mem_of_getElem? (i := 65) rfl) rfl) (x_dk dn_190_0_ok 29 rfl))))
  (e_Lok (e_rt (I := eI) (k := 1) ⟨(x_dk dn_190_0_ok 30 rfl), rfl⟩)))))))
def te_190 : Nat → eE := te_190_0
theorem te_190_ok : ∀ pc, e_EOq eft cls elay eI n_190 pc (te_190 pc) := te_190_0_ok
def dn_191_0 : List (Nat × Instr × Nat) := [(0, .iload_n 1, 1), (1, .iconst 0, 1), (2, .aload_n 0, 1), (3, .getfield 10, 3), (6, .getfield 74, 3), (9, .invokestatic 82, 3), (12, .ifCond .ne 5, 3), (15, .iconst (-1), 1), (16, .ireturn, 1), (17, .aload_n 0, 1), (18, .getfield 10, 3), (21, .dup, 1), (22, .getfield 74, 3), (25, .iload_n 1, 1), (26, .isub, 1), (27, .putfield 74, 3), (30, .aload_n 0, 1), (31, .getfield 10, 3), (34, .getfield 74, 3), (37, .ireturn, 1)]
set_option maxRecDepth 20000 in
theorem dn_191_0_ok : dn_191_0.all (fun q => decide (decode prog_1_method_3_code q.1 = .ok (q.2.1, q.2.2))) = true := by decide +kernel
def te_191_0 : Nat → eE := (e_T 17 (e_T 6 (e_T 1 (e_T 0 (e_L 0 (0, ei_load 1 0 1, 0, 0)) (e_L 1 (0, ei_push (0, 0) 2, 0, 0))) (e_T 2 (e_L 2 (0, ei_load 0 2 3, 0, 0)) (e_T 3 (e_L 3 (0, ei_getf eft elay 11 0 6, 0, 0)) (e_L 6 (0, ei_getf eft elay 8 0 9, 0, 0))))) (e_T 12 (e_T 9 (e_L 9 (2, e_nof, 242, 3)) (e_L 12 (0, ei_if1 1 17 15, 0, 0))) (e_T 15 (e_L 15 (0, ei_push (0, (-1)) 16, 0, 0)) (e_T 16 (e_L 16 (1, e_nof, 1, 0)) (e_L 17 (0, ei_load 0 2 18, 0, 0)))))) (e_T 26 (e_T 21 (e_T 18 (e_L 18 (0, ei_getf eft elay 11 0 21, 0, 0)) (e_L 21 (0, ei_stk ef_dup 22, 0, 0))) (e_T 22 (e_L 22 (0, ei_getf eft elay 8 0 25, 0, 0)) (e_T 25 (e_L 25 (0, ei_load 1 0 26, 0, 0)) (e_L 26 (0, ei_bin eF_sub 27, 0, 0))))) (e_T 30 (e_T 27 (e_L 27 (0, ei_putf eft elay 8 0 0 30, 0, 0)) (e_L 30 (0, ei_load 0 2 31, 0, 0))) (e_T 31 (e_L 31 (0, ei_getf eft elay 11 0 34, 0, 0)) (e_T 34 (e_L 34 (0, ei_getf eft elay 8 0 37, 0, 0)) (e_L 37 (1, e_nof, 1, 0)))))))
set_option maxRecDepth 20000 in
set_option maxHeartbeats 4000000 in
theorem te_191_0_ok : ∀ pc, e_EOq eft cls elay eI n_191 pc (te_191_0 pc) :=
  (e_Tok2
  (e_Tok2
  (e_Tok2
  (e_Tok2
  (e_Lok (e_st (I := eI) (er_iload_n (i := 1) (x_dk dn_191_0_ok 0 rfl))))
  (e_Lok (e_st (I := eI) (er_iconst (n := 0) (z := 0) (v := 0) (x_dk dn_191_0_ok 1 rfl) (by decide) (by decide)))))
  (e_Tok2
  (e_Lok (e_st (I := eI) (er_aload_n (i := 0) (x_dk dn_191_0_ok 2 rfl))))
  (e_Tok2
  (e_Lok (e_st (I := eI) (er_getf (ci := 11) (k := 0) (ix := 10) (N := 15) (C := RX11) (T := TX11) rfl in_X11 (by decide) (in_t4 (List.mem_of_getElem? (i := 108) rfl) rfl) (x_dk dn_191_0_ok 3 rfl))))
  (e_Lok (e_st (I := eI) (er_getf (ci := 8) (k := 0) (ix := 74) (N := 17) (C := RX8) (T := TX8) rfl in_X8 (by decide) (in_t1 (List.mem_of_getElem? (i := 65) rfl) rfl) (x_dk dn_191_0_ok 4 rfl)))))))
  (e_Tok2
  (e_Tok2
  (e_Lok (e_ca (I := eI) (q' := n_242) rfl (xr_callS (q' := n_242) (ix := 82) (n := 3) (in_t4 (List.mem_of_getElem? (i := 168) rfl) rfl) good_w (in_t1 (List.mem_of_getElem? (i := 1) rfl) rfl) (in_t4 (List.mem_of_getElem? (i := 166) rfl) rfl) (in_t4 (List.mem_of_getElem? (i := 167) rfl) rfl) (by decide +kernel) (by decide +kernel) (x_dk dn_191_0_ok 5 rfl))))
  (e_Lok (e_st (I := eI) (er_ifne (off := 5) (tg := 17) (x_dk dn_191_0_ok 6 rfl) (by decide)))))
  (e_Tok2
  (e_Lok (e_st (I := eI) (er_iconst (n := (-1)) (z := (-1)) (v := (-1)) (x_dk dn_191_0_ok 7 rfl) (by decide) (by decide))))
  (e_Tok2
  (e_Lok (e_rt (I := eI) (k := 1) ⟨(x_dk dn_191_0_ok 8 rfl), rfl⟩))
  (e_Lok (e_st (I := eI) (er_aload_n (i := 0) (x_dk dn_191_0_ok 9 rfl))))))))
  (e_Tok2
  (e_Tok2
  (e_Tok2
  (e_Lok (e_st (I := eI) (er_getf (ci := 11) (k := 0) (ix := 10) (N := 15) (C := RX11) (T := TX11) rfl in_X11 (by decide) (in_t4 (List.mem_of_getElem? (i := 108) rfl) rfl) (x_dk dn_191_0_ok 10 rfl))))
  (e_Lok (e_st (I := eI) (er_dup (x_dk dn_191_0_ok 11 rfl)))))
  (e_Tok2
  (e_Lok (e_st (I := eI) (er_getf (ci := 8) (k := 0) (ix := 74) (N := 17) (C := RX8) (T := TX8) rfl in_X8 (by decide) (in_t1 (List.mem_of_getElem? (i := 65) rfl) rfl) (x_dk dn_191_0_ok 12 rfl))))
  (e_Tok2
  (e_Lok (e_st (I := eI) (er_iload_n (i := 1) (x_dk dn_191_0_ok 13 rfl))))
  (e_Lok (e_st (I := eI) (er_isub (x_dk dn_191_0_ok 14 rfl)))))))
  (e_Tok2
  (e_Tok2
  (e_Lok (e_st (I := eI) (er_putf (ci := 8) (k := 0) (ix := 74) (N := 17) (fk := 0) (C := RX8) (T := TX8) (ty0 := tyX8) (ty := .int) rfl in_X8 tyX8_ok nmX8 (by decide) (in_t1 (List.mem_of_getElem? (i := 65) rfl) rfl) rfl rfl x_fit_int (x_dk dn_191_0_ok 15 rfl))))
  (e_Lok (e_st (I := eI) (er_aload_n (i := 0) (x_dk dn_191_0_ok 16 rfl)))))
  (e_Tok2
  (e_Lok (e_st (I := eI) (er_getf (ci := 11) (k := 0) (ix := 10) (N := 15) (C := RX11) (T := TX11) rfl in_X11 (by decide) (in_t4 (List.mem_of_getElem? (i := 108) rfl) rfl) (x_dk dn_191_0_ok 17 rfl))))
  (e_Tok2
  (e_Lok (e_st (I := eI) (er_getf (ci := 8) (k := 0) (ix := 74) (N := 17) (C := RX8) (T := TX8) rfl in_X8 (by decide) (in_t1 (List.mem_of_getElem? (i := 65) rfl) rfl) (x_dk dn_191_0_ok 18 rfl))))
  (e_Lok (e_rt (I := eI) (k := 1) ⟨(x_dk dn_191_0_ok 19 rfl), rfl⟩)))))))
def te_191 : Nat → eE := te_191_0
theorem te_191_ok : ∀ pc, e_EOq eft cls elay eI n_191 pc (te_191 pc) := te_191_0_ok
def dn_192_0 : List (Nat × Instr × Nat) := [(0, .aload_n 0, 1), (1, .getfield 42, 3), (4, .getfield 86, 3), (7, .istore_n 1, 1), (8, .aload_n 0, 1), (9, .invokevirtual 71, 3), (12, .iload_n 1, 1), (13, .ireturn, 1)]
set_option maxRecDepth 20000 in
theorem dn_192_0_ok : dn_192_0.all (fun q => decide (decode prog_1_method_4_code q.1 = .ok (q.2.1, q.2.2))) = true := by decide +kernel
def te_192_0 : Nat → eE := (e_T 7 (e_T 1 (e_T 0 (e_L 0 (0, ei_load 0 2 1, 0, 0)) (e_L 1 (0, ei_getf eft elay 11 5 4, 0, 0))) (e_T 4 (e_L 4 (0, ei_getf eft elay 2 0 7, 0, 0)) (e_L 7 (0, ei_stor 1 0 8, 0, 0)))) (e_T 9 (e_T 8 (e_L 8 (0, ei_load 0 2 9, 0, 0)) (e_L 9 (2, e_nof, 251, 1))) (e_T 12 (e_L 12 (0, ei_load 1 0 13, 0, 0)) (e_L 13 (1, e_nof, 1, 0)))))
set_option maxRecDepth 20000 in
set_option maxHeartbeats 4000000 in
theorem te_192_0_ok : ∀ pc, e_EOq eft cls elay eI n_192 pc (te_192_0 pc) :=
  (e_Tok2
  (e_Tok2
  (e_Tok2
  (e_Lok (e_st (I := eI) (er_aload_n (i := 0) (x_dk dn_192_0_ok 0 rfl))))
  (e_Lok (e_st (I := eI) (er_getf (ci := 11) (k := 5) (ix := 42) (N := 15) (C := RX11) (T := TX11) rfl in_X11 (by decide) (in_t4 (List.mem_of_getElem? (i := 113) rfl) rfl) (x_dk dn_192_0_ok 1 rfl)))))
  (e_Tok2
  (e_Lok (e_st (I := eI) (er_getf (ci := 2) (k := 0) (ix := 86) (N := 15) (C := RX2) (T := TX2) rfl in_X2 (by decide) (in_t2 (List.mem_of_getElem? (i := 13) rfl) rfl) (x_dk dn_192_0_ok 2 rfl))))
  (e_Lok (e_st (I := eI) (er_istore_n (i := 1) (x_dk dn_192_0_ok 3 rfl) (by decide +kernel))))))
  (e_Tok2
  (e_Tok2
  (e_Lok (e_st (I := eI) (er_aload_n (i := 0) (x_dk dn_192_0_ok 4 rfl))))
  (e_Lok (e_ca (I := eI) (q' := n_251) rfl (xr_callV (q' := n_251) (ix := 71) (n := 0) (in_t4 (List.mem_of_getElem? (i := 2) rfl) rfl) good_w (in_t1 (List.mem_of_getElem? (i := 1) rfl) rfl) (in_t3 (List.mem_of_getElem? (i := 239) rfl) rfl) (in_t4 (List.mem_of_getElem? (i := 1) rfl) rfl) (in_s1 (List.mem_of_getElem? (i := 0) rfl)) (by decide +kernel) (by decide +kernel) (by decide +kernel) (x_dk dn_192_0_ok 5 rfl)))))
  (e_Tok2
  (e_Lok (e_st (I := eI) (er_iload_n (i := 1) (x_dk dn_192_0_ok 6 rfl))))
  (e_Lok (e_rt (I := eI) (k := 1) ⟨(x_dk dn_192_0_ok 7 rfl), rfl⟩)))))
def te_192 : Nat → eE := te_192_0
theorem te_192_ok : ∀ pc, e_EOq eft cls elay eI n_192 pc (te_192 pc) := te_192_0_ok
def dn_193_0 : List (Nat × Instr × Nat) := [(0, .iload_n 1, 1), (1, .sipush (-8000), 3), (4, .sipush 8000, 3), (7, .invokestatic 82, 3), (10, .ifCond .eq 16, 3), (13, .iload_n 2, 1), (14, .sipush (-8000), 3), (17, .sipush 8000, 3), (20, .invokestatic 82, 3), (23, .ifCond .ne 5, 3), (26, .iconst (-1), 1), (27, .ireturn, 1), (28, .iload_n 3, 1), (29, .iconst 0, 1), (30, .sipush 4095, 3), (33, .invokestatic 82, 3), (36, .ifCond .eq 15, 3), (39, .iload 4, 2), (41, .iconst 0, 1), (42, .sipush 800, 3), (45, .invokestatic 82, 3), (48, .ifCond .ne 5, 3), (51, .iconst (-1), 1), (52, .ireturn, 1), (53, .aload_n 0, 1), (54, .getfield 91, 3), (57, .ifCond .eq 6, 3), (60, .bipush (-2), 2), (62, .ireturn, 1), (63, .aload_n 0, 1), (64, .getfield 94, 3), (67, .iconst 4, 1), (68, .if_icmp .lt 6, 3), (71, .bipush (-3), 2), (73, .ireturn, 1), (74, .aload_n 0, 1), (75, .getfield 27, 3), (78, .aload_n 0, 1), (79, .getfield 94, 3), (82, .aaload, 1), (83, .iload_n 1, 1), (84, .iload_n 2, 1), (85, .iload_n 3, 1), (86, .iload 4, 2), (88, .invokevirtual 97, 3), (91, .aload_n 0, 1), (92, .dup, 1), (93, .getfield 94, 3), (96, .iconst 1, 1), (97, .iadd, 1), (98, .putfield 94, 3), (101, .aload_n 0, 1), (102, .getfield 94, 3), (105, .iconst 1, 1), (106, .isub, 1), (107, .ireturn, 1)]
set_option maxRecDepth 20000 in
theorem dn_193_0_ok : dn_193_0.all (fun q => decide (decode prog_1_method_5_code q.1 = .ok (q.2.1, q.2.2))) = true := by decide +kernel
def te_193_0 : Nat → eE := (e_T 29 (e_T 14 (e_T 4 (e_T 0 (e_L 0 (0, ei_load 1 0 1, 0, 0)) (e_T 1 (e_L 1 (0, ei_push (0, (-8000)) 4, 0, 0)) (e_L 4 (0, ei_push (0, 8000) 7, 0, 0)))) (e_T 10 (e_T 7 (e_L 7 (2, e_nof, 242, 3)) (e_L 10 (0, ei_if1 0 26 13, 0, 0))) (e_T 13 (e_L 13 (0, ei_load 2 0 14, 0, 0)) (e_L 14 (0, ei_push (0, (-8000)) 17, 0, 0))))) (e_T 23 (e_T 17 (e_L 17 (0, ei_push (0, 8000) 20, 0, 0)) (e_T 20 (e_L 20 (2, e_nof, 242, 3)) (e_L 23 (0, ei_if1 1 28 26, 0, 0)))) (e_T 27 (e_T 26 (e_L 26 (0, ei_push (0, (-1)) 27, 0, 0)) (e_L 27 (1, e_nof, 1, 0))) (e_T 28 (e_L 28 (0, ei_load 3 0 29, 0, 0)) (e_L 29 (0, ei_push (0, 0) 30, 0, 0)))))) (e_T 45 (e_T 36 (e_T 30 (e_L 30 (0, ei_push (0, 4095) 33, 0, 0)) (e_T 33 (e_L 33 (2, e_nof, 242, 3)) (e_L 36 (0, ei_if1 0 51 39, 0, 0)))) (e_T 41 (e_T 39 (e_L 39 (0, ei_load 4 0 41, 0, 0)) (e_L 41 (0, ei_push (0, 0) 42, 0, 0))) (e_T 42 (e_L 42 (0, ei_push (0, 800) 45, 0, 0)) (e_L 45 (2, e_nof, 242, 3))))) (e_T 52 (e_T 48 (e_L 48 (0, ei_if1 1 53 51, 0, 0)) (e_T 51 (e_L 51 (0, ei_push (0, (-1)) 52, 0, 0)) (e_L 52 (1, e_nof, 1, 0)))) (e_T 54 (e_T 53 (e_L 53 (0, ei_load 0 2 54, 0, 0)) (e_L 54 (0, ei_getf eft elay 11 13 57, 0, 0))) (e_T 57 (e_L 57 (0, ei_if1 0 63 60, 0, 0)) (e_L 60 (0, ei_push (0, (-2)) 62, 0, 0)))))))
set_option maxRecDepth 20000 in
set_option maxHeartbeats 4000000 in
theorem te_193_0_ok : ∀ pc, e_EOq eft cls elay eI n_193 pc (te_193_0 pc) :=
  (e_Tok2
  (e_Tok2
  (e_Tok2
  (e_Tok2
  (e_Lok (e_st (I := eI) (er_iload_n (i := 1) (x_dk dn_193_0_ok 0 rfl))))
  (e_Tok2
  (e_Lok (e_st (I := eI) (er_sipush (n := (-8000)) (z := (-8000)) (v := (-8000)) (x_dk dn_193_0_ok 1 rfl) (by decide) (by decide))))
  (e_Lok (e_st (I := eI) (er_sipush (n := 8000) (z := 8000) (v := 8000) (x_dk dn_193_0_ok 2 rfl) (by decide) (by decide))))))
  (e_Tok2
  (e_Tok2
  (e_Lok (e_ca (I := eI) (q' := n_242) rfl (xr_callS (q' := n_242) (ix := 82) (n := 3) (in_t4 (List.mem_of_getElem? (i := 168) rfl) rfl) good_w (in_t1 (List.mem_of_getElem? (i := 1) rfl) rfl) (in_t4 (List.mem_of_getElem? (i := 166) rfl) rfl) (in_t4 (List.mem_of_getElem? (i := 167) rfl) rfl) (by decide +kernel) (by decide +kernel) (x_dk dn_193_0_ok 3 rfl))))
  (e_Lok (e_st (I := eI) (er_ifeq (off := 16) (tg := 26) (x_dk dn_193_0_ok 4 rfl) (by decide)))))
  (e_Tok2
  (e_Lok (e_st (I := eI) (er_iload_n (i := 2) (x_dk dn_193_0_ok 5 rfl))))
  (e_Lok (e_st (I := eI) (er_sipush (n := (-8000)) (z := (-8000)) (v := (-8000)) (x_dk dn_193_0_ok 6 rfl) (by decide) (by decide)))))))
  (e_Tok2
  (e_Tok2
  (e_Lok (e_st (I := eI) (er_sipush (n := 8000) (z := 8000) (v := 8000) (x_dk dn_193_0_ok 7 rfl) (by decide) (by decide))))
  (e_Tok2
  (e_Lok (e_ca (I := eI) (q' := n_242) rfl (xr_callS (q' := n_242) (ix := 82) (n := 3) (in_t4 (List.mem_of_getElem? (i := 168) rfl) rfl) good_w (in_t1 (List.mem_of_getElem? (i := 1) rfl) rfl) (in_t4 (List.mem_of_getElem? (i := 166) rfl) rfl) (in_t4 (List.mem_of_getElem? (i := 167) rfl) rfl) (by decide +kernel) (by decide +kernel) (x_dk dn_193_0_ok 8 rfl))))
  (e_Lok (e_st (I := eI) (er_ifne (off := 5) (tg := 28) (x_dk dn_193_0_ok 9 rfl) (by decide))))))
  (e_Tok2
  (e_Tok2
  (e_Lok (e_st (I := eI) (er_iconst (n := (-1)) (z := (-1)) (v := (-1)) (x_dk dn_193_0_ok 10 rfl) (by decide) (by decide))))
  (e_Lok (e_rt (I := eI) (k := 1) ⟨(x_dk dn_193_0_ok 11 rfl), rfl⟩)))
  (e_Tok2
  (e_Lok (e_st (I := eI) (er_iload_n (i := 3) (x_dk dn_193_0_ok 12 rfl))))
  (e_Lok (e_st (I := eI) (er_iconst (n := 0) (z := 0) (v := 0) (x_dk dn_193_0_ok 13 rfl) (by decide) (by decide))))))))
  (e_Tok2
  (e_Tok2
  (e_Tok2
  (e_Lok (e_st (I := eI) (er_sipush (n := 4095) (z := 4095) (v := 4095) (x_dk dn_193_0_ok 14 rfl) (by decide) (by decide))))
  (e_Tok2
  (e_Lok (e_ca (I := eI) (q' := n_242) rfl (xr_callS (q' := n_242) (ix := 82) (n := 3) (in_t4 (List.mem_of_getElem? (i := 168) rfl) rfl) good_w (in_t1 (List.mem_of_getElem? (i := 1) rfl) rfl) (in_t4 (List.mem_of_getElem? (i := 166) rfl) rfl) (in_t4 (List.mem_of_getElem? (i := 167) rfl) rfl) (by decide +kernel) (by decide +kernel) (x_dk dn_193_0_ok 15 rfl))))
  (e_Lok (e_st (I := eI) (er_ifeq (off := 15) (tg := 51) (x_dk dn_193_0_ok 16 rfl) (by decide))))))
  (e_Tok2
  (e_Tok2
  (e_Lok (e_st (I := eI) (er_iload (i := 4) (x_dk dn_193_0_ok 17 rfl))))
  (e_Lok (e_st (I := eI) (er_iconst (n := 0) (z := 0) (v := 0) (x_dk dn_193_0_ok 18 rfl) (by decide) (by decide)))))
  (e_Tok2
  (e_Lok (e_st (I := eI) (er_sipush (n := 800) (z := 800) (v := 800) (x_dk dn_193_0_ok 19 rfl) (by decide) (by decide))))
  (e_Lok (e_ca (I := eI) (q' := n_242) rfl (xr_callS (q' := n_242) (ix := 82) (n := 3) (in_t4 (List.mem_of_getElem? (i := 168) rfl) rfl) good_w (in_t1 (List.mem_of_getElem? (i := 1) rfl) rfl) (in_t4 (List.mem_of_getElem? (i := 166) rfl) rfl) (in_t4 (List.mem_of_getElem? (i := 167) rfl) rfl) (by decide +kernel) (by decide +kernel) (x_dk dn_193_0_ok 20 rfl)))))))
  (e_Tok2
  (e_Tok2
  (e_Lok (e_st (I := eI) (er_ifne (off := 5) (tg := 53) (x_dk dn_193_0_ok 21 rfl) (by decide))))
  (e_Tok2
  (e_Lok (e_st (I := eI) (er_iconst (n := (-1)) (z := (-1)) (v := (-1)) (x_dk dn_193_0_ok 22 rfl) (by decide) (by decide))))
  (e_Lok (e_rt (I := eI) (k := 1) ⟨(x_dk dn_193_0_ok 23 rfl), rfl⟩))))
  (e_Tok2
  (e_Tok2
  (e_Lok (e_st (I := eI) (er_aload_n (i := 0) (x_dk dn_193_0_ok 24 rfl))))
  (e_Lok (e_st (I := eI) (er_getf (ci := 11) (k := 13) (ix := 91) (N := 15) (C := RX11) (T := TX11) rfl in_X11 (by decide) (in_t4 (List.mem_of_getElem? (i := 121) rfl) rfl) (x_dk dn_193_0_ok 25 rfl)))))
  (e_Tok2
  (e_Lok (e_st (I := eI) (er_ifeq (off := 6) (tg := 63) (x_dk dn_193_0_ok 26 rfl) (by decide))))
  (e_Lok (e_st (I := eI) (er_bipush (n := (-2)) (z := (-2)) (v := (-2)) (x_dk dn_193_0_ok 27 rfl) (by decide) (by decide)))))))))
def te_193_28 : Nat → eE := (e_T 84 (e_T 73 (e_T 64 (e_T 62 (e_L 62 (1, e_nof, 1, 0)) (e_T 63 (e_L 63 (0, ei_load 0 2 64, 0, 0)) (e_L 64 (0, ei_getf eft elay 11 11 67, 0, 0)))) (e_T 68 (e_T 67 (e_L 67 (0, ei_push (0, 4) 68, 0, 0)) (e_L 68 (0, ei_if2 2 74 71, 0, 0))) (e_T 71 (e_L 71 (0, ei_push (0, (-3)) 73, 0, 0)) (e_L 73 (1, e_nof, 1, 0))))) (e_T 78 (e_T 74 (e_L 74 (0, ei_load 0 2 75, 0, 0)) (e_T 75 (e_L 75 (0, ei_getf eft elay 11 2 78, 0, 0)) (e_L 78 (0, ei_load 0 2 79, 0, 0)))) (e_T 82 (e_T 79 (e_L 79 (0, ei_getf eft elay 11 11 82, 0, 0)) (e_L 82 (0, ei_aald elay 83, 0, 0))) (e_T 83 (e_L 83 (0, ei_load 1 0 84, 0, 0)) (e_L 84 (0, ei_load 2 0 85, 0, 0)))))) (e_T 96 (e_T 88 (e_T 85 (e_L 85 (0, ei_load 3 0 86, 0, 0)) (e_T 86 (e_L 86 (0, ei_load 4 0 88, 0, 0)) (e_L 88 (2, e_nof, 1, 5)))) (e_T 92 (e_T 91 (e_L 91 (0, ei_load 0 2 92, 0, 0)) (e_L 92 (0, ei_stk ef_dup 93, 0, 0))) (e_T 93 (e_L 93 (0, ei_getf eft elay 11 11 96, 0, 0)) (e_L 96 (0, ei_push (0, 1) 97, 0, 0))))) (e_T 101 (e_T 97 (e_L 97 (0, ei_bin eF_add 98, 0, 0)) (e_T 98 (e_L 98 (0, ei_putf eft elay 11 11 0 101, 0, 0)) (e_L 101 (0, ei_load 0 2 102, 0, 0)))) (e_T 105 (e_T 102 (e_L 102 (0, ei_getf eft elay 11 11 105, 0, 0)) (e_L 105 (0, ei_push (0, 1) 106, 0, 0))) (e_T 106 (e_L 106 (0, ei_bin eF_sub 107, 0, 0)) (e_L 107 (1, e_nof, 1, 0)))))))
set_option maxRecDepth 20000 in
set_option maxHeartbeats 4000000 in
theorem te_193_28_ok : ∀ pc, e_EOq eft cls elay eI n_193 pc (te_193_28 pc) :=
  (e_Tok2
  (e_Tok2
  (e_Tok2
  (e_Tok2
  (e_Lok (e_rt (I := eI) (k := 1) ⟨(x_dk dn_193_0_ok 28 rfl), rfl⟩))
  (e_Tok2
  (e_Lok (e_st (I := eI) (er_aload_n (i := 0) (x_dk dn_193_0_ok 29 rfl))))
  (e_Lok (e_st (I := eI) (er_getf (ci := 11) (k := 11) (ix := 94) (N := 15) (C := RX11) (T := TX11) rfl in_X11 (by decide) (in_t4 (List.mem_of_getElem? (i := 119) rfl) rfl) (x_dk dn_193_0_ok 30 rfl))))))
  (e_Tok2
  (e_Tok2
  (e_Lok (e_st (I := eI) (er_iconst (n := 4) (z := 4) (v := 4) (x_dk dn_193_0_ok 31 rfl) (by decide) (by decide))))
  (e_Lok (e_st (I := eI) (er_icmplt (off := 6) (tg := 74) (x_dk dn_193_0_ok 32 rfl) (by decide)))))
  (e_Tok2
  (e_Lok (e_st (I := eI) (er_bipush (n := (-3)) (z := (-3)) (v := (-3)) (x_dk dn_193_0_ok 33 rfl) (by decide) (by decide))))
  (e_Lok (e_rt (I := eI) (k := 1) ⟨(x_dk dn_193_0_ok 34 rfl), rfl⟩)))))
  (e_Tok2
  (e_Tok2
  (e_Lok (e_st (I := eI) (er_aload_n (i := 0) (x_dk dn_193_0_ok 35 rfl))))
  (e_Tok2
  (e_Lok (e_st (I := eI) (er_getf (ci := 11) (k := 2) (ix := 27) (N := 15) (C := RX11) (T := TX11) rfl in_X11 (by decide) (in_t4 (List.mem_of_getElem? (i := 110) rfl) rfl) (x_dk dn_193_0_ok 36 rfl))))
  (e_Lok (e_st (I := eI) (er_aload_n (i := 0) (x_dk dn_193_0_ok 37 rfl))))))
  (e_Tok2
  (e_Tok2
  (e_Lok (e_st (I := eI) (er_getf (ci := 11) (k := 11) (ix := 94) (N := 15) (C := RX11) (T := TX11) rfl in_X11 (by decide) (in_t4 (List.mem_of_getElem? (i := 119) rfl) rfl) (x_dk dn_193_0_ok 38 rfl))))
  (e_Lok (e_st (I := eI) (er_aaload (x_dk dn_193_0_ok 39 rfl)))))
  (e_Tok2
  (e_Lok (e_st (I := eI) (er_iload_n (i := 1) (x_dk dn_193_0_ok 40 rfl))))
  (e_Lok (e_st (I := eI) (er_iload_n (i := 2) (x_dk dn_193_0_ok 41 rfl))))))))
  (e_Tok2
  (e_Tok2
  (e_Tok2
  (e_Lok (e_st (I := eI) (er_iload_n (i := 3) (x_dk dn_193_0_ok 42 rfl))))
  (e_Tok2
  (e_Lok (e_st (I := eI) (er_iload (i := 4) (x_dk dn_193_0_ok 43 rfl))))
  (e_Lok (e_ca (I := eI) (q' := n_1) rfl (xr_callV (q' := n_1) (ix := 97) (n := 4) (in_t4 (List.mem_of_getElem? (i := 6) rfl) rfl) good_w (in_t1 (List.mem_of_getElem? (i := 8) rfl) rfl) (in_t4 (List.mem_of_getElem? (i := 3) rfl) rfl) (in_t4 (List.mem_of_getElem? (i := 4) rfl) rfl) (in_t4 (List.mem_of_getElem? (i := 5) rfl) rfl) (by decide +kernel) (by decide +kernel) (by decide +kernel) (x_dk dn_193_0_ok 44 rfl))))))
  (e_Tok2
  (e_Tok2
  (e_Lok (e_st (I := eI) (er_aload_n (i := 0) (x_dk dn_193_0_ok 45 rfl))))
  (e_Lok (e_st (I := eI) (er_dup (x_dk dn_193_0_ok 46 rfl)))))
  (e_Tok2
  (e_Lok (e_st (I := eI) (er_getf (ci := 11) (k := 11) (ix := 94) (N := 15) (C := RX11) (T := TX11) rfl in_X11 (by decide) (in_t4 (List.mem_of_getElem? (i := 119) rfl) rfl) (x_dk dn_193_0_ok 47 rfl))))
  (e_Lok (e_st (I := eI) (er_iconst (n := 1) (z := 1) (v := 1) (x_dk dn_193_0_ok 48 rfl) (by decide) (by decide)))))))
  (e_Tok2
  (e_Tok2
  (e_Lok (e_st (I := eI) (er_iadd (x_dk dn_193_0_ok 49 rfl))))
  (e_Tok2
  (e_Lok (e_st (I := eI) (er_putf (ci := 11) (k := 11) (ix := 94) (N := 15) (fk := 0) (C := RX11) (T := TX11) (ty0 := tyX11) (ty := .int) rfl in_X11 tyX11_ok nmX11 (by decide) (in_t4 (List.mem_of_getElem? (i := 119) rfl) rfl) rfl rfl x_fit_int (x_dk dn_193_0_ok 50 rfl))))
  (e_Lok (e_st (I := eI) (er_aload_n (i := 0) (x_dk dn_193_0_ok 51 rfl))))))
  (e_Tok2
  (e_Tok2
  (e_Lok (e_st (I := eI) (er_getf (ci := 11) (k := 11) (ix := 94) (N := 15) (C := RX11) (T := TX11) rfl in_X11 (by decide) (in_t4 (List.mem_of_getElem? (i := 119) rfl) rfl) (x_dk dn_193_0_ok 52 rfl))))
  (e_Lok (e_st (I := eI) (er_iconst (n := 1) (z := 1) (v := 1) (x_dk dn_193_0_ok 53 rfl) (by decide) (by decide)))))
  (e_Tok2
  (e_Lok (e_st (I := eI) (er_isub (x_dk dn_193_0_ok 54 rfl))))
  (e_Lok (e_rt (I := eI) (k := 1) ⟨(x_dk dn_193_0_ok 55 rfl), rfl⟩)))))))
def te_193 : Nat → eE := (e_T 60 te_193_0 te_193_28)
theorem te_193_ok : ∀ pc, e_EOq eft cls elay eI n_193 pc (te_193 pc) := (e_Tok2 (te_193_0_ok) (te_193_28_ok))
def dn_194_0 : List (Nat × Instr × Nat) := [(0, .aload_n 0, 1), (1, .iload_n 1, 1), (2, .invokevirtual 103, 3), (5, .ifCond .eq 12, 3), (8, .iload_n 2, 1), (9, .iconst 0, 1), (10, .iconst 1, 1), (11, .invokestatic 82, 3), (14, .ifCond .ne 5, 3), (17, .iconst (-1), 1), (18, .ireturn, 1), (19, .iload_n 2, 1), (20, .ifCond .ne 8, 3), (23, .ldc 107, 2), (25, .goto 6, 3), (28, .sipush 8000, 3), (31, .istore 6, 2), (33, .iload_n 3, 1), (34, .iload 6, 2), (36, .ineg, 1), (37, .iconst 0, 1), (38, .invokestatic 82, 3), (41, .ifCond .eq 14, 3), (44, .iload 4, 2), (46, .iconst 0, 1), (47, .iload 6, 2), (49, .invokestatic 82, 3), (52, .ifCond .ne 5, 3), (55, .iconst (-1), 1), (56, .ireturn, 1), (57, .iload 5, 2), (59, .iconst 0, 1), (60, .sipush 8000, 3), (63, .invokestatic 82, 3), (66, .ifCond .ne 5, 3), (69, .iconst (-1), 1), (70, .ireturn, 1), (71, .iload_n 2, 1), (72, .iconst 1, 1), (73, .if_icmp .ne 12, 3), (76, .iload 5, 2), (78, .iload_n 3, 1), (79, .iadd, 1), (80, .ifCond .ge 5, 3), (83, .iconst (-1), 1), (84, .ireturn, 1), (85, .iload_n 2, 1), (86, .iconst 1, 1), (87, .if_icmp .ne 11, 3), (90, .iload 5, 2), (92, .iload 4, 2), (94, .iadd, 1), (95, .goto 5, 3), (98, .iload 5, 2), (100, .istore 7, 2), (102, .aload_n 0, 1), (103, .getfield 27, 3), (106, .iload_n 1, 1), (107, .aaload, 1), (108, .invokevirtual 108, 3), (111, .iload 7, 2), (113, .iadd, 1), (114, .sipush 8000, 3), (117, .if_icmp .le 5, 3), (120, .iconst (-1), 1), (121, .ireturn, 1), (122, .aload_n 0, 1), (123, .getfield 91, 3), (126, .ifCond .eq 6, 3), (129, .bipush (-2), 2), (131, .ireturn, 1), (132, .aload_n 0, 1), (133, .getfield 27, 3), (136, .iload_n 1, 1), (137, .aaload, 1), (138, .getfield 112, 3), (141, .bipush 6, 2), (143, .if_icmp .lt 6, 3), (146, .bipush (-3), 2), (148, .ireturn, 1), (149, .aload_n 0, 1), (150, .getfield 27, 3), (153, .iload_n 1, 1), (154, .aaload, 1), (155, .iload_n 2, 1), (156, .iload_n 3, 1), (157, .iload 4, 2), (159, .iload 5, 2), (161, .invokevirtual 115, 3), (164, .ireturn, 1)]
set_option maxRecDepth 20000 in
theorem dn_194_0_ok : dn_194_0.all (fun q => decide (decode prog_1_method_6_code q.1 = .ok (q.2.1, q.2.2))) = true := by decide +kernel
def te_194_0 : Nat → eE := (e_T 18 (e_T 8 (e_T 1 (e_T 0 (e_L 0 (0, ei_load 0 2 1, 0, 0)) (e_L 1 (0, ei_load 1 0 2, 0, 0))) (e_T 2 (e_L 2 (2, e_nof, 246, 2)) (e_T 5 (e_L 5 (0, ei_if1 0 17 8, 0, 0)) (e_L 8 (0, ei_load 2 0 9, 0, 0))))) (e_T 11 (e_T 9 (e_L 9 (0, ei_push (0, 0) 10, 0, 0)) (e_T 10 (e_L 10 (0, ei_push (0, 1) 11, 0, 0)) (e_L 11 (2, e_nof, 242, 3)))) (e_T 14 (e_L 14 (0, ei_if1 1 19 17, 0, 0)) (e_T 17 (e_L 17 (0, ei_push (0, (-1)) 18, 0, 0)) (e_L 18 (1, e_nof, 1, 0)))))) (e_T 28 (e_T 20 (e_T 19 (e_L 19 (0, ei_load 2 0 20, 0, 0)) (e_L 20 (0, ei_if1 1 28 23, 0, 0))) (e_T 23 (e_L 23 (0, ei_push (0, 100000) 25, 0, 0)) (e_T 25 (e_L 25 (0, ei_goto 31, 0, 0)) (e_L 28 (0, ei_push (0, 8000) 31, 0, 0))))) (e_T 34 (e_T 31 (e_L 31 (0, ei_stor 6 0 33, 0, 0)) (e_T 33 (e_L 33 (0, ei_load 3 0 34, 0, 0)) (e_L 34 (0, ei_load 6 0 36, 0, 0)))) (e_T 36 (e_L 36 (0, ei_un (fun x => (0, e32 (-x))) 37, 0, 0)) (e_T 37 (e_L 37 (0, ei_push (0, 0) 38, 0, 0)) (e_L 38 (2, e_nof, 242, 3)))))))
set_option maxRecDepth 20000 in
set_option maxHeartbeats 4000000 in
theorem te_194_0_ok : ∀ pc, e_EOq eft cls elay eI n_194 pc (te_194_0 pc) :=
  (e_Tok2
  (e_Tok2
  (e_Tok2
  (e_Tok2
  (e_Lok (e_st (I := eI) (er_aload_n (i := 0) (x_dk dn_194_0_ok 0 rfl))))
  (e_Lok (e_st (I := eI) (er_iload_n (i := 1) (x_dk dn_194_0_ok 1 rfl)))))
  (e_Tok2
  (e_Lok (e_ca (I := eI) (q' := n_246) rfl (xr_callV (q' := n_246) (ix := 103) (n := 1) (in_t4 (List.mem_of_getElem? (i := 184) rfl) rfl) good_w (in_t1 (List.mem_of_getElem? (i := 1) rfl) rfl) (in_t4 (List.mem_of_getElem? (i := 181) rfl) rfl) (in_t4 (List.mem_of_getElem? (i := 183) rfl) rfl) (in_s1 (List.mem_of_getElem? (i := 8) rfl)) (by decide +kernel) (by decide +kernel) (by decide +kernel) (x_dk dn_194_0_ok 2 rfl))))
  (e_Tok2
  (e_Lok (e_st (I := eI) (er_ifeq (off := 12) (tg := 17) (x_dk dn_194_0_ok 3 rfl) (by decide))))
  (e_Lok (e_st (I := eI) (er_iload_n (i := 2) (x_dk dn_194_0_ok 4 rfl)))))))
  (e_Tok2
  (e_Tok2
  (e_Lok (e_st (I := eI) (er_iconst (n := 0) (z := 0) (v := 0) (x_dk dn_194_0_ok 5 rfl) (by decide) (by decide))))
  (e_Tok2
  (e_Lok (e_st (I := eI) (er_iconst (n := 1) (z := 1) (v := 1) (x_dk dn_194_0_ok 6 rfl) (by decide) (by decide))))
  (e_Lok (e_ca (I := eI) (q' := n_242) rfl (xr_callS (q' := n_242) (ix := 82) (n := 3) (in_t4 (List.mem_of_getElem? (i := 168) rfl) rfl) good_w (in_t1 (List.mem_of_getElem? (i := 1) rfl) rfl) (in_t4 (List.mem_of_getElem? (i := 166) rfl) rfl) (in_t4 (List.mem_of_getElem? (i := 167) rfl) rfl) (by decide +kernel) (by decide +kernel) (x_dk dn_194_0_ok 7 rfl))))))
  (e_Tok2
  (e_Lok (e_st (I := eI) (er_ifne (off := 5) (tg := 19) (x_dk dn_194_0_ok 8 rfl) (by decide))))
  (e_Tok2
  (e_Lok (e_st (I := eI) (er_iconst (n := (-1)) (z := (-1)) (v := (-1)) (x_dk dn_194_0_ok 9 rfl) (by decide) (by decide))))
  (e_Lok (e_rt (I := eI) (k := 1) ⟨(x_dk dn_194_0_ok 10 rfl), rfl⟩))))))
  (e_Tok2
  (e_Tok2
  (e_Tok2
  (e_Lok (e_st (I := eI) (er_iload_n (i := 2) (x_dk dn_194_0_ok 11 rfl))))
  (e_Lok (e_st (I := eI) (er_ifne (off := 8) (tg := 28) (x_dk dn_194_0_ok 12 rfl) (by decide)))))
  (e_Tok2
  (e_Lok (e_st (I := eI) (er_ldc (ix := 107) (z := 100000) (v := 100000) (x_dk dn_194_0_ok 13 rfl) (in_t4 (List.mem_of_getElem? (i := 185) rfl) rfl) (by decide))))
  (e_Tok2
  (e_Lok (e_st (I := eI) (er_goto (off := 6) (tg := 31) (x_dk dn_194_0_ok 14 rfl) (by decide))))
  (e_Lok (e_st (I := eI) (er_sipush (n := 8000) (z := 8000) (v := 8000) (x_dk dn_194_0_ok 15 rfl) (by decide) (by decide)))))))
  (e_Tok2
  (e_Tok2
  (e_Lok (e_st (I := eI) (er_istore (i := 6) (x_dk dn_194_0_ok 16 rfl) (by decide +kernel))))
  (e_Tok2
  (e_Lok (e_st (I := eI) (er_iload_n (i := 3) (x_dk dn_194_0_ok 17 rfl))))
  (e_Lok (e_st (I := eI) (er_iload (i := 6) (x_dk dn_194_0_ok 18 rfl))))))
  (e_Tok2
  (e_Lok (e_st (I := eI) (er_ineg (x_dk dn_194_0_ok 19 rfl))))
  (e_Tok2
  (e_Lok (e_st (I := eI) (er_iconst (n := 0) (z := 0) (v := 0) (x_dk dn_194_0_ok 20 rfl) (by decide) (by decide))))
  (e_Lok (e_ca (I := eI) (q' := n_242) rfl (xr_callS (q' := n_242) (ix := 82) (n := 3) (in_t4 (List.mem_of_getElem? (i := 168) rfl) rfl) good_w (in_t1 (List.mem_of_getElem? (i := 1) rfl) rfl) (in_t4 (List.mem_of_getElem? (i := 166) rfl) rfl) (in_t4 (List.mem_of_getElem? (i := 167) rfl) rfl) (by decide +kernel) (by decide +kernel) (x_dk dn_194_0_ok 21 rfl)))))))))
def te_194_22 : Nat → eE := (e_T 60 (e_T 49 (e_T 44 (e_T 41 (e_L 41 (0, ei_if1 0 55 44, 0, 0)) (e_L 44 (0, ei_load 4 0 46, 0, 0))) (e_T 46 (e_L 46 (0, ei_push (0, 0) 47, 0, 0)) (e_T 47 (e_L 47 (0, ei_load 6 0 49, 0, 0)) (e_L 49 (2, e_nof, 242, 3))))) (e_T 56 (e_T 52 (e_L 52 (0, ei_if1 1 57 55, 0, 0)) (e_T 55 (e_L 55 (0, ei_push (0, (-1)) 56, 0, 0)) (e_L 56 (1, e_nof, 1, 0)))) (e_T 57 (e_L 57 (0, ei_load 5 0 59, 0, 0)) (e_T 59 (e_L 59 (0, ei_push (0, 0) 60, 0, 0)) (e_L 60 (0, ei_push (0, 8000) 63, 0, 0)))))) (e_T 72 (e_T 69 (e_T 63 (e_L 63 (2, e_nof, 242, 3)) (e_T 66 (e_L 66 (0, ei_if1 1 71 69, 0, 0)) (e_L 69 (0, ei_push (0, (-1)) 70, 0, 0)))) (e_T 70 (e_L 70 (1, e_nof, 1, 0)) (e_T 71 (e_L 71 (0, ei_load 2 0 72, 0, 0)) (e_L 72 (0, ei_push (0, 1) 73, 0, 0))))) (e_T 78 (e_T 73 (e_L 73 (0, ei_if2 1 85 76, 0, 0)) (e_T 76 (e_L 76 (0, ei_load 5 0 78, 0, 0)) (e_L 78 (0, ei_load 3 0 79, 0, 0)))) (e_T 79 (e_L 79 (0, ei_bin eF_add 80, 0, 0)) (e_T 80 (e_L 80 (0, ei_if1 3 85 83, 0, 0)) (e_L 83 (0, ei_push (0, (-1)) 84, 0, 0)))))))
set_option maxRecDepth 20000 in
set_option maxHeartbeats 4000000 in
theorem te_194_22_ok : ∀ pc, e_EOq eft cls elay eI n_194 pc (te_194_22 pc) :=
  (e_Tok2
  (e_Tok2
  (e_Tok2
  (e_Tok2
  (e_Lok (e_st (I := eI) (er_ifeq (off := 14) (tg := 55) (x_dk dn_194_0_ok 22 rfl) (by decide))))
  (e_Lok (e_st (I := eI) (er_iload (i := 4) (x_dk dn_194_0_ok 23 rfl)))))
  (e_Tok2
  (e_Lok (e_st (I := eI) (er_iconst (n := 0) (z := 0) (v := 0) (x_dk dn_194_0_ok 24 rfl) (by decide) (by decide))))
  (e_Tok2
  (e_Lok (e_st (I := eI) (er_iload (i := 6) (x_dk dn_194_0_ok 25 rfl))))
  (e_Lok (e_ca (I := eI) (q' := n_242) rfl (xr_callS (q' := n_242) (ix := 82) (n := 3) (in_t4 (List.mem_of_getElem? (i := 168) rfl) rfl) good_w (in_t1 (List.mem_of_getElem? (i := 1) rfl) rfl) (in_t4 (List.mem_of_getElem? (i := 166) rfl) rfl) (in_t4 (List.mem_of_getElem? (i := 167) rfl) rfl) (by decide +kernel) (by decide +kernel) (x_dk dn_194_0_ok 26 rfl)))))))
  (e_Tok2
  (e_Tok2
  (e_Lok (e_st (I := eI) (er_ifne (off := 5) (tg := 57) (x_dk dn_194_0_ok 27 rfl) (by decide))))
  (e_Tok2
  (e_Lok (e_st (I := eI) (er_iconst (n := (-1)) (z := (-1)) (v := (-1)) (x_dk dn_194_0_ok 28 rfl) (by decide) (by decide))))
  (e_Lok (e_rt (I := eI) (k := 1) ⟨(x_dk dn_194_0_ok 29 rfl), rfl⟩))))
  (e_Tok2
  (e_Lok (e_st (I := eI) (er_iload (i := 5) (x_dk dn_194_0_ok 30 rfl))))
  (e_Tok2
  (e_Lok (e_st (I := eI) (er_iconst (n := 0) (z := 0) (v := 0) (x_dk dn_194_0_ok 31 rfl) (by decide) (by decide))))
  (e_Lok (e_st (I := eI) (er_sipush (n := 8000) (z := 8000) (v := 8000) (x_dk dn_194_0_ok 32 rfl) (by decide) (by decide))))))))
  (e_Tok2
  (e_Tok2
  (e_Tok2
  (e_Lok (e_ca (I := eI) (q' := n_242) rfl (xr_callS (q' := n_242) (ix := 82) (n := 3) (in_t4 (List.mem_of_getElem? (i := 168) rfl) rfl) good_w (in_t1 (List.mem_of_getElem? (i := 1) rfl) rfl) (in_t4 (List.mem_of_getElem? (i := 166) rfl) rfl) (in_t4 (List.mem_of_getElem? (i := 167) rfl) rfl) (by decide +kernel) (by decide +kernel) (x_dk dn_194_0_ok 33 rfl))))
  (e_Tok2
  (e_Lok (e_st (I := eI) (er_ifne (off := 5) (tg := 71) (x_dk dn_194_0_ok 34 rfl) (by decide))))
  (e_Lok (e_st (I := eI) (er_iconst (n := (-1)) (z := (-1)) (v := (-1)) (x_dk dn_194_0_ok 35 rfl) (by decide) (by decide))))))
  (e_Tok2
  (e_Lok (e_rt (I := eI) (k := 1) ⟨(x_dk dn_194_0_ok 36 rfl), rfl⟩))
  (e_Tok2
  (e_Lok (e_st (I := eI) (er_iload_n (i := 2) (x_dk dn_194_0_ok 37 rfl))))
  (e_Lok (e_st (I := eI) (er_iconst (n := 1) (z := 1) (v := 1) (x_dk dn_194_0_ok 38 rfl) (by decide) (by decide)))))))
  (e_Tok2
  (e_Tok2
  (e_Lok (e_st (I := eI) (er_icmpne (off := 12) (tg := 85) (x_dk dn_194_0_ok 39 rfl) (by decide))))
  (e_Tok2
  (e_Lok (e_st (I := eI) (er_iload (i := 5) (x_dk dn_194_0_ok 40 rfl))))
  (e_Lok (e_st (I := eI) (er_iload_n (i := 3) (x_dk dn_194_0_ok 41 rfl))))))
  (e_Tok2
  (e_Lok (e_st (I := eI) (er_iadd (x_dk dn_194_0_ok 42 rfl))))
  (e_Tok2
  (e_Lok (e_st (I := eI) (er_ifge (off := 5) (tg := 85) (x_dk dn_194_0_ok 43 rfl) (by decide))))
  (e_Lok (e_st (I := eI) (er_iconst (n := (-1)) (z := (-1)) (v := (-1)) (x_dk dn_194_0_ok 44 rfl) (by decide) (by decide)))))))))
def te_194_45 : Nat → eE := (e_T 102 (e_T 90 (e_T 85 (e_T 84 (e_L 84 (1, e_nof, 1, 0)) (e_L 85 (0, ei_load 2 0 86, 0, 0))) (e_T 86 (e_L 86 (0, ei_push (0, 1) 87, 0, 0)) (e_T 87 (e_L 87 (0, ei_if2 1 98 90, 0, 0)) (e_L 90 (0, ei_load 5 0 92, 0, 0))))) (e_T 95 (e_T 92 (e_L 92 (0, ei_load 4 0 94, 0, 0)) (e_T 94 (e_L 94 (0, ei_bin eF_add 95, 0, 0)) (e_L 95 (0, ei_goto 100, 0, 0)))) (e_T 98 (e_L 98 (0, ei_load 5 0 100, 0, 0)) (e_T 100 (e_L 100 (0, ei_stor 7 0 102, 0, 0)) (e_L 102 (0, ei_load 0 2 103, 0, 0)))))) (e_T 111 (e_T 106 (e_T 103 (e_L 103 (0, ei_getf eft elay 11 2 106, 0, 0)) (e_L 106 (0, ei_load 1 0 107, 0, 0))) (e_T 107 (e_L 107 (0, ei_aald elay 108, 0, 0)) (e_T 108 (e_L 108 (2, e_nof, 5, 1)) (e_L 111 (0, ei_load 7 0 113, 0, 0))))) (e_T 117 (e_T 113 (e_L 113 (0, ei_bin eF_add 114, 0, 0)) (e_T 114 (e_L 114 (0, ei_push (0, 8000) 117, 0, 0)) (e_L 117 (0, ei_if2 5 122 120, 0, 0)))) (e_T 120 (e_L 120 (0, ei_push (0, (-1)) 121, 0, 0)) (e_T 121 (e_L 121 (1, e_nof, 1, 0)) (e_L 122 (0, ei_load 0 2 123, 0, 0)))))))
set_option maxRecDepth 20000 in
set_option maxHeartbeats 4000000 in
theorem te_194_45_ok : ∀ pc, e_EOq eft cls elay eI n_194 pc (te_194_45 pc) :=
  (e_Tok2
  (e_Tok2
  (e_Tok2
  (e_Tok2
  (e_Lok (e_rt (I := eI) (k := 1) ⟨(x_dk dn_194_0_ok 45 rfl), rfl⟩))
  (e_Lok (e_st (I := eI) (er_iload_n (i := 2) (x_dk dn_194_0_ok 46 rfl)))))
  (e_Tok2
  (e_Lok (e_st (I := eI) (er_iconst (n := 1) (z := 1) (v := 1) (x_dk dn_194_0_ok 47 rfl) (by decide) (by decide))))
  (e_Tok2
  (e_Lok (e_st (I := eI) (er_icmpne (off := 11) (tg := 98) (x_dk dn_194_0_ok 48 rfl) (by decide))))
  (e_Lok (e_st (I := eI) (er_iload (i := 5) (x_dk dn_194_0_ok 49 rfl)))))))
  (e_Tok2
  (e_Tok2
  (e_Lok (e_st (I := eI) (er_iload (i := 4) (x_dk dn_194_0_ok 50 rfl))))
  (e_Tok2
  (e_Lok (e_st (I := eI) (er_iadd (x_dk dn_194_0_ok 51 rfl))))
  (e_Lok (e_st (I := eI) (er_goto (off := 5) (tg := 100) (x_dk dn_194_0_ok 52 rfl) (by decide))))))
  (e_Tok2
  (e_Lok (e_st (I := eI) (er_iload (i := 5) (x_dk dn_194_0_ok 53 rfl))))
  (e_Tok2
  (e_Lok (e_st (I := eI) (er_istore (i := 7) (x_dk dn_194_0_ok 54 rfl) (by decide +kernel))))
  (e_Lok (e_st (I := eI) (er_aload_n (i := 0) (x_dk dn_194_0_ok 55 rfl))))))))
  (e_Tok2
  (e_Tok2
  (e_Tok2
  (e_Lok (e_st (I := eI) (er_getf (ci := 11) (k := 2) (ix := 27) (N := 15) (C := RX11) (T := TX11) rfl in_X11 (by decide) (in_t4 (List.mem_of_getElem? (i := 110) rfl) rfl) (x_dk dn_194_0_ok 56 rfl))))
  (e_Lok (e_st (I := eI) (er_iload_n (i := 1) (x_dk dn_194_0_ok 57 rfl)))))
  (e_Tok2
  (e_Lok (e_st (I := eI) (er_aaload (x_dk dn_194_0_ok 58 rfl))))
  (e_Tok2
  (e_Lok (e_ca (I := eI) (q' := n_5) rfl (xr_callV (q' := n_5) (ix := 108) (n := 0) (in_t4 (List.mem_of_getElem? (i := 189) rfl) rfl) good_w (in_t1 (List.mem_of_getElem? (i := 8) rfl) rfl) (in_t4 (List.mem_of_getElem? (i := 186) rfl) rfl) (in_t4 (List.mem_of_getElem? (i := 187) rfl) rfl) (in_t4 (List.mem_of_getElem? (i := 188) rfl) rfl) (by decide +kernel) (by decide +kernel) (by decide +kernel) (x_dk dn_194_0_ok 59 rfl))))
  (e_Lok (e_st (I := eI) (er_iload (i := 7) (x_dk dn_194_0_ok 60 rfl)))))))
  (e_Tok2
  (e_Tok2
  (e_Lok (e_st (I := eI) (er_iadd (x_dk dn_194_0_ok 61 rfl))))
  (e_Tok2
  (e_Lok (e_st (I := eI) (er_sipush (n := 8000) (z := 8000) (v := 8000) (x_dk dn_194_0_ok 62 rfl) (by decide) (by decide))))
  (e_Lok (e_st (I := eI) (er_icmple (off := 5) (tg := 122) (x_dk dn_194_0_ok 63 rfl) (by decide))))))
  (e_Tok2
  (e_Lok (e_st (I := eI) (er_iconst (n := (-1)) (z := (-1)) (v := (-1)) (x_dk dn_194_0_ok 64 rfl) (by decide) (by decide))))
  (e_Tok2
  (e_Lok (e_rt (I := eI) (k := 1) ⟨(x_dk dn_194_0_ok 65 rfl), rfl⟩))
  (e_Lok (e_st (I := eI) (er_aload_n (i := 0) (x_dk dn_194_0_ok 66 rfl)))))))))
def te_194_67 : Nat → eE := (e_T 143 (e_T 132 (e_T 126 (e_T 123 (e_L 123 (0, ei_getf eft elay 11 13 126, 0, 0)) (e_L 126 (0, ei_if1 0 132 129, 0, 0))) (e_T 129 (e_L 129 (0, ei_push (0, (-2)) 131, 0, 0)) (e_T 131 (e_L 131 (1, e_nof, 1, 0)) (e_L 132 (0, ei_load 0 2 133, 0, 0))))) (e_T 137 (e_T 133 (e_L 133 (0, ei_getf eft elay 11 2 136, 0, 0)) (e_T 136 (e_L 136 (0, ei_load 1 0 137, 0, 0)) (e_L 137 (0, ei_aald elay 138, 0, 0)))) (e_T 138 (e_L 138 (0, ei_getf eft elay 0 8 141, 0, 0)) (e_T 141 (e_L 141 (0, ei_push (0, 6) 143, 0, 0)) (e_L 143 (0, ei_if2 2 149 146, 0, 0)))))) (e_T 154 (e_T 149 (e_T 146 (e_L 146 (0, ei_push (0, (-3)) 148, 0, 0)) (e_T 148 (e_L 148 (1, e_nof, 1, 0)) (e_L 149 (0, ei_load 0 2 150, 0, 0)))) (e_T 150 (e_L 150 (0, ei_getf eft elay 11 2 153, 0, 0)) (e_T 153 (e_L 153 (0, ei_load 1 0 154, 0, 0)) (e_L 154 (0, ei_aald elay 155, 0, 0))))) (e_T 157 (e_T 155 (e_L 155 (0, ei_load 2 0 156, 0, 0)) (e_T 156 (e_L 156 (0, ei_load 3 0 157, 0, 0)) (e_L 157 (0, ei_load 4 0 159, 0, 0)))) (e_T 159 (e_L 159 (0, ei_load 5 0 161, 0, 0)) (e_T 161 (e_L 161 (2, e_nof, 2, 5)) (e_L 164 (1, e_nof, 1, 0)))))))
set_option maxRecDepth 20000 in
set_option maxHeartbeats 4000000 in
theorem te_194_67_ok : ∀ pc, e_EOq eft cls elay eI n_194 pc (te_194_67 pc) :=
  (e_Tok2
  (e_Tok2
  (e_Tok2
  (e_Tok2
  (e_Lok (e_st (I := eI) (er_getf (ci := 11) (k := 13) (ix := 91) (N := 15) (C := RX11) (T := TX11) rfl in_X11 (by decide) (in_t4 (List.mem_of_getElem? (i := 121) rfl) rfl) (x_dk dn_194_0_ok 67 rfl))))
  (e_Lok (e_st (I := eI) (er_ifeq (off := 6) (tg := 132) (x_dk dn_194_0_ok 68 rfl) (by decide)))))
  (e_Tok2
  (e_Lok (e_st (I := eI) (er_bipush (n := (-2)) (z := (-2)) (v := (-2)) (x_dk dn_194_0_ok 69 rfl) (by decide) (by decide))))
  (e_Tok2
  (e_Lok (e_rt (I := eI) (k := 1) ⟨(x_dk dn_194_0_ok 70 rfl), rfl⟩))
  (e_Lok (e_st (I := eI) (er_aload_n (i := 0) (x_dk dn_194_0_ok 71 rfl)))))))
  (e_Tok2
  (e_Tok2
  (e_Lok (e_st (I := eI) (er_getf (ci := 11) (k := 2) (ix := 27) (N := 15) (C := RX11) (T := TX11) rfl in_X11 (by decide) (in_t4 (List.mem_of_getElem? (i := 110) rfl) rfl) (x_dk dn_194_0_ok 72 rfl))))
  (e_Tok2
  (e_Lok (e_st (I := eI) (er_iload_n (i := 1) (x_dk dn_194_0_ok 73 rfl))))
  (e_Lok (e_st (I := eI) (er_aaload (x_dk dn_194_0_ok 74 rfl))))))
  (e_Tok2
  (e_Lok (e_st (I := eI) (er_getf (ci := 0) (k := 8) (ix := 112) (N := 20) (C := RX0) (T := TX0) rfl in_X0 (by decide) (in_t2 (List.mem_of_getElem? (i := 171) rfl) rfl) (x_dk dn_194_0_ok 75 rfl))))
  (e_Tok2
  (e_Lok (e_st (I := eI) (er_bipush (n := 6) (z := 6) (v := 6) (x_dk dn_194_0_ok 76 rfl) (by decide) (by decide))))
  (e_Lok (e_st (I := eI) (er_icmplt (off := 6) (tg := 149) (x_dk dn_194_0_ok 77 rfl) (by decide))))))))
  (e_Tok2
  (e_Tok2
  (e_Tok2
  (e_Lok (e_st (I := eI) (er_bipush (n := (-3)) (z := (-3)) (v := (-3)) (x_dk dn_194_0_ok 78 rfl) (by decide) (by decide))))
  (e_Tok2
  (e_Lok (e_rt (I := eI) (k := 1) ⟨(x_dk dn_194_0_ok 79 rfl), rfl⟩))
  (e_Lok (e_st (I := eI) (er_aload_n (i := 0) (x_dk dn_194_0_ok 80 rfl))))))
  (e_Tok2
  (e_Lok (e_st (I := eI) (er_getf (ci := 11) (k := 2) (ix := 27) (N := 15) (C := RX11) (T := TX11) rfl in_X11 (by decide) (in_t4 (List.mem_of_getElem? (i := 110) rfl) rfl) (x_dk dn_194_0_ok 81 rfl))))
  (e_Tok2
  (e_Lok (e_st (I := eI) (er_iload_n (i := 1) (x_dk dn_194_0_ok 82 rfl))))
  (e_Lok (e_st (I := eI) (er_aaload (x_dk dn_194_0_ok 83 rfl)))))))
  (e_Tok2
  (e_Tok2
  (e_Lok (e_st (I := eI) (er_iload_n (i := 2) (x_dk dn_194_0_ok 84 rfl))))
  (e_Tok2
  (e_Lok (e_st (I := eI) (er_iload_n (i := 3) (x_dk dn_194_0_ok 85 rfl))))
  (e_Lok (e_st (I := eI) (er_iload (i := 4) (x_dk dn_194_0_ok 86 rfl))))))
  (e_Tok2
  (e_Lok (e_st (I := eI) (er_iload (i := 5) (x_dk dn_194_0_ok 87 rfl))))
  (e_Tok2
  (e_Lok (e_ca (I := eI) (q' := n_2) rfl (xr_callV (q' := n_2) (ix := 115) (n := 4) (in_t4 (List.mem_of_getElem? (i := 193) rfl) rfl) good_w (in_t1 (List.mem_of_getElem? (i := 8) rfl) rfl) (in_t4 (List.mem_of_getElem? (i := 190) rfl) rfl) (in_t4 (List.mem_of_getElem? (i := 191) rfl) rfl) (in_t4 (List.mem_of_getElem? (i := 192) rfl) rfl) (by decide +kernel) (by decide +kernel) (by decide +kernel) (x_dk dn_194_0_ok 88 rfl))))
  (e_Lok (e_rt (I := eI) (k := 1) ⟨(x_dk dn_194_0_ok 89 rfl), rfl⟩)))))))
def te_194 : Nat → eE := (e_T 83 (e_T 38 te_194_0 te_194_22) (e_T 122 te_194_45 te_194_67))
theorem te_194_ok : ∀ pc, e_EOq eft cls elay eI n_194 pc (te_194 pc) := (e_Tok2 ((e_Tok2 (te_194_0_ok) (te_194_22_ok))) ((e_Tok2 (te_194_45_ok) (te_194_67_ok))))
def dn_195_0 : List (Nat × Instr × Nat) := [(0, .aload_n 0, 1), (1, .iload_n 1, 1), (2, .iload_n 2, 1), (3, .invokevirtual 119, 3), (6, .ifCond .ne 5, 3), (9, .iconst (-1), 1), (10, .ireturn, 1), (11, .iload_n 3, 1), (12, .iconst 1, 1), (13, .sipush 2000, 3), (16, .invokestatic 82, 3), (19, .ifCond .eq 15, 3), (22, .iload 4, 2), (24, .iconst 1, 1), (25, .sipush 2000, 3), (28, .invokestatic 82, 3), (31, .ifCond .ne 5, 3), (34, .iconst (-1), 1), (35, .ireturn, 1), (36, .aload_n 0, 1), (37, .getfield 91, 3), (40, .ifCond .eq 6, 3), (43, .bipush (-2), 2), (45, .ireturn, 1), (46, .aload_n 0, 1), (47, .getfield 27, 3), (50, .iload_n 1, 1), (51, .aaload, 1), (52, .getfield 123, 3), (55, .iload_n 2, 1), (56, .aaload, 1), (57, .iload_n 3, 1), (58, .putfield 127, 3), (61, .aload_n 0, 1), (62, .getfield 27, 3), (65, .iload_n 1, 1), (66, .aaload, 1), (67, .getfield 123, 3), (70, .iload_n 2, 1), (71, .aaload, 1), (72, .iload 4, 2), (74, .putfield 132, 3), (77, .iconst 0, 1), (78, .ireturn, 1)]
set_option maxRecDepth 20000 in
theorem dn_195_0_ok : dn_195_0.all (fun q => decide (decode prog_1_method_7_code q.1 = .ok (q.2.1, q.2.2))) = true := by decide +kernel
def te_195_0 : Nat → eE := (e_T 16 (e_T 6 (e_T 1 (e_T 0 (e_L 0 (0, ei_load 0 2 1, 0, 0)) (e_L 1 (0, ei_load 1 0 2, 0, 0))) (e_T 2 (e_L 2 (0, ei_load 2 0 3, 0, 0)) (e_T 3 (e_L 3 (2, e_nof, 247, 3)) (e_L 6 (0, ei_if1 1 11 9, 0, 0))))) (e_T 11 (e_T 9 (e_L 9 (0, ei_push (0, (-1)) 10, 0, 0)) (e_T 10 (e_L 10 (1, e_nof, 1, 0)) (e_L 11 (0, ei_load 3 0 12, 0, 0)))) (e_T 12 (e_L 12 (0, ei_push (0, 1) 13, 0, 0)) (e_T 13 (e_L 13 (0, ei_push (0, 2000) 16, 0, 0)) (e_L 16 (2, e_nof, 242, 3)))))) (e_T 28 (e_T 22 (e_T 19 (e_L 19 (0, ei_if1 0 34 22, 0, 0)) (e_L 22 (0, ei_load 4 0 24, 0, 0))) (e_T 24 (e_L 24 (0, ei_push (0, 1) 25, 0, 0)) (e_T 25 (e_L 25 (0, ei_push (0, 2000) 28, 0, 0)) (e_L 28 (2, e_nof, 242, 3))))) (e_T 35 (e_T 31 (e_L 31 (0, ei_if1 1 36 34, 0, 0)) (e_T 34 (e_L 34 (0, ei_push (0, (-1)) 35, 0, 0)) (e_L 35 (1, e_nof, 1, 0)))) (e_T 36 (e_L 36 (0, ei_load 0 2 37, 0, 0)) (e_T 37 (e_L 37 (0, ei_getf eft elay 11 13 40, 0, 0)) (e_L 40 (0, ei_if1 0 46 43, 0, 0)))))))
set_option maxRecDepth 20000 in
set_option maxHeartbeats 4000000 in
theorem te_195_0_ok : ∀ pc, e_EOq eft cls elay eI n_195 pc (te_195_0 pc) :=
  (e_Tok2
  (e_Tok2
  (e_Tok2
  (e_Tok2
  (e_Lok (e_st (I := eI) (er_aload_n (i := 0) (x_dk dn_195_0_ok 0 rfl))))
  (e_Lok (e_st (I := eI) (er_iload_n (i := 1) (x_dk dn_195_0_ok 1 rfl)))))
  (e_Tok2
  (e_Lok (e_st (I := eI) (er_iload_n (i := 2) (x_dk dn_195_0_ok 2 rfl))))
  (e_Tok2
  (e_Lok (e_ca (I := eI) (q' := n_247) rfl (xr_callV (q' := n_247) (ix := 119) (n := 2) (in_t4 (List.mem_of_getElem? (i := 201) rfl) rfl) good_w (in_t1 (List.mem_of_getElem? (i := 1) rfl) rfl) (in_t4 (List.mem_of_getElem? (i := 198) rfl) rfl) (in_t4 (List.mem_of_getElem? (i := 200) rfl) rfl) (in_s1 (List.mem_of_getElem? (i := 9) rfl)) (by decide +kernel) (by decide +kernel) (by decide +kernel) (x_dk dn_195_0_ok 3 rfl))))
  (e_Lok (e_st (I := eI) (er_ifne (off := 5) (tg := 11) (x_dk dn_195_0_ok 4 rfl) (by decide)))))))
  (e_Tok2
  (e_Tok2
  (e_Lok (e_st (I := eI) (er_iconst (n := (-1)) (z := (-1)) (v := (-1)) (x_dk dn_195_0_ok 5 rfl) (by decide) (by decide))))
  (e_Tok2
  (e_Lok (e_rt (I := eI) (k := 1) ⟨(x_dk dn_195_0_ok 6 rfl), rfl⟩))
  (e_Lok (e_st (I := eI) (er_iload_n (i := 3) (x_dk dn_195_0_ok 7 rfl))))))
  (e_Tok2
  (e_Lok (e_st (I := eI) (er_iconst (n := 1) (z := 1) (v := 1) (x_dk dn_195_0_ok 8 rfl) (by decide) (by decide))))
  (e_Tok2
  (e_Lok (e_st (I := eI) (er_sipush (n := 2000) (z := 2000) (v := 2000) (x_dk dn_195_0_ok 9 rfl) (by decide) (by decide))))
  (e_Lok (e_ca (I := eI) (q' := n_242) rfl (xr_callS (q' := n_242) (ix := 82) (n := 3) (in_t4 (List.mem_of_getElem? (i := 168) rfl) rfl) good_w (in_t1 (List.mem_of_getElem? (i := 1) rfl) rfl) (in_t4 (List.mem_of_getElem? (i := 166) rfl) rfl) (in_t4 (List.mem_of_getElem? (i := 167) rfl) rfl) (by decide +kernel) (by decide +kernel) (x_dk dn_195_0_ok 10 rfl))))))))
  (e_Tok2
  (e_Tok2
  (e_Tok2
  (e_Lok (e_st (I := eI) (er_ifeq (off := 15) (tg := 34) (x_dk dn_195_0_ok 11 rfl) (by decide))))
  (e_Lok (e_st (I := eI) (er_iload (i := 4) (x_dk dn_195_0_ok 12 rfl)))))
  (e_Tok2
  (e_Lok (e_st (I := eI) (er_iconst (n := 1) (z := 1) (v := 1) (x_dk dn_195_0_ok 13 rfl) (by decide) (by decide))))
  (e_Tok2
  (e_Lok (e_st (I := eI) (er_sipush (n := 2000) (z := 2000) (v := 2000) (x_dk dn_195_0_ok 14 rfl) (by decide) (by decide))))
  (e_Lok (e_ca (I := eI) (q' := n_242) rfl (xr_callS (q' := n_242) (ix := 82) (n := 3) (in_t4 (List.mem_of_getElem? (i := 168) rfl) rfl) good_w (in_t1 (List.mem_of_getElem? (i := 1) rfl) rfl) (in_t4 (List.mem_of_getElem? (i := 166) rfl) rfl) (in_t4 (List.mem_of_getElem? (i := 167) rfl) rfl) (by decide +kernel) (by decide +kernel) (x_dk dn_195_0_ok 15 rfl)))))))
  (e_Tok2
  (e_Tok2
  (e_Lok (e_st (I := eI) (er_ifne (off := 5) (tg := 36) (x_dk dn_195_0_ok 16 rfl) (by decide))))
  (e_Tok2
  (e_Lok (e_st (I := eI) (er_iconst (n := (-1)) (z := (-1)) (v := (-1)) (x_dk dn_195_0_ok 17 rfl) (by decide) (by decide))))
  (e_Lok (e_rt (I := eI) (k := 1) ⟨(x_dk dn_195_0_ok 18 rfl), rfl⟩))))
  (e_Tok2
  (e_Lok (e_st (I := eI) (er_aload_n (i := 0) (x_dk dn_195_0_ok 19 rfl))))
  (e_Tok2
  (e_Lok (e_st (I := eI) (er_getf (ci := 11) (k := 13) (ix := 91) (N := 15) (C := RX11) (T := TX11) rfl in_X11 (by decide) (in_t4 (List.mem_of_getElem? (i := 121) rfl) rfl) (x_dk dn_195_0_ok 20 rfl))))
  (e_Lok (e_st (I := eI) (er_ifeq (off := 6) (tg := 46) (x_dk dn_195_0_ok 21 rfl) (by decide)))))))))
def te_195_22 : Nat → eE := (e_T 58 (e_T 50 (e_T 45 (e_T 43 (e_L 43 (0, ei_push (0, (-2)) 45, 0, 0)) (e_L 45 (1, e_nof, 1, 0))) (e_T 46 (e_L 46 (0, ei_load 0 2 47, 0, 0)) (e_T 47 (e_L 47 (0, ei_getf eft elay 11 2 50, 0, 0)) (e_L 50 (0, ei_load 1 0 51, 0, 0))))) (e_T 55 (e_T 51 (e_L 51 (0, ei_aald elay 52, 0, 0)) (e_T 52 (e_L 52 (0, ei_getf eft elay 0 0 55, 0, 0)) (e_L 55 (0, ei_load 2 0 56, 0, 0)))) (e_T 56 (e_L 56 (0, ei_aald elay 57, 0, 0)) (e_T 57 (e_L 57 (0, ei_load 3 0 58, 0, 0)) (e_L 58 (0, ei_putf eft elay 5 5 0 61, 0, 0)))))) (e_T 67 (e_T 62 (e_T 61 (e_L 61 (0, ei_load 0 2 62, 0, 0)) (e_L 62 (0, ei_getf eft elay 11 2 65, 0, 0))) (e_T 65 (e_L 65 (0, ei_load 1 0 66, 0, 0)) (e_T 66 (e_L 66 (0, ei_aald elay 67, 0, 0)) (e_L 67 (0, ei_getf eft elay 0 0 70, 0, 0))))) (e_T 72 (e_T 70 (e_L 70 (0, ei_load 2 0 71, 0, 0)) (e_T 71 (e_L 71 (0, ei_aald elay 72, 0, 0)) (e_L 72 (0, ei_load 4 0 74, 0, 0)))) (e_T 74 (e_L 74 (0, ei_putf eft elay 5 6 0 77, 0, 0)) (e_T 77 (e_L 77 (0, ei_push (0, 0) 78, 0, 0)) (e_L 78 (1, e_nof, 1, 0)))))))
set_option maxRecDepth 20000 in
set_option maxHeartbeats 4000000 in
theorem te_195_22_ok : ∀ pc, e_EOq eft cls elay eI n_195 pc (te_195_22 pc) :=
  (e_Tok2
  (e_Tok2
  (e_Tok2
  (e_Tok2
  (e_Lok (e_st (I := eI) (er_bipush (n := (-2)) (z := (-2)) (v := (-2)) (x_dk dn_195_0_ok 22 rfl) (by decide) (by decide))))
  (e_Lok (e_rt (I := eI) (k := 1) ⟨(x_dk dn_195_0_ok 23 rfl), rfl⟩)))
  (e_Tok2
  (e_Lok (e_st (I := eI) (er_aload_n (i := 0) (x_dk dn_195_0_ok 24 rfl))))
  (e_Tok2
  (e_Lok (e_st (I := eI) (er_getf (ci := 11) (k := 2) (ix := 27) (N := 15) (C := RX11) (T := TX11) rfl in_X11 (by decide) (in_t4 (List.mem_of_getElem? (i := 110) rfl) rfl) (x_dk dn_195_0_ok 25 rfl))))
  (e_Lok (e_st (I := eI) (er_iload_n (i := 1) (x_dk dn_195_0_ok 26 rfl)))))))
  (e_Tok2
  (e_Tok2
  (e_Lok (e_st (I := eI) (er_aaload (x_dk dn_195_0_ok 27 rfl))))
  (e_Tok2
  (e_Lok (e_st (I := eI) (er_getf (ci := 0) (k := 0) (ix := 123) (N := 20) (C := RX0) (T := TX0) rfl in_X0 (by decide) (in_t2 (List.mem_of_getElem? (i := 146) rfl) rfl) (x_dk dn_195_0_ok 28 rfl))))
  (e_Lok (e_st (I := eI) (er_iload_n (i := 2) (x_dk dn_195_0_ok 29 rfl))))))
  (e_Tok2
  (e_Lok (e_st (I := eI) (er_aaload (x_dk dn_195_0_ok 30 rfl))))
  (e_Tok2
  (e_Lok (e_st (I := eI) (er_iload_n (i := 3) (x_dk dn_195_0_ok 31 rfl))))
  (e_Lok (e_st (I := eI) (er_putf (ci := 5) (k := 5) (ix := 127) (N := 12) (fk := 0) (C := RX5) (T := TX5) (ty0 := tyX5) (ty := .int) rfl in_X5 tyX5_ok nmX5 (by decide) (in_t2 (List.mem_of_getElem? (i := 100) rfl) rfl) rfl rfl x_fit_int (x_dk dn_195_0_ok 32 rfl))))))))
  (e_Tok2
  (e_Tok2
  (e_Tok2
  (e_Lok (e_st (I := eI) (er_aload_n (i := 0) (x_dk dn_195_0_ok 33 rfl))))
  (e_Lok (e_st (I := eI) (er_getf (ci := 11) (k := 2) (ix := 27) (N := 15) (C := RX11) (T := TX11) rfl in_X11 (by decide) (in_t4 (List.mem_of_getElem? (i := 110) rfl) rfl) (x_dk dn_195_0_ok 34 rfl)))))
  (e_Tok2
  (e_Lok (e_st (I := eI) (er_iload_n (i := 1) (x_dk dn_195_0_ok 35 rfl))))
  (e_Tok2
  (e_Lok (e_st (I := eI) (er_aaload (x_dk dn_195_0_ok 36 rfl))))
  (e_Lok (e_st (I := eI) (er_getf (ci := 0) (k := 0) (ix := 123) (N := 20) (C := RX0) (T := TX0) rfl in_X0 (by decide) (in_t2 (List.mem_of_getElem? (i := 146) rfl) rfl) (x_dk dn_195_0_ok 37 rfl)))))))
  (e_Tok2
  (e_Tok2
  (e_Lok (e_st (I := eI) (er_iload_n (i := 2) (x_dk dn_195_0_ok 38 rfl))))
  (e_Tok2
  (e_Lok (e_st (I := eI) (er_aaload (x_dk dn_195_0_ok 39 rfl))))
  (e_Lok (e_st (I := eI) (er_iload (i := 4) (x_dk dn_195_0_ok 40 rfl))))))
  (e_Tok2
  (e_Lok (e_st (I := eI) (er_putf (ci := 5) (k := 6) (ix := 132) (N := 12) (fk := 0) (C := RX5) (T := TX5) (ty0 := tyX5) (ty := .int) rfl in_X5 tyX5_ok nmX5 (by decide) (in_t2 (List.mem_of_getElem? (i := 103) rfl) rfl) rfl rfl x_fit_int (x_dk dn_195_0_ok 41 rfl))))
  (e_Tok2
  (e_Lok (e_st (I := eI) (er_iconst (n := 0) (z := 0) (v := 0) (x_dk dn_195_0_ok 42 rfl) (by decide) (by decide))))
  (e_Lok (e_rt (I := eI) (k := 1) ⟨(x_dk dn_195_0_ok 43 rfl), rfl⟩)))))))
def te_195 : Nat → eE := (e_T 40 te_195_0 te_195_22)
theorem te_195_ok : ∀ pc, e_EOq eft cls elay eI n_195 pc (te_195 pc) := (e_Tok2 (te_195_0_ok) (te_195_22_ok))
def dn_196_0 : List (Nat × Instr × Nat) := [(0, .aload_n 0, 1), (1, .iload_n 1, 1), (2, .iload_n 2, 1), (3, .invokevirtual 119, 3), (6, .ifCond .eq 14, 3), (9, .iload_n 3, 1), (10, .iconst 0, 1), (11, .sipush 800, 3), (14, .invokestatic 82, 3), (17, .ifCond .ne 5, 3), (20, .iconst (-1), 1), (21, .ireturn, 1), (22, .aload_n 0, 1), (23, .getfield 91, 3), (26, .ifCond .eq 6, 3), (29, .bipush (-2), 2), (31, .ireturn, 1), (32, .aload_n 0, 1), (33, .getfield 27, 3), (36, .iload_n 1, 1), (37, .aaload, 1), (38, .getfield 123, 3), (41, .iload_n 2, 1), (42, .aaload, 1), (43, .getfield 135, 3), (46, .istore 4, 2), (48, .aload_n 0, 1), (49, .getfield 27, 3), (52, .iload_n 1, 1), (53, .aaload, 1), (54, .getfield 123, 3), (57, .iload_n 2, 1), (58, .aaload, 1), (59, .iload_n 3, 1), (60, .putfield 135, 3), (63, .iload 4, 2), (65, .ireturn, 1)]
set_option maxRecDepth 20000 in
theorem dn_196_0_ok : dn_196_0.all (fun q => decide (decode prog_1_method_8_code q.1 = .ok (q.2.1, q.2.2))) = true := by decide +kernel
def te_196_0 : Nat → eE := (e_T 32 (e_T 14 (e_T 3 (e_T 1 (e_T 0 (e_L 0 (0, ei_load 0 2 1, 0, 0)) (e_L 1 (0, ei_load 1 0 2, 0, 0))) (e_T 2 (e_L 2 (0, ei_load 2 0 3, 0, 0)) (e_L 3 (2, e_nof, 247, 3)))) (e_T 9 (e_T 6 (e_L 6 (0, ei_if1 0 20 9, 0, 0)) (e_L 9 (0, ei_load 3 0 10, 0, 0))) (e_T 10 (e_L 10 (0, ei_push (0, 0) 11, 0, 0)) (e_T 11 (e_L 11 (0, ei_push (0, 800) 14, 0, 0)) (e_L 14 (2, e_nof, 242, 3)))))) (e_T 22 (e_T 20 (e_T 17 (e_L 17 (0, ei_if1 1 22 20, 0, 0)) (e_L 20 (0, ei_push (0, (-1)) 21, 0, 0))) (e_T 21 (e_L 21 (1, e_nof, 1, 0)) (e_L 22 (0, ei_load 0 2 23, 0, 0)))) (e_T 26 (e_T 23 (e_L 23 (0, ei_getf eft elay 11 13 26, 0, 0)) (e_L 26 (0, ei_if1 0 32 29, 0, 0))) (e_T 29 (e_L 29 (0, ei_push (0, (-2)) 31, 0, 0)) (e_T 31 (e_L 31 (1, e_nof, 1, 0)) (e_L 32 (0, ei_load 0 2 33, 0, 0))))))) (e_T 48 (e_T 38 (e_T 36 (e_T 33 (e_L 33 (0, ei_getf eft elay 11 2 36, 0, 0)) (e_L 36 (0, ei_load 1 0 37, 0, 0))) (e_T 37 (e_L 37 (0, ei_aald elay 38, 0, 0)) (e_L 38 (0, ei_getf eft elay 0 0 41, 0, 0)))) (e_T 42 (e_T 41 (e_L 41 (0, ei_load 2 0 42, 0, 0)) (e_L 42 (0, ei_aald elay 43, 0, 0))) (e_T 43 (e_L 43 (0, ei_getf eft elay 5 4 46, 0, 0)) (e_T 46 (e_L 46 (0, ei_stor 4 0 48, 0, 0)) (e_L 48 (0, ei_load 0 2 49, 0, 0)))))) (e_T 57 (e_T 52 (e_T 49 (e_L 49 (0, ei_getf eft elay 11 2 52, 0, 0)) (e_L 52 (0, ei_load 1 0 53, 0, 0))) (e_T 53 (e_L 53 (0, ei_aald elay 54, 0, 0)) (e_T 54 (e_L 54 (0, ei_getf eft elay 0 0 57, 0, 0)) (e_L 57 (0, ei_load 2 0 58, 0, 0))))) (e_T 59 (e_T 58 (e_L 58 (0, ei_aald elay 59, 0, 0)) (e_L 59 (0, ei_load 3 0 60, 0, 0))) (e_T 60 (e_L 60 (0, ei_putf eft elay 5 4 0 63, 0, 0)) (e_T 63 (e_L 63 (0, ei_load 4 0 65, 0, 0)) (e_L 65 (1, e_nof, 1, 0))))))))
set_option maxRecDepth 20000 in
set_option maxHeartbeats 4000000 in
theorem te_196_0_ok : ∀ pc, e_EOq eft cls elay eI n_196 pc (te_196_0 pc) :=
  (e_Tok2
  (e_Tok2
  (e_Tok2
  (e_Tok2
  (e_Tok2
  (e_Lok (e_st (I := eI) (er_aload_n (i := 0) (x_dk dn_196_0_ok 0 rfl))))
  (e_Lok (e_st (I := eI) (er_iload_n (i := 1) (x_dk dn_196_0_ok 1 rfl)))))
  (e_Tok2
  (e_Lok (e_st (I := eI) (er_iload_n (i := 2) (x_dk dn_196_0_ok 2 rfl))))
  (e_Lok (e_ca (I := eI) (q' := n_247) rfl (xr_callV (q' := n_247) (ix := 119) (n := 2) (in_t4 (List.mem_of_getElem? (i := 201) rfl) rfl) good_w (in_t1 (List.mem_of_getElem? (i := 1) rfl) rfl) (in_t4 (List.mem_of_getElem? (i := 198) rfl) rfl) (in_t4 (List.mem_of_getElem? (i := 200) rfl) rfl) (in_s1 (List.mem_of_getElem? (i := 9) rfl)) (by decide +kernel) (by decide +kernel) (by decide +kernel) (x_dk dn_196_0_ok 3 rfl))))))
  (e_Tok2
  (e_Tok2
  (e_Lok (e_st (I := eI) (er_ifeq (off := 14) (tg := 20) (x_dk dn_196_0_ok 4 rfl) (by decide))))
  (e_Lok (e_st (I := eI) (er_iload_n (i := 3) (x_dk dn_196_0_ok 5 rfl)))))
  (e_Tok2
  (e_Lok (e_st (I := eI) (er_iconst (n := 0) (z := 0) (v := 0) (x_dk dn_196_0_ok 6 rfl) (by decide) (by decide))))
  (e_Tok2
  (e_Lok (e_st (I := eI) (er_sipush (n := 800) (z := 800) (v := 800) (x_dk dn_196_0_ok 7 rfl) (by decide) (by decide))))
  (e_Lok (e_ca (I := eI) (q' := n_242) rfl (xr_callS (q' := n_242) (ix := 82) (n := 3) (in_t4 (List.mem_of_getElem? (i := 168) rfl) rfl) good_w (in_t1 (List.mem_of_getElem? (i := 1) rfl) rfl) (in_t4 (List.mem_of_getElem? (i := 166) rfl) rfl) (in_t4 (List.mem_of_getElem? (i := 167) rfl) rfl) (by decide +kernel) (by decide +kernel) (x_dk dn_196_0_ok 8 rfl))))))))
  (e_Tok2
  (e_Tok2
  (e_Tok2
  (e_Lok (e_st (I := eI) (er_ifne (off := 5) (tg := 22) (x_dk dn_196_0_ok 9 rfl) (by decide))))
  (e_Lok (e_st (I := eI) (er_iconst (n := (-1)) (z := (-1)) (v := (-1)) (x_dk dn_196_0_ok 10 rfl) (by decide) (by decide)))))
  (e_Tok2
  (e_Lok (e_rt (I := eI) (k := 1) ⟨(x_dk dn_196_0_ok 11 rfl), rfl⟩))
  (e_Lok (e_st (I := eI) (er_aload_n (i := 0) (x_dk dn_196_0_ok 12 rfl))))))
  (e_Tok2
  (e_Tok2
  (e_Lok (e_st (I := eI) (er_getf (ci := 11) (k := 13) (ix := 91) (N := 15) (C := RX11) (T := TX11) rfl in_X11 (by decide) (in_t4 (List.mem_of_getElem? (i := 121) rfl) rfl) (x_dk dn_196_0_ok 13 rfl))))
  (e_Lok (e_st (I := eI) (er_ifeq (off := 6) (tg := 32) (x_dk dn_196_0_ok 14 rfl) (by decide)))))
  (e_Tok2
  (e_Lok (e_st (I := eI) (er_bipush (n := (-2)) (z := (-2)) (v := (-2)) (x_dk dn_196_0_ok 15 rfl) (by decide) (by decide))))
  (e_Tok2
  (e_Lok (e_rt (I := eI) (k := 1) ⟨(x_dk dn_196_0_ok 16 rfl), rfl⟩))
  (e_Lok (e_st (I := eI) (er_aload_n (i := 0) (x_dk dn_196_0_ok 17 rfl)))))))))
  (e_Tok2
  (e_Tok2
  (e_Tok2
  (e_Tok2
  (e_Lok (e_st (I := eI) (er_getf (ci := 11) (k := 2) (ix := 27) (N := 15) (C := RX11) (T := TX11) rfl in_X11 (by decide) (in_t4 (List.mem_of_getElem? (i := 110) rfl) rfl) (x_dk dn_196_0_ok 18 rfl))))
  (e_Lok (e_st (I := eI) (er_iload_n (i := 1) (x_dk dn_196_0_ok 19 rfl)))))
  (e_Tok2
  (e_Lok (e_st (I := eI) (er_aaload (x_dk dn_196_0_ok 20 rfl))))
  (e_Lok (e_st (I := eI) (er_getf (ci := 0) (k := 0) (ix := 123) (N := 20) (C := RX0) (T := TX0) rfl in_X0 (by decide) (in_t2 (List.mem_of_getElem? (i := 146) rfl) rfl) (x_dk dn_196_0_ok 21 rfl))))))
  (e_Tok2
  (e_Tok2
  (e_Lok (e_st (I := eI) (er_iload_n (i := 2) (x_dk dn_196_0_ok 22 rfl))))
  (e_Lok (e_st (I := eI) (er_aaload (x_dk dn_196_0_ok 23 rfl)))))
  (e_Tok2
  (e_Lok (e_st (I := eI) (er_getf (ci := 5) (k := 4) (ix := 135) (N := 12) (C := RX5) (T := TX5) rfl in_X5 (by decide) (in_t2 (List.mem_of_getElem? (i := 97) rfl) rfl) (x_dk dn_196_0_ok 24 rfl))))
  (e_Tok2
  (e_Lok (e_st (I := eI) (er_istore (i := 4) (x_dk dn_196_0_ok 25 rfl) (by decide +kernel))))
  (e_Lok (e_st (I := eI) (er_aload_n (i := 0) (x_dk dn_196_0_ok 26 rfl))))))))
  (e_Tok2
  (e_Tok2
  (e_Tok2
  (e_Lok (e_st (I := eI) (er_getf (ci := 11) (k := 2) (ix := 27) (N := 15) (C := RX11) (T := TX11) rfl in_X11 (by decide) (in_t4 (List.mem_of_getElem? (i := 110) rfl) rfl) (x_dk dn_196_0_ok 27 rfl))))
  (e_Lok (e_st (I := eI) (er_iload_n (i := 1) (x_dk dn_196_0_ok 28 rfl)))))
  (e_Tok2
  (e_Lok (e_st (I := eI) (er_aaload (x_dk dn_196_0_ok 29 rfl))))
  (e_Tok2
  (e_Lok (e_st (I := eI) (er_getf (ci := 0) (k := 0) (ix := 123) (N := 20) (C := RX0) (T := TX0) rfl in_X0 (by decide) (in_t2 (List.mem_of_getElem? (i := 146) rfl) rfl) (x_dk dn_196_0_ok 30 rfl))))
  (e_Lok (e_st (I := eI) (er_iload_n (i := 2) (x_dk dn_196_0_ok 31 rfl)))))))
  (e_Tok2
  (e_Tok2
  (e_Lok (e_st (I := eI) (er_aaload (x_dk dn_196_0_ok 32 rfl))))
  (e_Lok (e_st (I := eI) (er_iload_n (i := 3) (x_dk dn_196_0_ok 33 rfl)))))
  (e_Tok2
  (e_Lok (e_st (I := eI) (er_putf (ci := 5) (k := 4) (ix := 135) (N := 12) (fk := 0) (C := RX5) (T := TX5) (ty0 := tyX5) (ty := .int) rfl in_X5 tyX5_ok nmX5 (by decide) (in_t2 (List.mem_of_getElem? (i := 97) rfl) rfl) rfl rfl x_fit_int (x_dk dn_196_0_ok 34 rfl))))
  (e_Tok2
  (e_Lok (e_st (I := eI) (er_iload (i := 4) (x_dk dn_196_0_ok 35 rfl))))
  (e_Lok (e_rt (I := eI) (k := 1) ⟨(x_dk dn_196_0_ok 36 rfl), rfl⟩))))))))
def te_196 : Nat → eE := te_196_0
theorem te_196_ok : ∀ pc, e_EOq eft cls elay eI n_196 pc (te_196 pc) := te_196_0_ok
end
