noncomputable section
def dn_165_0 : List (Nat × Instr × Nat) := [(0, .aload_n 0, 1), (1, .getfield 57, 3), (4, .bipush 16, 2), (6, .if_icmp .eq 8, 3), (9, .aload_n 0, 1), (10, .invokevirtual 66, 3), (13, .return_, 1), (14, .aload_n 0, 1), (15, .invokevirtual 251, 3), (18, .ifCond .ne 4, 3), (21, .return_, 1), (22, .aload_n 0, 1), (23, .invokevirtual 54, 3), (26, .aload_n 0, 1), (27, .invokevirtual 245, 3), (30, .aload_n 0, 1), (31, .bipush 17, 2), (33, .invokevirtual 180, 3), (36, .aload_n 0, 1), (37, .dup, 1), (38, .getfield 42, 3), (41, .iconst 1, 1), (42, .isub, 1), (43, .putfield 42, 3), (46, .return_, 1)]
set_option maxRecDepth 20000 in
theorem dn_165_0_ok : dn_165_0.all (fun q => decide (decode prog_10_method_49_code q.1 = .ok (q.2.1, q.2.2))) = true := by decide +kernel
def te_165_0 : Nat → eE := (e_T 22 (e_T 10 (e_T 4 (e_T 0 (e_L 0 (0, ei_load 0 2 1, 0, 0)) (e_T 1 (e_L 1 (0, ei_getf eft elay 8 5 4, 0, 0)) (e_L 4 (0, ei_push (0, 16) 6, 0, 0)))) (e_T 6 (e_L 6 (0, ei_if2 0 14 9, 0, 0)) (e_T 9 (e_L 9 (0, ei_load 0 2 10, 0, 0)) (e_L 10 (2, e_nof, 130, 1))))) (e_T 15 (e_T 13 (e_L 13 (1, e_nof, 0, 0)) (e_T 14 (e_L 14 (0, ei_load 0 2 15, 0, 0)) (e_L 15 (2, e_nof, 132, 1)))) (e_T 18 (e_L 18 (0, ei_if1 1 22 21, 0, 0)) (e_T 21 (e_L 21 (1, e_nof, 0, 0)) (e_L 22 (0, ei_load 0 2 23, 0, 0)))))) (e_T 33 (e_T 27 (e_T 23 (e_L 23 (2, e_nof, 123, 1)) (e_T 26 (e_L 26 (0, ei_load 0 2 27, 0, 0)) (e_L 27 (2, e_nof, 158, 1)))) (e_T 30 (e_L 30 (0, ei_load 0 2 31, 0, 0)) (e_T 31 (e_L 31 (0, ei_push (0, 17) 33, 0, 0)) (e_L 33 (2, e_nof, 129, 2))))) (e_T 38 (e_T 36 (e_L 36 (0, ei_load 0 2 37, 0, 0)) (e_T 37 (e_L 37 (0, ei_stk ef_dup 38, 0, 0)) (e_L 38 (0, ei_getf eft elay 8 11 41, 0, 0)))) (e_T 42 (e_T 41 (e_L 41 (0, ei_push (0, 1) 42, 0, 0)) (e_L 42 (0, ei_bin eF_sub 43, 0, 0))) (e_T 43 (e_L 43 (0, ei_putf eft elay 8 11 0 46, 0, 0)) (e_L 46 (1, e_nof, 0, 0)))))))
set_option maxRecDepth 20000 in
set_option maxHeartbeats 4000000 in
theorem te_165_0_ok : ∀ pc, e_EOq eft cls elay eI n_165 pc (te_165_0 pc) :=
  (e_Tok2
  (e_Tok2
  (e_Tok2
  (e_Tok2
  (e_Lok (e_st (I := eI) (er_aload_n (i := 0) (x_dk dn_165_0_ok 0 rfl))))
  (e_Tok2
  (e_Lok (e_st (I := eI) (er_getf (ci := 8) (k := 5) (ix := 57) (N := 17) (C := RX8) (T := TX8) rfl in_X8 (by decide) (in_t1 (List.mem_of_getElem? (i := 74) rfl) rfl) (x_dk dn_165_0_ok 1 rfl))))
  (e_Lok (e_st (I := eI) (er_bipush (n := 16) (z := 16) (v := 16) (x_dk dn_165_0_ok 2 rfl) (by decide) (by decide))))))
  (e_Tok2
  (e_Lok (e_st (I := eI) (er_icmpeq (off := 8) (tg := 14) (x_dk dn_165_0_ok 3 rfl) (by decide))))
  (e_Tok2
  (e_Lok (e_st (I := eI) (er_aload_n (i := 0) (x_dk dn_165_0_ok 4 rfl))))
  (e_Lok (e_ca (I := eI) (q' := n_130) rfl (xr_callV (q' := n_130) (ix := 66) (n := 0) (in_t6 (List.mem_of_getElem? (i := 22) rfl) rfl) good_w (in_t1 (List.mem_of_getElem? (i := 2) rfl) rfl) (in_t6 (List.mem_of_getElem? (i := 19) rfl) rfl) (in_t6 (List.mem_of_getElem? (i := 21) rfl) rfl) (in_s2 (List.mem_of_getElem? (i := 10) rfl)) (by decide +kernel) (by decide +kernel) (by decide +kernel) (x_dk dn_165_0_ok 5 rfl)))))))
  (e_Tok2
  (e_Tok2
  (e_Lok (e_rt (I := eI) (k := 0) ⟨(x_dk dn_165_0_ok 6 rfl), rfl⟩))
  (e_Tok2
  (e_Lok (e_st (I := eI) (er_aload_n (i := 0) (x_dk dn_165_0_ok 7 rfl))))
  (e_Lok (e_ca (I := eI) (q' := n_132) rfl (xr_callV (q' := n_132) (ix := 251) (n := 0) (in_t6 (List.mem_of_getElem? (i := 72) rfl) rfl) good_w (in_t1 (List.mem_of_getElem? (i := 2) rfl) rfl) (in_t6 (List.mem_of_getElem? (i := 69) rfl) rfl) (in_t6 (List.mem_of_getElem? (i := 71) rfl) rfl) (in_s3 (List.mem_of_getElem? (i := 5) rfl)) (by decide +kernel) (by decide +kernel) (by decide +kernel) (x_dk dn_165_0_ok 8 rfl))))))
  (e_Tok2
  (e_Lok (e_st (I := eI) (er_ifne (off := 4) (tg := 22) (x_dk dn_165_0_ok 9 rfl) (by decide))))
  (e_Tok2
  (e_Lok (e_rt (I := eI) (k := 0) ⟨(x_dk dn_165_0_ok 10 rfl), rfl⟩))
  (e_Lok (e_st (I := eI) (er_aload_n (i := 0) (x_dk dn_165_0_ok 11 rfl))))))))
  (e_Tok2
  (e_Tok2
  (e_Tok2
  (e_Lok (e_ca (I := eI) (q' := n_123) rfl (xr_callV (q' := n_123) (ix := 54) (n := 0) (in_t5 (List.mem_of_getElem? (i := 80) rfl) rfl) good_w (in_t1 (List.mem_of_getElem? (i := 2) rfl) rfl) (in_t5 (List.mem_of_getElem? (i := 77) rfl) rfl) (in_t5 (List.mem_of_getElem? (i := 79) rfl) rfl) (in_s1 (List.mem_of_getElem? (i := 11) rfl)) (by decide +kernel) (by decide +kernel) (by decide +kernel) (x_dk dn_165_0_ok 12 rfl))))
  (e_Tok2
  (e_Lok (e_st (I := eI) (er_aload_n (i := 0) (x_dk dn_165_0_ok 13 rfl))))
  (e_Lok (e_ca (I := eI) (q' := n_158) rfl (xr_callV (q' := n_158) (ix := 245) (n := 0) (in_t6 (List.mem_of_getElem? (i := 60) rfl) rfl) good_w (in_t1 (List.mem_of_getElem? (i := 2) rfl) rfl) (in_t6 (List.mem_of_getElem? (i := 57) rfl) rfl) (in_t6 (List.mem_of_getElem? (i := 59) rfl) rfl) (in_s3 (List.mem_of_getElem? (i := 2) rfl)) (by decide +kernel) (by decide +kernel) (by decide +kernel) (x_dk dn_165_0_ok 14 rfl))))))
  (e_Tok2
  (e_Lok (e_st (I := eI) (er_aload_n (i := 0) (x_dk dn_165_0_ok 15 rfl))))
  (e_Tok2
  (e_Lok (e_st (I := eI) (er_bipush (n := 17) (z := 17) (v := 17) (x_dk dn_165_0_ok 16 rfl) (by decide) (by decide))))
  (e_Lok (e_ca (I := eI) (q' := n_129) rfl (xr_callV (q' := n_129) (ix := 180) (n := 1) (in_t6 (List.mem_of_getElem? (i := 18) rfl) rfl) good_w (in_t1 (List.mem_of_getElem? (i := 2) rfl) rfl) (in_t6 (List.mem_of_getElem? (i := 15) rfl) rfl) (in_t6 (List.mem_of_getElem? (i := 17) rfl) rfl) (in_s2 (List.mem_of_getElem? (i := 9) rfl)) (by decide +kernel) (by decide +kernel) (by decide +kernel) (x_dk dn_165_0_ok 17 rfl)))))))
  (e_Tok2
  (e_Tok2
  (e_Lok (e_st (I := eI) (er_aload_n (i := 0) (x_dk dn_165_0_ok 18 rfl))))
  (e_Tok2
  (e_Lok (e_st (I := eI) (er_dup (x_dk dn_165_0_ok 19 rfl))))
  (e_Lok (e_st (I := eI) (er_getf (ci := 8) (k := 11) (ix := 42) (N := 17) (C := RX8) (T := TX8) rfl in_X8 (by decide) (in_t1 (List.mem_of_getElem? (i := 80) rfl) rfl) (x_dk dn_165_0_ok 20 rfl))))))
  (e_Tok2
  (e_Tok2
  (e_Lok (e_st (I := eI) (er_iconst (n := 1) (z := 1) (v := 1) (x_dk dn_165_0_ok 21 rfl) (by decide) (by decide))))
  (e_Lok (e_st (I := eI) (er_isub (x_dk dn_165_0_ok 22 rfl)))))
  (e_Tok2
  (e_Lok (e_st (I := eI) (er_putf (ci := 8) (k := 11) (ix := 42) (N := 17) (fk := 0) (C := RX8) (T := TX8) (ty0 := tyX8) (ty := .int) rfl in_X8 tyX8_ok nmX8 (by decide) (in_t1 (List.mem_of_getElem? (i := 80) rfl) rfl) rfl rfl x_fit_int (x_dk dn_165_0_ok 23 rfl))))
  (e_Lok (e_rt (I := eI) (k := 0) ⟨(x_dk dn_165_0_ok 24 rfl), rfl⟩)))))))
def te_165 : Nat → eE := te_165_0
theorem te_165_ok : ∀ pc, e_EOq eft cls elay eI n_165 pc (te_165 pc) := te_165_0_ok
def dn_166_0 : List (Nat × Instr × Nat) := [(0, .aload_n 0, 1), (1, .getfield 132, 3), (4, .bipush 16, 2), (6, .ishr, 1), (7, .istore_n 1, 1), (8, .iload_n 1, 1), (9, .ifCond .ne 19, 3), (12, .aload_n 0, 1), (13, .getfield 21, 3), (16, .iconst 0, 1), (17, .aload_n 0, 1), (18, .getfield 132, 3), (21, .invokevirtual 198, 3), (24, .pop, 1), (25, .goto 30, 3), (28, .aload_n 0, 1), (29, .getfield 21, 3), (32, .iconst 0, 1), (33, .iload_n 1, 1), (34, .invokevirtual 198, 3), (37, .pop, 1), (38, .aload_n 0, 1), (39, .getfield 21, 3), (42, .iconst 1, 1), (43, .aload_n 0, 1), (44, .getfield 132, 3), (47, .ldc_w 281, 3), (50, .iand, 1), (51, .invokevirtual 198, 3), (54, .pop, 1), (55, .return_, 1)]
set_option maxRecDepth 20000 in
theorem dn_166_0_ok : dn_166_0.all (fun q => decide (decode prog_10_method_50_code q.1 = .ok (q.2.1, q.2.2))) = true := by decide +kernel
def te_166_0 : Nat → eE := (e_T 25 (e_T 9 (e_T 4 (e_T 0 (e_L 0 (0, ei_load 0 2 1, 0, 0)) (e_T 1 (e_L 1 (0, ei_getf eft elay 8 8 4, 0, 0)) (e_L 4 (0, ei_push (0, 16) 6, 0, 0)))) (e_T 7 (e_T 6 (e_L 6 (0, ei_bin (eB (fun x y => x >>> (y &&& 31))) 7, 0, 0)) (e_L 7 (0, ei_stor 1 0 8, 0, 0))) (e_T 8 (e_L 8 (0, ei_load 1 0 9, 0, 0)) (e_L 9 (0, ei_if1 1 28 12, 0, 0))))) (e_T 17 (e_T 13 (e_T 12 (e_L 12 (0, ei_load 0 2 13, 0, 0)) (e_L 13 (0, ei_getf eft elay 8 3 16, 0, 0))) (e_T 16 (e_L 16 (0, ei_push (0, 0) 17, 0, 0)) (e_L 17 (0, ei_load 0 2 18, 0, 0)))) (e_T 21 (e_T 18 (e_L 18 (0, ei_getf eft elay 8 8 21, 0, 0)) (e_L 21 (2, e_nof, 21, 3))) (e_T 24 (e_L 24 (0, ei_stk ef_pop 25, 0, 0)) (e_L 25 (0, ei_goto 55, 0, 0)))))) (e_T 39 (e_T 33 (e_T 29 (e_T 28 (e_L 28 (0, ei_load 0 2 29, 0, 0)) (e_L 29 (0, ei_getf eft elay 8 3 32, 0, 0))) (e_T 32 (e_L 32 (0, ei_push (0, 0) 33, 0, 0)) (e_L 33 (0, ei_load 1 0 34, 0, 0)))) (e_T 37 (e_T 34 (e_L 34 (2, e_nof, 21, 3)) (e_L 37 (0, ei_stk ef_pop 38, 0, 0))) (e_T 38 (e_L 38 (0, ei_load 0 2 39, 0, 0)) (e_L 39 (0, ei_getf eft elay 8 3 42, 0, 0))))) (e_T 47 (e_T 43 (e_T 42 (e_L 42 (0, ei_push (0, 1) 43, 0, 0)) (e_L 43 (0, ei_load 0 2 44, 0, 0))) (e_T 44 (e_L 44 (0, ei_getf eft elay 8 8 47, 0, 0)) (e_L 47 (0, ei_push (0, 65535) 50, 0, 0)))) (e_T 51 (e_T 50 (e_L 50 (0, ei_bin (eB (fun x y => x &&& y)) 51, 0, 0)) (e_L 51 (2, e_nof, 21, 3))) (e_T 54 (e_L 54 (0, ei_stk ef_pop 55, 0, 0)) (e_L 55 (1, e_nof, 0, 0)))))))
set_option maxRecDepth 20000 in
set_option maxHeartbeats 4000000 in
theorem te_166_0_ok : ∀ pc, e_EOq eft cls elay eI n_166 pc (te_166_0 pc) :=
  (e_Tok2
  (e_Tok2
  (e_Tok2
  (e_Tok2
  (e_Lok (e_st (I := eI) (er_aload_n (i := 0) (x_dk dn_166_0_ok 0 rfl))))
  (e_Tok2
  (e_Lok (e_st (I := eI) (er_getf (ci := 8) (k := 8) (ix := 132) (N := 17) (C := RX8) (T := TX8) rfl in_X8 (by decide) (in_t1 (List.mem_of_getElem? (i := 77) rfl) rfl) (x_dk dn_166_0_ok 1 rfl))))
  (e_Lok (e_st (I := eI) (er_bipush (n := 16) (z := 16) (v := 16) (x_dk dn_166_0_ok 2 rfl) (by decide) (by decide))))))
  (e_Tok2
  (e_Tok2
  (e_Lok (e_st (I := eI) (er_ishr (x_dk dn_166_0_ok 3 rfl))))
  (e_Lok (e_st (I := eI) (er_istore_n (i := 1) (x_dk dn_166_0_ok 4 rfl) (by decide +kernel)))))
  (e_Tok2
  (e_Lok (e_st (I := eI) (er_iload_n (i := 1) (x_dk dn_166_0_ok 5 rfl))))
  (e_Lok (e_st (I := eI) (er_ifne (off := 19) (tg := 28) (x_dk dn_166_0_ok 6 rfl) (by decide)))))))
  (e_Tok2
  (e_Tok2
  (e_Tok2
  (e_Lok (e_st (I := eI) (er_aload_n (i := 0) (x_dk dn_166_0_ok 7 rfl))))
  (e_Lok (e_st (I := eI) (er_getf (ci := 8) (k := 3) (ix := 21) (N := 17) (C := RX8) (T := TX8) rfl in_X8 (by decide) (in_t1 (List.mem_of_getElem? (i := 71) rfl) rfl) (x_dk dn_166_0_ok 8 rfl)))))
  (e_Tok2
  (e_Lok (e_st (I := eI) (er_iconst (n := 0) (z := 0) (v := 0) (x_dk dn_166_0_ok 9 rfl) (by decide) (by decide))))
  (e_Lok (e_st (I := eI) (er_aload_n (i := 0) (x_dk dn_166_0_ok 10 rfl))))))
  (e_Tok2
  (e_Tok2
  (e_Lok (e_st (I := eI) (er_getf (ci := 8) (k := 8) (ix := 132) (N := 17) (C := RX8) (T := TX8) rfl in_X8 (by decide) (in_t1 (List.mem_of_getElem? (i := 77) rfl) rfl) (x_dk dn_166_0_ok 11 rfl))))
  (e_Lok (e_ca (I := eI) (q' := n_21) rfl (xr_callV (q' := n_21) (ix := 198) (n := 2) (in_t6 (List.mem_of_getElem? (i := 47) rfl) rfl) good_w (in_t1 (List.mem_of_getElem? (i := 3) rfl) rfl) (in_t6 (List.mem_of_getElem? (i := 44) rfl) rfl) (in_t6 (List.mem_of_getElem? (i := 45) rfl) rfl) (in_t6 (List.mem_of_getElem? (i := 46) rfl) rfl) (by decide +kernel) (by decide +kernel) (by decide +kernel) (x_dk dn_166_0_ok 12 rfl)))))
  (e_Tok2
  (e_Lok (e_st (I := eI) (er_pop (x_dk dn_166_0_ok 13 rfl))))
  (e_Lok (e_st (I := eI) (er_goto (off := 30) (tg := 55) (x_dk dn_166_0_ok 14 rfl) (by decide))))))))
  (e_Tok2
  (e_Tok2
  (e_Tok2
  (e_Tok2
  (e_Lok (e_st (I := eI) (er_aload_n (i := 0) (x_dk dn_166_0_ok 15 rfl))))
  (e_Lok (e_st (I := eI) (er_getf (ci := 8) (k := 3) (ix := 21) (N := 17) (C := RX8) (T := TX8) rfl in_X8 (by decide) (in_t1 (List.mem_of_getElem? (i := 71) rfl) rfl) (x_dk dn_166_0_ok 16 rfl)))))
  (e_Tok2
  (e_Lok (e_st (I := eI) (er_iconst (n := 0) (z := 0) (v := 0) (x_dk dn_166_0_ok 17 rfl) (by decide) (by decide))))
  (e_Lok (e_st (I := eI) (er_iload_n (i := 1) (x_dk dn_166_0_ok 18 rfl))))))
  (e_Tok2
  (e_Tok2
  (e_Lok (e_ca (I := eI) (q' := n_21) rfl (xr_callV (q' := n_21) (ix := 198) (n := 2) (in_t6 (List.mem_of_getElem? (i := 47) rfl) rfl) good_w (in_t1 (List.mem_of_getElem? (i := 3) rfl) rfl) (in_t6 (List.mem_of_getElem? (i := 44) rfl) rfl) (in_t6 (List.mem_of_getElem? (i := 45) rfl) rfl) (in_t6 (List.mem_of_getElem? (i := 46) rfl) rfl) (by decide +kernel) (by decide +kernel) (by decide +kernel) (x_dk dn_166_0_ok 19 rfl))))
  (e_Lok (e_st (I := eI) (er_pop (x_dk dn_166_0_ok 20 rfl)))))
  (e_Tok2
  (e_Lok (e_st (I := eI) (er_aload_n (i := 0) (x_dk dn_166_0_ok 21 rfl))))
  (e_Lok (e_st (I := eI) (er_getf (ci := 8) (k := 3) (ix := 21) (N := 17) (C := RX8) (T := TX8) rfl in_X8 (by decide) (in_t1 (List.mem_of_getElem? (i := 71) rfl) rfl) (x_dk dn_166_0_ok 22 rfl)))))))
  (e_Tok2
  (e_Tok2
  (e_Tok2
  (e_Lok (e_st (I := eI) (er_iconst (n := 1) (z := 1) (v := 1) (x_dk dn_166_0_ok 23 rfl) (by decide) (by decide))))
  (e_Lok (e_st (I := eI) (er_aload_n (i := 0) (x_dk dn_166_0_ok 24 rfl)))))
  (e_Tok2
  (e_Lok (e_st (I := eI) (er_getf (ci := 8) (k := 8) (ix := 132) (N := 17) (C := RX8) (T := TX8) rfl in_X8 (by decide) (in_t1 (List.mem_of_getElem? (i := 77) rfl) rfl) (x_dk dn_166_0_ok 25 rfl))))
  (e_Lok (e_st (I := eI) (er_ldcw (ix := 281) (z := 65535) (v := 65535) (x_dk dn_166_0_ok 26 rfl) (in_t6 (List.mem_of_getElem? (i := 89) rfl) rfl) (by decide))))))
  (e_Tok2
  (e_Tok2
  (e_Lok (e_st (I := eI) (er_iand (x_dk dn_166_0_ok 27 rfl))))
  (e_Lok (e_ca (I := eI) (q' := n_21) rfl (xr_callV (q' := n_21) (ix := 198) (n := 2) (in_t6 (List.mem_of_getElem? (i := 47) rfl) rfl) good_w (in_t1 (List.mem_of_getElem? (i := 3) rfl) rfl) (in_t6 (List.mem_of_getElem? (i := 44) rfl) rfl) (in_t6 (List.mem_of_getElem? (i := 45) rfl) rfl) (in_t6 (List.mem_of_getElem? (i := 46) rfl) rfl) (by decide +kernel) (by decide +kernel) (by decide +kernel) (x_dk dn_166_0_ok 28 rfl)))))
  (e_Tok2
  (e_Lok (e_st (I := eI) (er_pop (x_dk dn_166_0_ok 29 rfl))))
  (e_Lok (e_rt (I := eI) (k := 0) ⟨(x_dk dn_166_0_ok 30 rfl), rfl⟩)))))))
def te_166 : Nat → eE := te_166_0
theorem te_166_ok : ∀ pc, e_EOq eft cls elay eI n_166 pc (te_166 pc) := te_166_0_ok
def dn_167_0 : List (Nat × Instr × Nat) := [(0, .aload_n 0, 1), (1, .getfield 45, 3), (4, .bipush 16, 2), (6, .if_icmp .lt 6, 3), (9, .bipush (-3), 2), (11, .ireturn, 1), (12, .aload_n 0, 1), (13, .getfield 9, 3), (16, .aload_n 0, 1), (17, .getfield 45, 3), (20, .iload_n 1, 1), (21, .iastore, 1), (22, .aload_n 0, 1), (23, .getfield 15, 3), (26, .aload_n 0, 1), (27, .getfield 45, 3), (30, .iload_n 2, 1), (31, .iastore, 1), (32, .aload_n 0, 1), (33, .getfield 18, 3), (36, .aload_n 0, 1), (37, .getfield 45, 3), (40, .iload_n 3, 1), (41, .iastore, 1), (42, .aload_n 0, 1), (43, .getfield 21, 3), (46, .aload_n 0, 1), (47, .getfield 45, 3), (50, .iload 4, 2), (52, .iastore, 1), (53, .aload_n 0, 1), (54, .getfield 24, 3), (57, .aload_n 0, 1), (58, .getfield 45, 3), (61, .iload 5, 2), (63, .iastore, 1), (64, .aload_n 0, 1), (65, .dup, 1), (66, .getfield 45, 3), (69, .iconst 1, 1), (70, .iadd, 1), (71, .putfield 45, 3), (74, .aload_n 0, 1), (75, .getfield 45, 3), (78, .iconst 1, 1), (79, .isub, 1), (80, .ireturn, 1)]
set_option maxRecDepth 20000 in
theorem dn_167_0_ok : dn_167_0.all (fun q => decide (decode prog_11_method_2_code q.1 = .ok (q.2.1, q.2.2))) = true := by decide +kernel
def te_167_0 : Nat → eE := (e_T 20 (e_T 9 (e_T 1 (e_T 0 (e_L 0 (0, ei_load 0 2 1, 0, 0)) (e_L 1 (0, ei_getf eft elay 9 0 4, 0, 0))) (e_T 4 (e_L 4 (0, ei_push (0, 16) 6, 0, 0)) (e_T 6 (e_L 6 (0, ei_if2 2 12 9, 0, 0)) (e_L 9 (0, ei_push (0, (-3)) 11, 0, 0))))) (e_T 13 (e_T 11 (e_L 11 (1, e_nof, 1, 0)) (e_T 12 (e_L 12 (0, ei_load 0 2 13, 0, 0)) (e_L 13 (0, ei_getf eft elay 9 2 16, 0, 0)))) (e_T 16 (e_L 16 (0, ei_load 0 2 17, 0, 0)) (e_T 17 (e_L 17 (0, ei_getf eft elay 9 0 20, 0, 0)) (e_L 20 (0, ei_load 1 0 21, 0, 0)))))) (e_T 30 (e_T 23 (e_T 21 (e_L 21 (0, ei_ast elay false 22, 0, 0)) (e_T 22 (e_L 22 (0, ei_load 0 2 23, 0, 0)) (e_L 23 (0, ei_getf eft elay 9 3 26, 0, 0)))) (e_T 26 (e_L 26 (0, ei_load 0 2 27, 0, 0)) (e_T 27 (e_L 27 (0, ei_getf eft elay 9 0 30, 0, 0)) (e_L 30 (0, ei_load 2 0 31, 0, 0))))) (e_T 33 (e_T 31 (e_L 31 (0, ei_ast elay false 32, 0, 0)) (e_T 32 (e_L 32 (0, ei_load 0 2 33, 0, 0)) (e_L 33 (0, ei_getf eft elay 9 4 36, 0, 0)))) (e_T 36 (e_L 36 (0, ei_load 0 2 37, 0, 0)) (e_T 37 (e_L 37 (0, ei_getf eft elay 9 0 40, 0, 0)) (e_L 40 (0, ei_load 3 0 41, 0, 0)))))))
set_option maxRecDepth 20000 in
set_option maxHeartbeats 4000000 in
theorem te_167_0_ok : ∀ pc, e_EOq eft cls elay eI n_167 pc (te_167_0 pc) :=
  (e_Tok2
  (e_Tok2
  (e_Tok2
  (e_Tok2
  (e_Lok (e_st (I := eI) (er_aload_n (i := 0) (x_dk dn_167_0_ok 0 rfl))))
  (e_Lok (e_st (I := eI) (er_getf (ci := 9) (k := 0) (ix := 45) (N := 17) (C := RX9) (T := TX9) rfl in_X9 (by decide) (in_t3 (List.mem_of_getElem? (i := 137) rfl) rfl) (x_dk dn_167_0_ok 1 rfl)))))
  (e_Tok2
  (e_Lok (e_st (I := eI) (er_bipush (n := 16) (z := 16) (v := 16) (x_dk dn_167_0_ok 2 rfl) (by decide) (by decide))))
  (e_Tok2
  (e_Lok (e_st (I := eI) (er_icmplt (off := 6) (tg := 12) (x_dk dn_167_0_ok 3 rfl) (by decide))))
  (e_Lok (e_st (I := eI) (er_bipush (n := (-3)) (z := (-3)) (v := (-3)) (x_dk dn_167_0_ok 4 rfl) (by decide) (by decide)))))))
  (e_Tok2
  (e_Tok2
  (e_Lok (e_rt (I := eI) (k := 1) ⟨(x_dk dn_167_0_ok 5 rfl), rfl⟩))
  (e_Tok2
  (e_Lok (e_st (I := eI) (er_aload_n (i := 0) (x_dk dn_167_0_ok 6 rfl))))
  (e_Lok (e_st (I := eI) (er_getf (ci := 9) (k := 2) (ix := 9) (N := 17) (C := RX9) (T := TX9) rfl in_X9 (by decide) (in_t3 (List.mem_of_getElem? (i := 141) rfl) rfl) (x_dk dn_167_0_ok 7 rfl))))))
  (e_Tok2
  (e_Lok (e_st (I := eI) (er_aload_n (i := 0) (x_dk dn_167_0_ok 8 rfl))))
  (e_Tok2
  (e_Lok (e_st (I := eI) (er_getf (ci := 9) (k := 0) (ix := 45) (N := 17) (C := RX9) (T := TX9) rfl in_X9 (by decide) (in_t3 (List.mem_of_getElem? (i := 137) rfl) rfl) (x_dk dn_167_0_ok 9 rfl))))
  (e_Lok (e_st (I := eI) (er_iload_n (i := 1) (x_dk dn_167_0_ok 10 rfl))))))))
  (e_Tok2
  (e_Tok2
  (e_Tok2
  (e_Lok (e_st (I := eI) (er_iastore (x_dk dn_167_0_ok 11 rfl))))
  (e_Tok2
  (e_Lok (e_st (I := eI) (er_aload_n (i := 0) (x_dk dn_167_0_ok 12 rfl))))
  (e_Lok (e_st (I := eI) (er_getf (ci := 9) (k := 3) (ix := 15) (N := 17) (C := RX9) (T := TX9) rfl in_X9 (by decide) (in_t3 (List.mem_of_getElem? (i := 142) rfl) rfl) (x_dk dn_167_0_ok 13 rfl))))))
  (e_Tok2
  (e_Lok (e_st (I := eI) (er_aload_n (i := 0) (x_dk dn_167_0_ok 14 rfl))))
  (e_Tok2
  (e_Lok (e_st (I := eI) (er_getf (ci := 9) (k := 0) (ix := 45) (N := 17) (C := RX9) (T := TX9) rfl in_X9 (by decide) (in_t3 (List.mem_of_getElem? (i := 137) rfl) rfl) (x_dk dn_167_0_ok 15 rfl))))
  (e_Lok (e_st (I := eI) (er_iload_n (i := 2) (x_dk dn_167_0_ok 16 rfl)))))))
  (e_Tok2
  (e_Tok2
  (e_Lok (e_st (I := eI) (er_iastore (x_dk dn_167_0_ok 17 rfl))))
  (e_Tok2
  (e_Lok (e_st (I := eI) (er_aload_n (i := 0) (x_dk dn_167_0_ok 18 rfl))))
  (e_Lok (e_st (I := eI) (er_getf (ci := 9) (k := 4) (ix := 18) (N := 17) (C := RX9) (T := TX9) rfl in_X9 (by decide) (in_t3 (List.mem_of_getElem? (i := 143) rfl) rfl) (x_dk dn_167_0_ok 19 rfl))))))
  (e_Tok2
  (e_Lok (e_st (I := eI) (er_aload_n (i := 0) (x_dk dn_167_0_ok 20 rfl))))
  (e_Tok2
  (e_Lok (e_st (I := eI) (er_getf (ci := 9) (k := 0) (ix := 45) (N := 17) (C := RX9) (T := TX9) rfl in_X9 (by decide) (in_t3 (List.mem_of_getElem? (i := 137) rfl) rfl) (x_dk dn_167_0_ok 21 rfl))))
  (e_Lok (e_st (I := eI) (er_iload_n (i := 3) (x_dk dn_167_0_ok 22 rfl)))))))))
def te_167_23 : Nat → eE := (e_T 61 (e_T 50 (e_T 43 (e_T 41 (e_L 41 (0, ei_ast elay false 42, 0, 0)) (e_T 42 (e_L 42 (0, ei_load 0 2 43, 0, 0)) (e_L 43 (0, ei_getf eft elay 9 5 46, 0, 0)))) (e_T 46 (e_L 46 (0, ei_load 0 2 47, 0, 0)) (e_T 47 (e_L 47 (0, ei_getf eft elay 9 0 50, 0, 0)) (e_L 50 (0, ei_load 4 0 52, 0, 0))))) (e_T 54 (e_T 52 (e_L 52 (0, ei_ast elay false 53, 0, 0)) (e_T 53 (e_L 53 (0, ei_load 0 2 54, 0, 0)) (e_L 54 (0, ei_getf eft elay 9 6 57, 0, 0)))) (e_T 57 (e_L 57 (0, ei_load 0 2 58, 0, 0)) (e_T 58 (e_L 58 (0, ei_getf eft elay 9 0 61, 0, 0)) (e_L 61 (0, ei_load 5 0 63, 0, 0)))))) (e_T 70 (e_T 65 (e_T 63 (e_L 63 (0, ei_ast elay false 64, 0, 0)) (e_T 64 (e_L 64 (0, ei_load 0 2 65, 0, 0)) (e_L 65 (0, ei_stk ef_dup 66, 0, 0)))) (e_T 66 (e_L 66 (0, ei_getf eft elay 9 0 69, 0, 0)) (e_T 69 (e_L 69 (0, ei_push (0, 1) 70, 0, 0)) (e_L 70 (0, ei_bin eF_add 71, 0, 0))))) (e_T 75 (e_T 71 (e_L 71 (0, ei_putf eft elay 9 0 0 74, 0, 0)) (e_T 74 (e_L 74 (0, ei_load 0 2 75, 0, 0)) (e_L 75 (0, ei_getf eft elay 9 0 78, 0, 0)))) (e_T 78 (e_L 78 (0, ei_push (0, 1) 79, 0, 0)) (e_T 79 (e_L 79 (0, ei_bin eF_sub 80, 0, 0)) (e_L 80 (1, e_nof, 1, 0)))))))
set_option maxRecDepth 20000 in
set_option maxHeartbeats 4000000 in
theorem te_167_23_ok : ∀ pc, e_EOq eft cls elay eI n_167 pc (te_167_23 pc) :=
  (e_Tok2
  (e_Tok2
  (e_Tok2
  (e_Tok2
  (e_Lok (e_st (I := eI) (er_iastore (x_dk dn_167_0_ok 23 rfl))))
  (e_Tok2
  (e_Lok (e_st (I := eI) (er_aload_n (i := 0) (x_dk dn_167_0_ok 24 rfl))))
  (e_Lok (e_st (I := eI) (er_getf (ci := 9) (k := 5) (ix := 21) (N := 17) (C := RX9) (T := TX9) rfl in_X9 (by decide) (in_t3 (List.mem_of_getElem? (i := 144) rfl) rfl) (x_dk dn_167_0_ok 25 rfl))))))
  (e_Tok2
  (e_Lok (e_st (I := eI) (er_aload_n (i := 0) (x_dk dn_167_0_ok 26 rfl))))
  (e_Tok2
  (e_Lok (e_st (I := eI) (er_getf (ci := 9) (k := 0) (ix := 45) (N := 17) (C := RX9) (T := TX9) rfl in_X9 (by decide) (in_t3 (List.mem_of_getElem? (i := 137) rfl) rfl) (x_dk dn_167_0_ok 27 rfl))))
  (e_Lok (e_st (I := eI) (er_iload (i := 4) (x_dk dn_167_0_ok 28 rfl)))))))
  (e_Tok2
  (e_Tok2
  (e_Lok (e_st (I := eI) (er_iastore (x_dk dn_167_0_ok 29 rfl))))
  (e_Tok2
  (e_Lok (e_st (I := eI) (er_aload_n (i := 0) (x_dk dn_167_0_ok 30 rfl))))
  (e_Lok (e_st (I := eI) (er_getf (ci := 9) (k := 6) (ix := 24) (N := 17) (C := RX9) (T := TX9) rfl in_X9 (by decide) (in_t3 (List.mem_of_getElem? (i := 145) rfl) rfl) (x_dk dn_167_0_ok 31 rfl))))))
  (e_Tok2
  (e_Lok (e_st (I := eI) (er_aload_n (i := 0) (x_dk dn_167_0_ok 32 rfl))))
  (e_Tok2
  (e_Lok (e_st (I := eI) (er_getf (ci := 9) (k := 0) (ix := 45) (N := 17) (C := RX9) (T := TX9) rfl in_X9 (by decide) (in_t3 (List.mem_of_getElem? (i := 137) rfl) rfl) (x_dk dn_167_0_ok 33 rfl))))
  (e_Lok (e_st (I := eI) (er_iload (i := 5) (x_dk dn_167_0_ok 34 rfl))))))))
  (e_Tok2
  (e_Tok2
  (e_Tok2
  (e_Lok (e_st (I := eI) (er_iastore (x_dk dn_167_0_ok 35 rfl))))
  (e_Tok2
  (e_Lok (e_st (I := eI) (er_aload_n (i := 0) (x_dk dn_167_0_ok 36 rfl))))
  (e_Lok (e_st (I := eI) (er_dup (x_dk dn_167_0_ok 37 rfl))))))
  (e_Tok2
  (e_Lok (e_st (I := eI) (er_getf (ci := 9) (k := 0) (ix := 45) (N := 17) (C := RX9) (T := TX9) rfl in_X9 (by decide) (in_t3 (List.mem_of_getElem? (i := 137) rfl) rfl) (x_dk dn_167_0_ok 38 rfl))))
  (e_Tok2
  (e_Lok (e_st (I := eI) (er_iconst (n := 1) (z := 1) (v := 1) (x_dk dn_167_0_ok 39 rfl) (by decide) (by decide))))
  (e_Lok (e_st (I := eI) (er_iadd (x_dk dn_167_0_ok 40 rfl)))))))
  (e_Tok2
  (e_Tok2
  (e_Lok (e_st (I := eI) (er_putf (ci := 9) (k := 0) (ix := 45) (N := 17) (fk := 0) (C := RX9) (T := TX9) (ty0 := tyX9) (ty := .int) rfl in_X9 tyX9_ok nmX9 (by decide) (in_t3 (List.mem_of_getElem? (i := 137) rfl) rfl) rfl rfl x_fit_int (x_dk dn_167_0_ok 41 rfl))))
  (e_Tok2
  (e_Lok (e_st (I := eI) (er_aload_n (i := 0) (x_dk dn_167_0_ok 42 rfl))))
  (e_Lok (e_st (I := eI) (er_getf (ci := 9) (k := 0) (ix := 45) (N := 17) (C := RX9) (T := TX9) rfl in_X9 (by decide) (in_t3 (List.mem_of_getElem? (i := 137) rfl) rfl) (x_dk dn_167_0_ok 43 rfl))))))
  (e_Tok2
  (e_Lok (e_st (I := eI) (er_iconst (n := 1) (z := 1) (v := 1) (x_dk dn_167_0_ok 44 rfl) (by decide) (by decide))))
  (e_Tok2
  (e_Lok (e_st (I := eI) (er_isub (x_dk dn_167_0_ok 45 rfl))))
  (e_Lok (e_rt (I := eI) (k := 1) ⟨(x_dk dn_167_0_ok 46 rfl), rfl⟩)))))))
def te_167 : Nat → eE := (e_T 40 te_167_0 te_167_23)
theorem te_167_ok : ∀ pc, e_EOq eft cls elay eI n_167 pc (te_167 pc) := (e_Tok2 (te_167_0_ok) (te_167_23_ok))
def dn_168_0 : List (Nat × Instr × Nat) := [(0, .aload_n 0, 1), (1, .getfield 49, 3), (4, .bipush 8, 2), (6, .if_icmp .lt 6, 3), (9, .bipush (-3), 2), (11, .ireturn, 1), (12, .aload_n 0, 1), (13, .getfield 27, 3), (16, .aload_n 0, 1), (17, .getfield 49, 3), (20, .iload_n 1, 1), (21, .iastore, 1), (22, .aload_n 0, 1), (23, .getfield 33, 3), (26, .aload_n 0, 1), (27, .getfield 49, 3), (30, .iload_n 2, 1), (31, .iastore, 1), (32, .aload_n 0, 1), (33, .getfield 36, 3), (36, .aload_n 0, 1), (37, .getfield 49, 3), (40, .iload_n 3, 1), (41, .iastore, 1), (42, .aload_n 0, 1), (43, .getfield 39, 3), (46, .aload_n 0, 1), (47, .getfield 49, 3), (50, .iload_n 2, 1), (51, .iload 4, 2), (53, .iadd, 1), (54, .iastore, 1), (55, .aload_n 0, 1), (56, .getfield 42, 3), (59, .aload_n 0, 1), (60, .getfield 49, 3), (63, .iload_n 3, 1), (64, .iload 5, 2), (66, .iadd, 1), (67, .iastore, 1), (68, .aload_n 0, 1), (69, .getfield 30, 3), (72, .aload_n 0, 1), (73, .getfield 49, 3), (76, .iconst (-1), 1), (77, .iastore, 1), (78, .aload_n 0, 1), (79, .dup, 1), (80, .getfield 49, 3), (83, .iconst 1, 1), (84, .iadd, 1), (85, .putfield 49, 3), (88, .aload_n 0, 1), (89, .getfield 49, 3), (92, .iconst 1, 1), (93, .isub, 1), (94, .ireturn, 1)]
set_option maxRecDepth 20000 in
theorem dn_168_0_ok : dn_168_0.all (fun q => decide (decode prog_11_method_3_code q.1 = .ok (q.2.1, q.2.2))) = true := by decide +kernel
def te_168_0 : Nat → eE := (e_T 23 (e_T 12 (e_T 4 (e_T 0 (e_L 0 (0, ei_load 0 2 1, 0, 0)) (e_T 1 (e_L 1 (0, ei_getf eft elay 9 1 4, 0, 0)) (e_L 4 (0, ei_push (0, 8) 6, 0, 0)))) (e_T 9 (e_T 6 (e_L 6 (0, ei_if2 2 12 9, 0, 0)) (e_L 9 (0, ei_push (0, (-3)) 11, 0, 0))) (e_T 11 (e_L 11 (1, e_nof, 1, 0)) (e_L 12 (0, ei_load 0 2 13, 0, 0))))) (e_T 17 (e_T 13 (e_L 13 (0, ei_getf eft elay 9 7 16, 0, 0)) (e_T 16 (e_L 16 (0, ei_load 0 2 17, 0, 0)) (e_L 17 (0, ei_getf eft elay 9 1 20, 0, 0)))) (e_T 21 (e_T 20 (e_L 20 (0, ei_load 1 0 21, 0, 0)) (e_L 21 (0, ei_ast elay false 22, 0, 0))) (e_T 22 (e_L 22 (0, ei_load 0 2 23, 0, 0)) (e_L 23 (0, ei_getf eft elay 9 9 26, 0, 0)))))) (e_T 36 (e_T 30 (e_T 26 (e_L 26 (0, ei_load 0 2 27, 0, 0)) (e_T 27 (e_L 27 (0, ei_getf eft elay 9 1 30, 0, 0)) (e_L 30 (0, ei_load 2 0 31, 0, 0)))) (e_T 32 (e_T 31 (e_L 31 (0, ei_ast elay false 32, 0, 0)) (e_L 32 (0, ei_load 0 2 33, 0, 0))) (e_T 33 (e_L 33 (0, ei_getf eft elay 9 10 36, 0, 0)) (e_L 36 (0, ei_load 0 2 37, 0, 0))))) (e_T 41 (e_T 37 (e_L 37 (0, ei_getf eft elay 9 1 40, 0, 0)) (e_T 40 (e_L 40 (0, ei_load 3 0 41, 0, 0)) (e_L 41 (0, ei_ast elay false 42, 0, 0)))) (e_T 43 (e_T 42 (e_L 42 (0, ei_load 0 2 43, 0, 0)) (e_L 43 (0, ei_getf eft elay 9 11 46, 0, 0))) (e_T 46 (e_L 46 (0, ei_load 0 2 47, 0, 0)) (e_L 47 (0, ei_getf eft elay 9 1 50, 0, 0)))))))
set_option maxRecDepth 20000 in
set_option maxHeartbeats 4000000 in
theorem te_168_0_ok : ∀ pc, e_EOq eft cls elay eI n_168 pc (te_168_0 pc) :=
  (e_Tok2
  (e_Tok2
  (e_Tok2
  (e_Tok2
  (e_Lok (e_st (I := eI) (er_aload_n (i := 0) (x_dk dn_168_0_ok 0 rfl))))
  (e_Tok2
  (e_Lok (e_st (I := eI) (er_getf (ci := 9) (k := 1) (ix := 49) (N := 17) (C := RX9) (T := TX9) rfl in_X9 (by decide) (in_t3 (List.mem_of_getElem? (i := 139) rfl) rfl) (x_dk dn_168_0_ok 1 rfl))))
  (e_Lok (e_st (I := eI) (er_bipush (n := 8) (z := 8) (v := 8) (x_dk dn_168_0_ok 2 rfl) (by decide) (by decide))))))
  (e_Tok2
  (e_Tok2
  (e_Lok (e_st (I := eI) (er_icmplt (off := 6) (tg := 12) (x_dk dn_168_0_ok 3 rfl) (by decide))))
  (e_Lok (e_st (I := eI) (er_bipush (n := (-3)) (z := (-3)) (v := (-3)) (x_dk dn_168_0_ok 4 rfl) (by decide) (by decide)))))
  (e_Tok2
  (e_Lok (e_rt (I := eI) (k := 1) ⟨(x_dk dn_168_0_ok 5 rfl), rfl⟩))
  (e_Lok (e_st (I := eI) (er_aload_n (i := 0) (x_dk dn_168_0_ok 6 rfl)))))))
  (e_Tok2
  (e_Tok2
  (e_Lok (e_st (I := eI) (er_getf (ci := 9) (k := 7) (ix := 27) (N := 17) (C := RX9) (T := TX9) rfl in_X9 (by decide) (in_t3 (List.mem_of_getElem? (i := 146) rfl) rfl) (x_dk dn_168_0_ok 7 rfl))))
  (e_Tok2
  (e_Lok (e_st (I := eI) (er_aload_n (i := 0) (x_dk dn_168_0_ok 8 rfl))))
  (e_Lok (e_st (I := eI) (er_getf (ci := 9) (k := 1) (ix := 49) (N := 17) (C := RX9) (T := TX9) rfl in_X9 (by decide) (in_t3 (List.mem_of_getElem? (i := 139) rfl) rfl) (x_dk dn_168_0_ok 9 rfl))))))
  (e_Tok2
  (e_Tok2
  (e_Lok (e_st (I := eI) (er_iload_n (i := 1) (x_dk dn_168_0_ok 10 rfl))))
  (e_Lok (e_st (I := eI) (er_iastore (x_dk dn_168_0_ok 11 rfl)))))
  (e_Tok2
  (e_Lok (e_st (I := eI) (er_aload_n (i := 0) (x_dk dn_168_0_ok 12 rfl))))
  (e_Lok (e_st (I := eI) (er_getf (ci := 9) (k := 9) (ix := 33) (N := 17) (C := RX9) (T := TX9) rfl in_X9 (by decide) (in_t3 (List.mem_of_getElem? (i := 149) rfl) rfl) (x_dk dn_168_0_ok 13 rfl))))))))
  (e_Tok2
  (e_Tok2
  (e_Tok2
  (e_Lok (e_st (I := eI) (er_aload_n (i := 0) (x_dk dn_168_0_ok 14 rfl))))
  (e_Tok2
  (e_Lok (e_st (I := eI) (er_getf (ci := 9) (k := 1) (ix := 49) (N := 17) (C := RX9) (T := TX9) rfl in_X9 (by decide) (in_t3 (List.mem_of_getElem? (i := 139) rfl) rfl) (x_dk dn_168_0_ok 15 rfl))))
  (e_Lok (e_st (I := eI) (er_iload_n (i := 2) (x_dk dn_168_0_ok 16 rfl))))))
  (e_Tok2
  (e_Tok2
  (e_Lok (e_st (I := eI) (er_iastore (x_dk dn_168_0_ok 17 rfl))))
  (e_Lok (e_st (I := eI) (er_aload_n (i := 0) (x_dk dn_168_0_ok 18 rfl)))))
  (e_Tok2
  (e_Lok (e_st (I := eI) (er_getf (ci := 9) (k := 10) (ix := 36) (N := 17) (C := RX9) (T := TX9) rfl in_X9 (by decide) (in_t3 (List.mem_of_getElem? (i := 150) rfl) rfl) (x_dk dn_168_0_ok 19 rfl))))
  (e_Lok (e_st (I := eI) (er_aload_n (i := 0) (x_dk dn_168_0_ok 20 rfl)))))))
  (e_Tok2
  (e_Tok2
  (e_Lok (e_st (I := eI) (er_getf (ci := 9) (k := 1) (ix := 49) (N := 17) (C := RX9) (T := TX9) rfl in_X9 (by decide) (in_t3 (List.mem_of_getElem? (i := 139) rfl) rfl) (x_dk dn_168_0_ok 21 rfl))))
  (e_Tok2
  (e_Lok (e_st (I := eI) (er_iload_n (i := 3) (x_dk dn_168_0_ok 22 rfl))))
  (e_Lok (e_st (I := eI) (er_iastore (x_dk dn_168_0_ok 23 rfl))))))
  (e_Tok2
  (e_Tok2
  (e_Lok (e_st (I := eI) (er_aload_n (i := 0) (x_dk dn_168_0_ok 24 rfl))))
  (e_Lok (e_st (I := eI) (er_getf (ci := 9) (k := 11) (ix := 39) (N := 17) (C := RX9) (T := TX9) rfl in_X9 (by decide) (in_t3 (List.mem_of_getElem? (i := 151) rfl) rfl) (x_dk dn_168_0_ok 25 rfl)))))
  (e_Tok2
  (e_Lok (e_st (I := eI) (er_aload_n (i := 0) (x_dk dn_168_0_ok 26 rfl))))
  (e_Lok (e_st (I := eI) (er_getf (ci := 9) (k := 1) (ix := 49) (N := 17) (C := RX9) (T := TX9) rfl in_X9 (by decide) (in_t3 (List.mem_of_getElem? (i := 139) rfl) rfl) (x_dk dn_168_0_ok 27 rfl)))))))))
def te_168_28 : Nat → eE := (e_T 69 (e_T 59 (e_T 53 (e_T 50 (e_L 50 (0, ei_load 2 0 51, 0, 0)) (e_T 51 (e_L 51 (0, ei_load 4 0 53, 0, 0)) (e_L 53 (0, ei_bin eF_add 54, 0, 0)))) (e_T 55 (e_T 54 (e_L 54 (0, ei_ast elay false 55, 0, 0)) (e_L 55 (0, ei_load 0 2 56, 0, 0))) (e_T 56 (e_L 56 (0, ei_getf eft elay 9 12 59, 0, 0)) (e_L 59 (0, ei_load 0 2 60, 0, 0))))) (e_T 64 (e_T 60 (e_L 60 (0, ei_getf eft elay 9 1 63, 0, 0)) (e_T 63 (e_L 63 (0, ei_load 3 0 64, 0, 0)) (e_L 64 (0, ei_load 5 0 66, 0, 0)))) (e_T 67 (e_T 66 (e_L 66 (0, ei_bin eF_add 67, 0, 0)) (e_L 67 (0, ei_ast elay false 68, 0, 0))) (e_T 68 (e_L 68 (0, ei_load 0 2 69, 0, 0)) (e_L 69 (0, ei_getf eft elay 9 8 72, 0, 0)))))) (e_T 80 (e_T 76 (e_T 72 (e_L 72 (0, ei_load 0 2 73, 0, 0)) (e_T 73 (e_L 73 (0, ei_getf eft elay 9 1 76, 0, 0)) (e_L 76 (0, ei_push (0, (-1)) 77, 0, 0)))) (e_T 78 (e_T 77 (e_L 77 (0, ei_ast elay false 78, 0, 0)) (e_L 78 (0, ei_load 0 2 79, 0, 0))) (e_T 79 (e_L 79 (0, ei_stk ef_dup 80, 0, 0)) (e_L 80 (0, ei_getf eft elay 9 1 83, 0, 0))))) (e_T 88 (e_T 84 (e_T 83 (e_L 83 (0, ei_push (0, 1) 84, 0, 0)) (e_L 84 (0, ei_bin eF_add 85, 0, 0))) (e_T 85 (e_L 85 (0, ei_putf eft elay 9 1 0 88, 0, 0)) (e_L 88 (0, ei_load 0 2 89, 0, 0)))) (e_T 92 (e_T 89 (e_L 89 (0, ei_getf eft elay 9 1 92, 0, 0)) (e_L 92 (0, ei_push (0, 1) 93, 0, 0))) (e_T 93 (e_L 93 (0, ei_bin eF_sub 94, 0, 0)) (e_L 94 (1, e_nof, 1, 0)))))))
set_option maxRecDepth 20000 in
set_option maxHeartbeats 4000000 in
theorem te_168_28_ok : ∀ pc, e_EOq eft cls elay eI n_168 pc (te_168_28 pc) :=
  (e_Tok2
  (e_Tok2
  (e_Tok2
  (e_Tok2
  (e_Lok (e_st (I := eI) (er_iload_n (i := 2) (x_dk dn_168_0_ok 28 rfl))))
  (e_Tok2
  (e_Lok (e_st (I := eI) (er_iload (i := 4) (x_dk dn_168_0_ok 29 rfl))))
  (e_Lok (e_st (I := eI) (er_iadd (x_dk dn_168_0_ok 30 rfl))))))
  (e_Tok2
  (e_Tok2
  (e_Lok (e_st (I := eI) (er_iastore (x_dk dn_168_0_ok 31 rfl))))
  (e_Lok (e_st (I := eI) (er_aload_n (i := 0) (x_dk dn_168_0_ok 32 rfl)))))
  (e_Tok2
  (e_Lok (e_st (I := eI) (er_getf (ci := 9) (k := 12) (ix := 42) (N := 17) (C := RX9) (T := TX9) rfl in_X9 (by decide) (in_t3 (List.mem_of_getElem? (i := 152) rfl) rfl) (x_dk dn_168_0_ok 33 rfl))))
  (e_Lok (e_st (I := eI) (er_aload_n (i := 0) (x_dk dn_168_0_ok 34 rfl)))))))
  (e_Tok2
  (e_Tok2
  (e_Lok (e_st (I := eI) (er_getf (ci := 9) (k := 1) (ix := 49) (N := 17) (C := RX9) (T := TX9) rfl in_X9 (by decide) (in_t3 (List.mem_of_getElem? (i := 139) rfl) rfl) (x_dk dn_168_0_ok 35 rfl))))
  (e_Tok2
  (e_Lok (e_st (I := eI) (er_iload_n (i := 3) (x_dk dn_168_0_ok 36 rfl))))
  (e_Lok (e_st (I := eI) (er_iload (i := 5) (x_dk dn_168_0_ok 37 rfl))))))
  (e_Tok2
  (e_Tok2
  (e_Lok (e_st (I := eI) (er_iadd (x_dk dn_168_0_ok 38 rfl))))
  (e_Lok (e_st (I := eI) (er_iastore (x_dk dn_168_0_ok 39 rfl)))))
  (e_Tok2
  (e_Lok (e_st (I := eI) (er_aload_n (i := 0) (x_dk dn_168_0_ok 40 rfl))))
  (e_Lok (e_st (I := eI) (er_getf (ci := 9) (k := 8) (ix := 30) (N := 17) (C := RX9) (T := TX9) rfl in_X9 (by decide) (in_t3 (List.mem_of_getElem? (i := 147) rfl) rfl) (x_dk dn_168_0_ok 41 rfl))))))))
  (e_Tok2
  (e_Tok2
  (e_Tok2
  (e_Lok (e_st (I := eI) (er_aload_n (i := 0) (x_dk dn_168_0_ok 42 rfl))))
  (e_Tok2
  (e_Lok (e_st (I := eI) (er_getf (ci := 9) (k := 1) (ix := 49) (N := 17) (C := RX9) (T := TX9) rfl in_X9 (by decide) (in_t3 (List.mem_of_getElem? (i := 139) rfl) rfl) (x_dk dn_168_0_ok 43 rfl))))
  (e_Lok (e_st (I := eI) (er_iconst (n := (-1)) (z := (-1)) (v := (-1)) (x_dk dn_168_0_ok 44 rfl) (by decide) (by decide))))))
  (e_Tok2
  (e_Tok2
  (e_Lok (e_st (I := eI) (er_iastore (x_dk dn_168_0_ok 45 rfl))))
  (e_Lok (e_st (I := eI) (er_aload_n (i := 0) (x_dk dn_168_0_ok 46 rfl)))))
  (e_Tok2
  (e_Lok (e_st (I := eI) (er_dup (x_dk dn_168_0_ok 47 rfl))))
  (e_Lok (e_st (I := eI) (er_getf (ci := 9) (k := 1) (ix := 49) (N := 17) (C := RX9) (T := TX9) rfl in_X9 (by decide) (in_t3 (List.mem_of_getElem? (i := 139) rfl) rfl) (x_dk dn_168_0_ok 48 rfl)))))))
  (e_Tok2
  (e_Tok2
  (e_Tok2
  (e_Lok (e_st (I := eI) (er_iconst (n := 1) (z := 1) (v := 1) (x_dk dn_168_0_ok 49 rfl) (by decide) (by decide))))
  (e_Lok (e_st (I := eI) (er_iadd (x_dk dn_168_0_ok 50 rfl)))))
  (e_Tok2
  (e_Lok (e_st (I := eI) (er_putf (ci := 9) (k := 1) (ix := 49) (N := 17) (fk := 0) (C := RX9) (T := TX9) (ty0 := tyX9) (ty := .int) rfl in_X9 tyX9_ok nmX9 (by decide) (in_t3 (List.mem_of_getElem? (i := 139) rfl) rfl) rfl rfl x_fit_int (x_dk dn_168_0_ok 51 rfl))))
  (e_Lok (e_st (I := eI) (er_aload_n (i := 0) (x_dk dn_168_0_ok 52 rfl))))))
  (e_Tok2
  (e_Tok2
  (e_Lok (e_st (I := eI) (er_getf (ci := 9) (k := 1) (ix := 49) (N := 17) (C := RX9) (T := TX9) rfl in_X9 (by decide) (in_t3 (List.mem_of_getElem? (i := 139) rfl) rfl) (x_dk dn_168_0_ok 53 rfl))))
  (e_Lok (e_st (I := eI) (er_iconst (n := 1) (z := 1) (v := 1) (x_dk dn_168_0_ok 54 rfl) (by decide) (by decide)))))
  (e_Tok2
  (e_Lok (e_st (I := eI) (er_isub (x_dk dn_168_0_ok 55 rfl))))
  (e_Lok (e_rt (I := eI) (k := 1) ⟨(x_dk dn_168_0_ok 56 rfl), rfl⟩)))))))
def te_168 : Nat → eE := (e_T 47 te_168_0 te_168_28)
theorem te_168_ok : ∀ pc, e_EOq eft cls elay eI n_168 pc (te_168 pc) := (e_Tok2 (te_168_0_ok) (te_168_28_ok))
def dn_169_0 : List (Nat × Instr × Nat) := [(0, .iconst 0, 1), (1, .istore_n 2, 1), (2, .iload_n 2, 1), (3, .aload_n 0, 1), (4, .getfield 49, 3), (7, .if_icmp .ge 49, 3), (10, .aload_n 1, 1), (11, .aload_n 0, 1), (12, .getfield 27, 3), (15, .iload_n 2, 1), (16, .iaload, 1), (17, .aaload, 1), (18, .astore_n 3, 1), (19, .iconst 1, 1), (20, .istore 4, 2), (22, .iload 4, 2), (24, .aload_n 3, 1), (25, .getfield 52, 3), (28, .if_icmp .gt 22, 3), (31, .aload_n 0, 1), (32, .iload_n 2, 1), (33, .aload_n 3, 1), (34, .iload 4, 2), (36, .invokevirtual 57, 3), (39, .ifCond .eq 5, 3), (42, .iload_n 2, 1), (43, .ireturn, 1), (44, .iinc 4 1, 3), (47, .goto (-25), 3), (50, .iinc 2 1, 3), (53, .goto (-51), 3), (56, .iconst (-1), 1), (57, .ireturn, 1)]
set_option maxRecDepth 20000 in
theorem dn_169_0_ok : dn_169_0.all (fun q => decide (decode prog_11_method_4_code q.1 = .ok (q.2.1, q.2.2))) = true := by decide +kernel
def te_169_0 : Nat → eE := (e_T 22 (e_T 11 (e_T 3 (e_T 1 (e_T 0 (e_L 0 (0, ei_push (0, 0) 1, 0, 0)) (e_L 1 (0, ei_stor 2 0 2, 0, 0))) (e_T 2 (e_L 2 (0, ei_load 2 0 3, 0, 0)) (e_L 3 (0, ei_load 0 2 4, 0, 0)))) (e_T 7 (e_T 4 (e_L 4 (0, ei_getf eft elay 9 1 7, 0, 0)) (e_L 7 (0, ei_if2 3 56 10, 0, 0))) (e_T 10 (e_L 10 (0, ei_load 1 2 11, 0, 0)) (e_L 11 (0, ei_load 0 2 12, 0, 0))))) (e_T 17 (e_T 15 (e_T 12 (e_L 12 (0, ei_getf eft elay 9 7 15, 0, 0)) (e_L 15 (0, ei_load 2 0 16, 0, 0))) (e_T 16 (e_L 16 (0, ei_ald elay false 17, 0, 0)) (e_L 17 (0, ei_aald elay 18, 0, 0)))) (e_T 19 (e_T 18 (e_L 18 (0, ei_stor 3 2 19, 0, 0)) (e_L 19 (0, ei_push (0, 1) 20, 0, 0))) (e_T 20 (e_L 20 (0, ei_stor 4 0 22, 0, 0)) (e_L 22 (0, ei_load 4 0 24, 0, 0)))))) (e_T 36 (e_T 31 (e_T 25 (e_T 24 (e_L 24 (0, ei_load 3 2 25, 0, 0)) (e_L 25 (0, ei_getf eft elay 0 8 28, 0, 0))) (e_T 28 (e_L 28 (0, ei_if2 4 50 31, 0, 0)) (e_L 31 (0, ei_load 0 2 32, 0, 0)))) (e_T 33 (e_T 32 (e_L 32 (0, ei_load 2 0 33, 0, 0)) (e_L 33 (0, ei_load 3 2 34, 0, 0))) (e_T 34 (e_L 34 (0, ei_load 4 0 36, 0, 0)) (e_L 36 (2, e_nof, 170, 4))))) (e_T 44 (e_T 42 (e_T 39 (e_L 39 (0, ei_if1 0 44 42, 0, 0)) (e_L 42 (0, ei_load 2 0 43, 0, 0))) (e_T 43 (e_L 43 (1, e_nof, 1, 0)) (e_L 44 (0, ei_inc 4 1 47, 0, 0)))) (e_T 50 (e_T 47 (e_L 47 (0, ei_goto 22, 0, 0)) (e_L 50 (0, ei_inc 2 1 53, 0, 0))) (e_T 53 (e_L 53 (0, ei_goto 2, 0, 0)) (e_T 56 (e_L 56 (0, ei_push (0, (-1)) 57, 0, 0)) (e_L 57 (1, e_nof, 1, 0))))))))
set_option maxRecDepth 20000 in
set_option maxHeartbeats 4000000 in
theorem te_169_0_ok : ∀ pc, e_EOq eft cls elay eI n_169 pc (te_169_0 pc) :=
  (e_Tok2
  (e_Tok2
  (e_Tok2
  (e_Tok2
  (e_Tok2
  (e_Lok (e_st (I := eI) (er_iconst (n := 0) (z := 0) (v := 0) (x_dk dn_169_0_ok 0 rfl) (by decide) (by decide))))
  (e_Lok (e_st (I := eI) (er_istore_n (i := 2) (x_dk dn_169_0_ok 1 rfl) (by decide +kernel)))))
  (e_Tok2
  (e_Lok (e_st (I := eI) (er_iload_n (i := 2) (x_dk dn_169_0_ok 2 rfl))))
  (e_Lok (e_st (I := eI) (er_aload_n (i := 0) (x_dk dn_169_0_ok 3 rfl))))))
  (e_Tok2
  (e_Tok2
  (e_Lok (e_st (I := eI) (er_getf (ci := 9) (k := 1) (ix := 49) (N := 17) (C := RX9) (T := TX9) rfl in_X9 (by decide) (in_t3 (List.mem_of_getElem? (i := 139) rfl) rfl) (x_dk dn_169_0_ok 4 rfl))))
  (e_Lok (e_st (I := eI) (er_icmpge (off := 49) (tg := 56) (x_dk dn_169_0_ok 5 rfl) (by decide)))))
  (e_Tok2
  (e_Lok (e_st (I := eI) (er_aload_n (i := 1) (x_dk dn_169_0_ok 6 rfl))))
  (e_Lok (e_st (I := eI) (er_aload_n (i := 0) (x_dk dn_169_0_ok 7 rfl)))))))
  (e_Tok2
  (e_Tok2
  (e_Tok2
  (e_Lok (e_st (I := eI) (er_getf (ci := 9) (k := 7) (ix := 27) (N := 17) (C := RX9) (T := TX9) rfl in_X9 (by decide) (in_t3 (List.mem_of_getElem? (i := 146) rfl) rfl) (x_dk dn_169_0_ok 8 rfl))))
  (e_Lok (e_st (I := eI) (er_iload_n (i := 2) (x_dk dn_169_0_ok 9 rfl)))))
  (e_Tok2
  (e_Lok (e_st (I := eI) (er_iaload (x_dk dn_169_0_ok 10 rfl))))
  (e_Lok (e_st (I := eI) (er_aaload (x_dk dn_169_0_ok 11 rfl))))))
  (e_Tok2
  (e_Tok2
  (e_Lok (e_st (I := eI) (er_astore_n (i := 3) (x_dk dn_169_0_ok 12 rfl) (by decide +kernel))))
  (e_Lok (e_st (I := eI) (er_iconst (n := 1) (z := 1) (v := 1) (x_dk dn_169_0_ok 13 rfl) (by decide) (by decide)))))
  (e_Tok2
  (e_Lok (e_st (I := eI) (er_istore (i := 4) (x_dk dn_169_0_ok 14 rfl) (by decide +kernel))))
  (e_Lok (e_st (I := eI) (er_iload (i := 4) (x_dk dn_169_0_ok 15 rfl))))))))
  (e_Tok2
  (e_Tok2
  (e_Tok2
  (e_Tok2
  (e_Lok (e_st (I := eI) (er_aload_n (i := 3) (x_dk dn_169_0_ok 16 rfl))))
  (e_Lok (e_st (I := eI) (er_getf (ci := 0) (k := 8) (ix := 52) (N := 20) (C := RX0) (T := TX0) rfl in_X0 (by decide) (in_t2 (List.mem_of_getElem? (i := 169) rfl) rfl) (x_dk dn_169_0_ok 17 rfl)))))
  (e_Tok2
  (e_Lok (e_st (I := eI) (er_icmpgt (off := 22) (tg := 50) (x_dk dn_169_0_ok 18 rfl) (by decide))))
  (e_Lok (e_st (I := eI) (er_aload_n (i := 0) (x_dk dn_169_0_ok 19 rfl))))))
  (e_Tok2
  (e_Tok2
  (e_Lok (e_st (I := eI) (er_iload_n (i := 2) (x_dk dn_169_0_ok 20 rfl))))
  (e_Lok (e_st (I := eI) (er_aload_n (i := 3) (x_dk dn_169_0_ok 21 rfl)))))
  (e_Tok2
  (e_Lok (e_st (I := eI) (er_iload (i := 4) (x_dk dn_169_0_ok 22 rfl))))
  (e_Lok (e_ca (I := eI) (q' := n_170) rfl (xr_callV (q' := n_170) (ix := 57) (n := 3) (in_t8 (List.mem_of_getElem? (i := 138) rfl) rfl) good_w (in_t1 (List.mem_of_getElem? (i := 11) rfl) rfl) (in_t8 (List.mem_of_getElem? (i := 135) rfl) rfl) (in_t8 (List.mem_of_getElem? (i := 137) rfl) rfl) (in_s7 (List.mem_of_getElem? (i := 9) rfl)) (by decide +kernel) (by decide +kernel) (by decide +kernel) (x_dk dn_169_0_ok 23 rfl)))))))
  (e_Tok2
  (e_Tok2
  (e_Tok2
  (e_Lok (e_st (I := eI) (er_ifeq (off := 5) (tg := 44) (x_dk dn_169_0_ok 24 rfl) (by decide))))
  (e_Lok (e_st (I := eI) (er_iload_n (i := 2) (x_dk dn_169_0_ok 25 rfl)))))
  (e_Tok2
  (e_Lok (e_rt (I := eI) (k := 1) ⟨(x_dk dn_169_0_ok 26 rfl), rfl⟩))
  (e_Lok (e_st (I := eI) (er_iinc (i := 4) (n := 1) (x_dk dn_169_0_ok 27 rfl) (by decide +kernel) (by decide))))))
  (e_Tok2
  (e_Tok2
  (e_Lok (e_st (I := eI) (er_goto (off := (-25)) (tg := 22) (x_dk dn_169_0_ok 28 rfl) (by decide))))
  (e_Lok (e_st (I := eI) (er_iinc (i := 2) (n := 1) (x_dk dn_169_0_ok 29 rfl) (by decide +kernel) (by decide)))))
  (e_Tok2
  (e_Lok (e_st (I := eI) (er_goto (off := (-51)) (tg := 2) (x_dk dn_169_0_ok 30 rfl) (by decide))))
  (e_Tok2
  (e_Lok (e_st (I := eI) (er_iconst (n := (-1)) (z := (-1)) (v := (-1)) (x_dk dn_169_0_ok 31 rfl) (by decide) (by decide))))
  (e_Lok (e_rt (I := eI) (k := 1) ⟨(x_dk dn_169_0_ok 32 rfl), rfl⟩))))))))
def te_169 : Nat → eE := te_169_0
theorem te_169_ok : ∀ pc, e_EOq eft cls elay eI n_169 pc (te_169 pc) := te_169_0_ok
def dn_170_0 : List (Nat × Instr × Nat) := [(0, .aload_n 2, 1), (1, .getfield 61, 3), (4, .iload_n 3, 1), (5, .iaload, 1), (6, .aload_n 0, 1), (7, .getfield 33, 3), (10, .iload_n 1, 1), (11, .iaload, 1), (12, .aload_n 0, 1), (13, .getfield 39, 3), (16, .iload_n 1, 1), (17, .iaload, 1), (18, .invokestatic 62, 3), (21, .ifCond .eq 27, 3), (24, .aload_n 2, 1), (25, .getfield 66, 3), (28, .iload_n 3, 1), (29, .iaload, 1), (30, .aload_n 0, 1), (31, .getfield 36, 3), (34, .iload_n 1, 1), (35, .iaload, 1), (36, .aload_n 0, 1), (37, .getfield 42, 3), (40, .iload_n 1, 1), (41, .iaload, 1), (42, .invokestatic 62, 3), (45, .ifCond .ne 5, 3), (48, .iconst 0, 1), (49, .ireturn, 1), (50, .aload_n 0, 1), (51, .getfield 30, 3), (54, .iload_n 1, 1), (55, .iaload, 1), (56, .ifCond .ge 5, 3), (59, .iconst 1, 1), (60, .ireturn, 1), (61, .aload_n 2, 1), (62, .getfield 61, 3), (65, .iload_n 3, 1), (66, .iaload, 1), (67, .aload_n 2, 1), (68, .getfield 67, 3), (71, .iload_n 3, 1), (72, .iaload, 1), (73, .isub, 1), (74, .aload_n 2, 1), (75, .getfield 66, 3), (78, .iload_n 3, 1), (79, .iaload, 1), (80, .aload_n 2, 1), (81, .getfield 70, 3), (84, .iload_n 3, 1), (85, .iaload, 1), (86, .isub, 1), (87, .invokestatic 73, 3), (90, .lstore 4, 2), (92, .lload 4, 2), (94, .aload_n 0, 1), (95, .getfield 30, 3), (98, .iload_n 1, 1), (99, .iaload, 1), (100, .i2l, 1), (101, .aload_n 0, 1), (102, .getfield 30, 3), (105, .iload_n 1, 1), (106, .iaload, 1), (107, .i2l, 1), (108, .lmul, 1), (109, .lcmp, 1), (110, .ifCond .le 7, 3), (113, .iconst 1, 1), (114, .goto 4, 3), (117, .iconst 0, 1), (118, .ireturn, 1)]
set_option maxRecDepth 20000 in
theorem dn_170_0_ok : dn_170_0.all (fun q => decide (decode prog_11_method_5_code q.1 = .ok (q.2.1, q.2.2))) = true := by decide +kernel
def te_170_0 : Nat → eE := (e_T 29 (e_T 12 (e_T 5 (e_T 1 (e_T 0 (e_L 0 (0, ei_load 2 2 1, 0, 0)) (e_L 1 (0, ei_getf eft elay 0 1 4, 0, 0))) (e_T 4 (e_L 4 (0, ei_load 3 0 5, 0, 0)) (e_L 5 (0, ei_ald elay false 6, 0, 0)))) (e_T 7 (e_T 6 (e_L 6 (0, ei_load 0 2 7, 0, 0)) (e_L 7 (0, ei_getf eft elay 9 9 10, 0, 0))) (e_T 10 (e_L 10 (0, ei_load 1 0 11, 0, 0)) (e_T 11 (e_L 11 (0, ei_ald elay false 12, 0, 0)) (e_L 12 (0, ei_load 0 2 13, 0, 0)))))) (e_T 18 (e_T 16 (e_T 13 (e_L 13 (0, ei_getf eft elay 9 11 16, 0, 0)) (e_L 16 (0, ei_load 1 0 17, 0, 0))) (e_T 17 (e_L 17 (0, ei_ald elay false 18, 0, 0)) (e_L 18 (2, e_nof, 242, 3)))) (e_T 24 (e_T 21 (e_L 21 (0, ei_if1 0 48 24, 0, 0)) (e_L 24 (0, ei_load 2 2 25, 0, 0))) (e_T 25 (e_L 25 (0, ei_getf eft elay 0 2 28, 0, 0)) (e_T 28 (e_L 28 (0, ei_load 3 0 29, 0, 0)) (e_L 29 (0, ei_ald elay false 30, 0, 0))))))) (e_T 42 (e_T 35 (e_T 31 (e_T 30 (e_L 30 (0, ei_load 0 2 31, 0, 0)) (e_L 31 (0, ei_getf eft elay 9 10 34, 0, 0))) (e_T 34 (e_L 34 (0, ei_load 1 0 35, 0, 0)) (e_L 35 (0, ei_ald elay false 36, 0, 0)))) (e_T 37 (e_T 36 (e_L 36 (0, ei_load 0 2 37, 0, 0)) (e_L 37 (0, ei_getf eft elay 9 12 40, 0, 0))) (e_T 40 (e_L 40 (0, ei_load 1 0 41, 0, 0)) (e_T 41 (e_L 41 (0, ei_ald elay false 42, 0, 0)) (e_L 42 (2, e_nof, 242, 3)))))) (e_T 51 (e_T 48 (e_T 45 (e_L 45 (0, ei_if1 1 50 48, 0, 0)) (e_L 48 (0, ei_push (0, 0) 49, 0, 0))) (e_T 49 (e_L 49 (1, e_nof, 4, 0)) (e_T 50 (e_L 50 (0, ei_load 0 2 51, 0, 0)) (e_L 51 (0, ei_getf eft elay 9 8 54, 0, 0))))) (e_T 55 (e_T 54 (e_L 54 (0, ei_load 1 0 55, 0, 0)) (e_L 55 (0, ei_ald elay false 56, 0, 0))) (e_T 56 (e_L 56 (0, ei_if1 3 61 59, 0, 0)) (e_T 59 (e_L 59 (0, ei_push (0, 1) 60, 0, 0)) (e_L 60 (1, e_nof, 4, 0))))))))
set_option maxRecDepth 20000 in
set_option maxHeartbeats 4000000 in
theorem te_170_0_ok : ∀ pc, e_EOq eft cls elay eI n_170 pc (te_170_0 pc) :=
  (e_Tok2
  (e_Tok2
  (e_Tok2
  (e_Tok2
  (e_Tok2
  (e_Lok (e_st (I := eI) (er_aload_n (i := 2) (x_dk dn_170_0_ok 0 rfl))))
  (e_Lok (e_st (I := eI) (er_getf (ci := 0) (k := 1) (ix := 61) (N := 20) (C := RX0) (T := TX0) rfl in_X0 (by decide) (in_t2 (List.mem_of_getElem? (i := 149) rfl) rfl) (x_dk dn_170_0_ok 1 rfl)))))
  (e_Tok2
  (e_Lok (e_st (I := eI) (er_iload_n (i := 3) (x_dk dn_170_0_ok 2 rfl))))
  (e_Lok (e_st (I := eI) (er_iaload (x_dk dn_170_0_ok 3 rfl))))))
  (e_Tok2
  (e_Tok2
  (e_Lok (e_st (I := eI) (er_aload_n (i := 0) (x_dk dn_170_0_ok 4 rfl))))
  (e_Lok (e_st (I := eI) (er_getf (ci := 9) (k := 9) (ix := 33) (N := 17) (C := RX9) (T := TX9) rfl in_X9 (by decide) (in_t3 (List.mem_of_getElem? (i := 149) rfl) rfl) (x_dk dn_170_0_ok 5 rfl)))))
  (e_Tok2
  (e_Lok (e_st (I := eI) (er_iload_n (i := 1) (x_dk dn_170_0_ok 6 rfl))))
  (e_Tok2
  (e_Lok (e_st (I := eI) (er_iaload (x_dk dn_170_0_ok 7 rfl))))
  (e_Lok (e_st (I := eI) (er_aload_n (i := 0) (x_dk dn_170_0_ok 8 rfl))))))))
  (e_Tok2
  (e_Tok2
  (e_Tok2
  (e_Lok (e_st (I := eI) (er_getf (ci := 9) (k := 11) (ix := 39) (N := 17) (C := RX9) (T := TX9) rfl in_X9 (by decide) (in_t3 (List.mem_of_getElem? (i := 151) rfl) rfl) (x_dk dn_170_0_ok 9 rfl))))
  (e_Lok (e_st (I := eI) (er_iload_n (i := 1) (x_dk dn_170_0_ok 10 rfl)))))
  (e_Tok2
  (e_Lok (e_st (I := eI) (er_iaload (x_dk dn_170_0_ok 11 rfl))))
  (e_Lok (e_ca (I := eI) (q' := n_242) rfl (xr_callSN (q' := n_242) (ix := 62) (n := 3) (host := "RobotCellHouse") (in_t4 (List.mem_of_getElem? (i := 168) rfl) rfl) good_w (in_t1 (List.mem_of_getElem? (i := 1) rfl) rfl) (List.mem_of_getElem? (i := 17) rfl) (in_t4 (List.mem_of_getElem? (i := 167) rfl) rfl) (by decide +kernel) (by decide +kernel) (x_dk dn_170_0_ok 12 rfl))))))
  (e_Tok2
  (e_Tok2
  (e_Lok (e_st (I := eI) (er_ifeq (off := 27) (tg := 48) (x_dk dn_170_0_ok 13 rfl) (by decide))))
  (e_Lok (e_st (I := eI) (er_aload_n (i := 2) (x_dk dn_170_0_ok 14 rfl)))))
  (e_Tok2
  (e_Lok (e_st (I := eI) (er_getf (ci := 0) (k := 2) (ix := 66) (N := 20) (C := RX0) (T := TX0) rfl in_X0 (by decide) (in_t2 (List.mem_of_getElem? (i := 153) rfl) rfl) (x_dk dn_170_0_ok 15 rfl))))
  (e_Tok2
  (e_Lok (e_st (I := eI) (er_iload_n (i := 3) (x_dk dn_170_0_ok 16 rfl))))
  (e_Lok (e_st (I := eI) (er_iaload (x_dk dn_170_0_ok 17 rfl)))))))))
  (e_Tok2
  (e_Tok2
  (e_Tok2
  (e_Tok2
  (e_Lok (e_st (I := eI) (er_aload_n (i := 0) (x_dk dn_170_0_ok 18 rfl))))
  (e_Lok (e_st (I := eI) (er_getf (ci := 9) (k := 10) (ix := 36) (N := 17) (C := RX9) (T := TX9) rfl in_X9 (by decide) (in_t3 (List.mem_of_getElem? (i := 150) rfl) rfl) (x_dk dn_170_0_ok 19 rfl)))))
  (e_Tok2
  (e_Lok (e_st (I := eI) (er_iload_n (i := 1) (x_dk dn_170_0_ok 20 rfl))))
  (e_Lok (e_st (I := eI) (er_iaload (x_dk dn_170_0_ok 21 rfl))))))
  (e_Tok2
  (e_Tok2
  (e_Lok (e_st (I := eI) (er_aload_n (i := 0) (x_dk dn_170_0_ok 22 rfl))))
  (e_Lok (e_st (I := eI) (er_getf (ci := 9) (k := 12) (ix := 42) (N := 17) (C := RX9) (T := TX9) rfl in_X9 (by decide) (in_t3 (List.mem_of_getElem? (i := 152) rfl) rfl) (x_dk dn_170_0_ok 23 rfl)))))
  (e_Tok2
  (e_Lok (e_st (I := eI) (er_iload_n (i := 1) (x_dk dn_170_0_ok 24 rfl))))
  (e_Tok2
  (e_Lok (e_st (I := eI) (er_iaload (x_dk dn_170_0_ok 25 rfl))))
  (e_Lok (e_ca (I := eI) (q' := n_242) rfl (xr_callSN (q' := n_242) (ix := 62) (n := 3) (host := "RobotCellHouse") (in_t4 (List.mem_of_getElem? (i := 168) rfl) rfl) good_w (in_t1 (List.mem_of_getElem? (i := 1) rfl) rfl) (List.mem_of_getElem? (i := 17) rfl) (in_t4 (List.mem_of_getElem? (i := 167) rfl) rfl) (by decide +kernel) (by decide +kernel) (x_dk dn_170_0_ok 26 rfl))))))))
  (e_Tok2
  (e_Tok2
  (e_Tok2
  (e_Lok (e_st (I := eI) (er_ifne (off := 5) (tg := 50) (x_dk dn_170_0_ok 27 rfl) (by decide))))
  (e_Lok (e_st (I := eI) (er_iconst (n := 0) (z := 0) (v := 0) (x_dk dn_170_0_ok 28 rfl) (by decide) (by decide)))))
  (e_Tok2
  (e_Lok (e_rt (I := eI) (k := 4) ⟨(x_dk dn_170_0_ok 29 rfl), rfl⟩))
  (e_Tok2
  (e_Lok (e_st (I := eI) (er_aload_n (i := 0) (x_dk dn_170_0_ok 30 rfl))))
  (e_Lok (e_st (I := eI) (er_getf (ci := 9) (k := 8) (ix := 30) (N := 17) (C := RX9) (T := TX9) rfl in_X9 (by decide) (in_t3 (List.mem_of_getElem? (i := 147) rfl) rfl) (x_dk dn_170_0_ok 31 rfl)))))))
  (e_Tok2
  (e_Tok2
  (e_Lok (e_st (I := eI) (er_iload_n (i := 1) (x_dk dn_170_0_ok 32 rfl))))
  (e_Lok (e_st (I := eI) (er_iaload (x_dk dn_170_0_ok 33 rfl)))))
  (e_Tok2
  (e_Lok (e_st (I := eI) (er_ifge (off := 5) (tg := 61) (x_dk dn_170_0_ok 34 rfl) (by decide))))
  (e_Tok2
  (e_Lok (e_st (I := eI) (er_iconst (n := 1) (z := 1) (v := 1) (x_dk dn_170_0_ok 35 rfl) (by decide) (by decide))))
  (e_Lok (e_rt (I := eI) (k := 4) ⟨(x_dk dn_170_0_ok 36 rfl), rfl⟩))))))))
def te_170_37 : Nat → eE := (e_T 87 (e_T 73 (e_T 66 (e_T 62 (e_T 61 (e_L 61 (0, ei_load 2 2 62, 0, 0)) (e_L 62 (0, ei_getf eft elay 0 1 65, 0, 0))) (e_T 65 (e_L 65 (0, ei_load 3 0 66, 0, 0)) (e_L 66 (0, ei_ald elay false 67, 0, 0)))) (e_T 68 (e_T 67 (e_L 67 (0, ei_load 2 2 68, 0, 0)) (e_L 68 (0, ei_getf eft elay 0 3 71, 0, 0))) (e_T 71 (e_L 71 (0, ei_load 3 0 72, 0, 0)) (e_T 72 (e_L 72 (0, ei_ald elay false 73, 0, 0)) (e_L 73 (0, ei_bin eF_sub 74, 0, 0)))))) (e_T 80 (e_T 75 (e_T 74 (e_L 74 (0, ei_load 2 2 75, 0, 0)) (e_L 75 (0, ei_getf eft elay 0 2 78, 0, 0))) (e_T 78 (e_L 78 (0, ei_load 3 0 79, 0, 0)) (e_T 79 (e_L 79 (0, ei_ald elay false 80, 0, 0)) (e_L 80 (0, ei_load 2 2 81, 0, 0))))) (e_T 84 (e_T 81 (e_L 81 (0, ei_getf eft elay 0 4 84, 0, 0)) (e_L 84 (0, ei_load 3 0 85, 0, 0))) (e_T 85 (e_L 85 (0, ei_ald elay false 86, 0, 0)) (e_T 86 (e_L 86 (0, ei_bin eF_sub 87, 0, 0)) (e_L 87 (2, e_nof, 178, 2))))))) (e_T 102 (e_T 95 (e_T 92 (e_T 90 (e_L 90 (0, ei_stor 4 1 92, 0, 0)) (e_L 92 (0, ei_load 4 1 94, 0, 0))) (e_T 94 (e_L 94 (0, ei_load 0 2 95, 0, 0)) (e_L 95 (0, ei_getf eft elay 9 8 98, 0, 0)))) (e_T 99 (e_T 98 (e_L 98 (0, ei_load 1 0 99, 0, 0)) (e_L 99 (0, ei_ald elay false 100, 0, 0))) (e_T 100 (e_L 100 (0, ei_un (fun x => (4, x)) 101, 0, 0)) (e_T 101 (e_L 101 (0, ei_load 0 2 102, 0, 0)) (e_L 102 (0, ei_getf eft elay 9 8 105, 0, 0)))))) (e_T 109 (e_T 106 (e_T 105 (e_L 105 (0, ei_load 1 0 106, 0, 0)) (e_L 106 (0, ei_ald elay false 107, 0, 0))) (e_T 107 (e_L 107 (0, ei_un (fun x => (4, x)) 108, 0, 0)) (e_T 108 (e_L 108 (0, ei_binL eG_mul 109, 0, 0)) (e_L 109 (0, ei_binL eG_cmp 110, 0, 0))))) (e_T 113 (e_T 110 (e_L 110 (0, ei_if1 5 117 113, 0, 0)) (e_L 113 (0, ei_push (0, 1) 114, 0, 0))) (e_T 114 (e_L 114 (0, ei_goto 118, 0, 0)) (e_T 117 (e_L 117 (0, ei_push (0, 0) 118, 0, 0)) (e_L 118 (1, e_nof, 4, 0))))))))
set_option maxRecDepth 20000 in
set_option maxHeartbeats 4000000 in
theorem te_170_37_ok : ∀ pc, e_EOq eft cls elay eI n_170 pc (te_170_37 pc) :=
  (e_Tok2
  (e_Tok2
  (e_Tok2
  (e_Tok2
  (e_Tok2
  (e_Lok (e_st (I := eI) (er_aload_n (i := 2) (x_dk dn_170_0_ok 37 rfl))))
  (e_Lok (e_st (I := eI) (er_getf (ci := 0) (k := 1) (ix := 61) (N := 20) (C := RX0) (T := TX0) rfl in_X0 (by decide) (in_t2 (List.mem_of_getElem? (i := 149) rfl) rfl) (x_dk dn_170_0_ok 38 rfl)))))
  (e_Tok2
  (e_Lok (e_st (I := eI) (er_iload_n (i := 3) (x_dk dn_170_0_ok 39 rfl))))
  (e_Lok (e_st (I := eI) (er_iaload (x_dk dn_170_0_ok 40 rfl))))))
  (e_Tok2
  (e_Tok2
  (e_Lok (e_st (I := eI) (er_aload_n (i := 2) (x_dk dn_170_0_ok 41 rfl))))
  (e_Lok (e_st (I := eI) (er_getf (ci := 0) (k := 3) (ix := 67) (N := 20) (C := RX0) (T := TX0) rfl in_X0 (by decide) (in_t2 (List.mem_of_getElem? (i := 157) rfl) rfl) (x_dk dn_170_0_ok 42 rfl)))))
  (e_Tok2
  (e_Lok (e_st (I := eI) (er_iload_n (i := 3) (x_dk dn_170_0_ok 43 rfl))))
  (e_Tok2
  (e_Lok (e_st (I := eI) (er_iaload (x_dk dn_170_0_ok 44 rfl))))
  (e_Lok (e_st (I := eI) (er_isub (x_dk dn_170_0_ok 45 rfl))))))))
  (e_Tok2
  (e_Tok2
  (e_Tok2
  (e_Lok (e_st (I := eI) (er_aload_n (i := 2) (x_dk dn_170_0_ok 46 rfl))))
  (e_Lok (e_st (I := eI) (er_getf (ci := 0) (k := 2) (ix := 66) (N := 20) (C := RX0) (T := TX0) rfl in_X0 (by decide) (in_t2 (List.mem_of_getElem? (i := 153) rfl) rfl) (x_dk dn_170_0_ok 47 rfl)))))
  (e_Tok2
  (e_Lok (e_st (I := eI) (er_iload_n (i := 3) (x_dk dn_170_0_ok 48 rfl))))
  (e_Tok2
  (e_Lok (e_st (I := eI) (er_iaload (x_dk dn_170_0_ok 49 rfl))))
  (e_Lok (e_st (I := eI) (er_aload_n (i := 2) (x_dk dn_170_0_ok 50 rfl)))))))
  (e_Tok2
  (e_Tok2
  (e_Lok (e_st (I := eI) (er_getf (ci := 0) (k := 4) (ix := 70) (N := 20) (C := RX0) (T := TX0) rfl in_X0 (by decide) (in_t2 (List.mem_of_getElem? (i := 159) rfl) rfl) (x_dk dn_170_0_ok 51 rfl))))
  (e_Lok (e_st (I := eI) (er_iload_n (i := 3) (x_dk dn_170_0_ok 52 rfl)))))
  (e_Tok2
  (e_Lok (e_st (I := eI) (er_iaload (x_dk dn_170_0_ok 53 rfl))))
  (e_Tok2
  (e_Lok (e_st (I := eI) (er_isub (x_dk dn_170_0_ok 54 rfl))))
  (e_Lok (e_ca (I := eI) (q' := n_178) rfl (xr_callS (q' := n_178) (ix := 73) (n := 2) (in_t7 (List.mem_of_getElem? (i := 209) rfl) rfl) good_w (in_t1 (List.mem_of_getElem? (i := 11) rfl) rfl) (in_t8 (List.mem_of_getElem? (i := 139) rfl) rfl) (in_t7 (List.mem_of_getElem? (i := 208) rfl) rfl) (by decide +kernel) (by decide +kernel) (x_dk dn_170_0_ok 55 rfl)))))))))
  (e_Tok2
  (e_Tok2
  (e_Tok2
  (e_Tok2
  (e_Lok (e_st (I := eI) (er_lstore (i := 4) (x_dk dn_170_0_ok 56 rfl) (by decide +kernel))))
  (e_Lok (e_st (I := eI) (er_lload (i := 4) (x_dk dn_170_0_ok 57 rfl)))))
  (e_Tok2
  (e_Lok (e_st (I := eI) (er_aload_n (i := 0) (x_dk dn_170_0_ok 58 rfl))))
  (e_Lok (e_st (I := eI) (er_getf (ci := 9) (k := 8) (ix := 30) (N := 17) (C := RX9) (T := TX9) rfl in_X9 (by decide) (in_t3 (List.mem_of_getElem? (i := 147) rfl) rfl) (x_dk dn_170_0_ok 59 rfl))))))
  (e_Tok2
  (e_Tok2
  (e_Lok (e_st (I := eI) (er_iload_n (i := 1) (x_dk dn_170_0_ok 60 rfl))))
  (e_Lok (e_st (I := eI) (er_iaload (x_dk dn_170_0_ok 61 rfl)))))
  (e_Tok2
  (e_Lok (e_st (I := eI) (er_i2l (x_dk dn_170_0_ok 62 rfl))))
  (e_Tok2
  (e_Lok (e_st (I := eI) (er_aload_n (i := 0) (x_dk dn_170_0_ok 63 rfl))))
  (e_Lok (e_st (I := eI) (er_getf (ci := 9) (k := 8) (ix := 30) (N := 17) (C := RX9) (T := TX9) rfl in_X9 (by decide) (in_t3 (List.mem_of_getElem? (i := 147) rfl) rfl) (x_dk dn_170_0_ok 64 rfl))))))))
  (e_Tok2
  (e_Tok2
  (e_Tok2
  (e_Lok (e_st (I := eI) (er_iload_n (i := 1) (x_dk dn_170_0_ok 65 rfl))))
  (e_Lok (e_st (I := eI) (er_iaload (x_dk dn_170_0_ok 66 rfl)))))
  (e_Tok2
  (e_Lok (e_st (I := eI) (er_i2l (x_dk dn_170_0_ok 67 rfl))))
  (e_Tok2
  (e_Lok (e_st (I := eI) (er_lmul (x_dk dn_170_0_ok 68 rfl))))
  (e_Lok (e_st (I := eI) (er_lcmp (x_dk dn_170_0_ok 69 rfl)))))))
  (e_Tok2
  (e_Tok2
  (e_Lok (e_st (I := eI) (er_ifle (off := 7) (tg := 117) (x_dk dn_170_0_ok 70 rfl) (by decide))))
  (e_Lok (e_st (I := eI) (er_iconst (n := 1) (z := 1) (v := 1) (x_dk dn_170_0_ok 71 rfl) (by decide) (by decide)))))
  (e_Tok2
  (e_Lok (e_st (I := eI) (er_goto (off := 4) (tg := 118) (x_dk dn_170_0_ok 72 rfl) (by decide))))
  (e_Tok2
  (e_Lok (e_st (I := eI) (er_iconst (n := 0) (z := 0) (v := 0) (x_dk dn_170_0_ok 73 rfl) (by decide) (by decide))))
  (e_Lok (e_rt (I := eI) (k := 4) ⟨(x_dk dn_170_0_ok 74 rfl), rfl⟩))))))))
def te_170 : Nat → eE := (e_T 60 te_170_0 te_170_37)
theorem te_170_ok : ∀ pc, e_EOq eft cls elay eI n_170 pc (te_170 pc) := (e_Tok2 (te_170_0_ok) (te_170_37_ok))
def dn_171_0 : List (Nat × Instr × Nat) := [(0, .aload_n 1, 1), (1, .iload_n 3, 1), (2, .aaload, 1), (3, .astore 6, 2), (5, .aload 6, 2), (7, .invokevirtual 77, 3), (10, .istore 7, 2), (12, .iconst 0, 1), (13, .istore 8, 2), (15, .iload 8, 2), (17, .iload 7, 2), (19, .if_icmp .ge 171, 3), (22, .aload_n 0, 1), (23, .aload 6, 2), (25, .getfield 61, 3), (28, .iload 8, 2), (30, .iaload, 1), (31, .putfield 81, 3), (34, .aload_n 0, 1), (35, .aload 6, 2), (37, .getfield 66, 3), (40, .iload 8, 2), (42, .iaload, 1), (43, .putfield 84, 3), (46, .aload_n 0, 1), (47, .aload 6, 2), (49, .getfield 61, 3), (52, .iload 8, 2), (54, .iconst 1, 1), (55, .iadd, 1), (56, .iaload, 1), (57, .putfield 87, 3), (60, .aload_n 0, 1), (61, .aload 6, 2), (63, .getfield 66, 3), (66, .iload 8, 2), (68, .iconst 1, 1), (69, .iadd, 1), (70, .iaload, 1), (71, .putfield 90, 3), (74, .aload 6, 2), (76, .iload 8, 2), (78, .invokevirtual 93, 3), (81, .iload 5, 2), (83, .iadd, 1), (84, .istore 9, 2), (86, .aload_n 0, 1), (87, .aload 6, 2), (89, .iload 8, 2), (91, .iconst 2, 1), (92, .iadd, 1), (93, .iload 9, 2), (95, .invokevirtual 97, 3), (98, .ifCond .eq 5, 3), (101, .iconst 1, 1), (102, .ireturn, 1), (103, .iconst 0, 1), (104, .istore 10, 2), (106, .iload 10, 2), (108, .aload_n 0, 1), (109, .getfield 45, 3), (112, .if_icmp .ge 34, 3), (115, .aload 6, 2), (117, .iload 8, 2), (119, .iload 10, 2), (121, .invokevirtual 101, 3), (124, .ifCond .ne 16, 3), (127, .aload_n 0, 1), (128, .iload 10, 2), (130, .iload 9, 2), (132, .invokevirtual 105, 3), (135, .ifCond .eq 5, 3), (138, .iconst 1, 1), (139, .ireturn, 1), (140, .iinc 10 1, 3), (143, .goto (-37), 3), (146, .iload 4, 2), (148, .istore 10, 2), (150, .iload 10, 2), (152, .iload_n 2, 1), (153, .if_icmp .ge 31, 3), (156, .iload 10, 2), (158, .iload_n 3, 1), (159, .if_icmp .eq 19, 3), (162, .aload_n 0, 1), (163, .aload_n 1, 1), (164, .iload 10, 2), (166, .aaload, 1), (167, .iconst 0, 1), (168, .iload 9, 2), (170, .invokevirtual 97, 3), (173, .ifCond .eq 5, 3), (176, .iconst 1, 1), (177, .ireturn, 1), (178, .iinc 10 1, 3), (181, .goto (-31), 3), (184, .iinc 8 1, 3), (187, .goto (-172), 3), (190, .iconst 0, 1), (191, .ireturn, 1)]
set_option maxRecDepth 20000 in
theorem dn_171_0_ok : dn_171_0.all (fun q => decide (decode prog_11_method_6_code q.1 = .ok (q.2.1, q.2.2))) = true := by decide +kernel
def te_171_0 : Nat → eE := (e_T 19 (e_T 7 (e_T 2 (e_T 0 (e_L 0 (0, ei_load 1 2 1, 0, 0)) (e_T 1 (e_L 1 (0, ei_load 3 0 2, 0, 0)) (e_L 2 (0, ei_aald elay 3, 0, 0)))) (e_T 3 (e_L 3 (0, ei_stor 6 2 5, 0, 0)) (e_T 5 (e_L 5 (0, ei_load 6 2 7, 0, 0)) (e_L 7 (2, e_nof, 7, 1))))) (e_T 13 (e_T 10 (e_L 10 (0, ei_stor 7 0 12, 0, 0)) (e_T 12 (e_L 12 (0, ei_push (0, 0) 13, 0, 0)) (e_L 13 (0, ei_stor 8 0 15, 0, 0)))) (e_T 15 (e_L 15 (0, ei_load 8 0 17, 0, 0)) (e_T 17 (e_L 17 (0, ei_load 7 0 19, 0, 0)) (e_L 19 (0, ei_if2 3 190 22, 0, 0)))))) (e_T 31 (e_T 25 (e_T 22 (e_L 22 (0, ei_load 0 2 23, 0, 0)) (e_T 23 (e_L 23 (0, ei_load 6 2 25, 0, 0)) (e_L 25 (0, ei_getf eft elay 0 1 28, 0, 0)))) (e_T 28 (e_L 28 (0, ei_load 8 0 30, 0, 0)) (e_T 30 (e_L 30 (0, ei_ald elay false 31, 0, 0)) (e_L 31 (0, ei_putf eft elay 9 13 0 34, 0, 0))))) (e_T 37 (e_T 34 (e_L 34 (0, ei_load 0 2 35, 0, 0)) (e_T 35 (e_L 35 (0, ei_load 6 2 37, 0, 0)) (e_L 37 (0, ei_getf eft elay 0 2 40, 0, 0)))) (e_T 42 (e_T 40 (e_L 40 (0, ei_load 8 0 42, 0, 0)) (e_L 42 (0, ei_ald elay false 43, 0, 0))) (e_T 43 (e_L 43 (0, ei_putf eft elay 9 14 0 46, 0, 0)) (e_L 46 (0, ei_load 0 2 47, 0, 0)))))))
set_option maxRecDepth 20000 in
set_option maxHeartbeats 4000000 in
theorem te_171_0_ok : ∀ pc, e_EOq eft cls elay eI n_171 pc (te_171_0 pc) :=
  (e_Tok2
  (e_Tok2
  (e_Tok2
  (e_Tok2
  (e_Lok (e_st (I := eI) (er_aload_n (i := 1) (x_dk dn_171_0_ok 0 rfl))))
  (e_Tok2
  (e_Lok (e_st (I := eI) (er_iload_n (i := 3) (x_dk dn_171_0_ok 1 rfl))))
  (e_Lok (e_st (I := eI) (er_aaload (x_dk dn_171_0_ok 2 rfl))))))
  (e_Tok2
  (e_Lok (e_st (I := eI) (er_astore (i := 6) (x_dk dn_171_0_ok 3 rfl) (by decide +kernel))))
  (e_Tok2
  (e_Lok (e_st (I := eI) (er_aload (i := 6) (x_dk dn_171_0_ok 4 rfl))))
  (e_Lok (e_ca (I := eI) (q' := n_7) rfl (xr_callV (q' := n_7) (ix := 77) (n := 0) (in_t8 (List.mem_of_getElem? (i := 95) rfl) rfl) good_w (in_t1 (List.mem_of_getElem? (i := 8) rfl) rfl) (in_t8 (List.mem_of_getElem? (i := 92) rfl) rfl) (in_t8 (List.mem_of_getElem? (i := 93) rfl) rfl) (in_t8 (List.mem_of_getElem? (i := 94) rfl) rfl) (by decide +kernel) (by decide +kernel) (by decide +kernel) (x_dk dn_171_0_ok 5 rfl)))))))
  (e_Tok2
  (e_Tok2
  (e_Lok (e_st (I := eI) (er_istore (i := 7) (x_dk dn_171_0_ok 6 rfl) (by decide +kernel))))
  (e_Tok2
  (e_Lok (e_st (I := eI) (er_iconst (n := 0) (z := 0) (v := 0) (x_dk dn_171_0_ok 7 rfl) (by decide) (by decide))))
  (e_Lok (e_st (I := eI) (er_istore (i := 8) (x_dk dn_171_0_ok 8 rfl) (by decide +kernel))))))
  (e_Tok2
  (e_Lok (e_st (I := eI) (er_iload (i := 8) (x_dk dn_171_0_ok 9 rfl))))
  (e_Tok2
  (e_Lok (e_st (I := eI) (er_iload (i := 7) (x_dk dn_171_0_ok 10 rfl))))
  (e_Lok (e_st (I := eI) (er_icmpge (off := 171) (tg := 190) (x_dk dn_171_0_ok 11 rfl) (by decide))))))))
  (e_Tok2
  (e_Tok2
  (e_Tok2
  (e_Lok (e_st (I := eI) (er_aload_n (i := 0) (x_dk dn_171_0_ok 12 rfl))))
  (e_Tok2
  (e_Lok (e_st (I := eI) (er_aload (i := 6) (x_dk dn_171_0_ok 13 rfl))))
  (e_Lok (e_st (I := eI) (er_getf (ci := 0) (k := 1) (ix := 61) (N := 20) (C := RX0) (T := TX0) rfl in_X0 (by decide) (in_t2 (List.mem_of_getElem? (i := 149) rfl) rfl) (x_dk dn_171_0_ok 14 rfl))))))
  (e_Tok2
  (e_Lok (e_st (I := eI) (er_iload (i := 8) (x_dk dn_171_0_ok 15 rfl))))
  (e_Tok2
  (e_Lok (e_st (I := eI) (er_iaload (x_dk dn_171_0_ok 16 rfl))))
  (e_Lok (e_st (I := eI) (er_putf (ci := 9) (k := 13) (ix := 81) (N := 17) (fk := 0) (C := RX9) (T := TX9) (ty0 := tyX9) (ty := .int) rfl in_X9 tyX9_ok nmX9 (by decide) (in_t3 (List.mem_of_getElem? (i := 153) rfl) rfl) rfl rfl x_fit_int (x_dk dn_171_0_ok 17 rfl)))))))
  (e_Tok2
  (e_Tok2
  (e_Lok (e_st (I := eI) (er_aload_n (i := 0) (x_dk dn_171_0_ok 18 rfl))))
  (e_Tok2
  (e_Lok (e_st (I := eI) (er_aload (i := 6) (x_dk dn_171_0_ok 19 rfl))))
  (e_Lok (e_st (I := eI) (er_getf (ci := 0) (k := 2) (ix := 66) (N := 20) (C := RX0) (T := TX0) rfl in_X0 (by decide) (in_t2 (List.mem_of_getElem? (i := 153) rfl) rfl) (x_dk dn_171_0_ok 20 rfl))))))
  (e_Tok2
  (e_Tok2
  (e_Lok (e_st (I := eI) (er_iload (i := 8) (x_dk dn_171_0_ok 21 rfl))))
  (e_Lok (e_st (I := eI) (er_iaload (x_dk dn_171_0_ok 22 rfl)))))
  (e_Tok2
  (e_Lok (e_st (I := eI) (er_putf (ci := 9) (k := 14) (ix := 84) (N := 17) (fk := 0) (C := RX9) (T := TX9) (ty0 := tyX9) (ty := .int) rfl in_X9 tyX9_ok nmX9 (by decide) (in_t3 (List.mem_of_getElem? (i := 154) rfl) rfl) rfl rfl x_fit_int (x_dk dn_171_0_ok 23 rfl))))
  (e_Lok (e_st (I := eI) (er_aload_n (i := 0) (x_dk dn_171_0_ok 24 rfl)))))))))
def te_171_25 : Nat → eE := (e_T 68 (e_T 56 (e_T 52 (e_T 47 (e_L 47 (0, ei_load 6 2 49, 0, 0)) (e_T 49 (e_L 49 (0, ei_getf eft elay 0 1 52, 0, 0)) (e_L 52 (0, ei_load 8 0 54, 0, 0)))) (e_T 54 (e_L 54 (0, ei_push (0, 1) 55, 0, 0)) (e_T 55 (e_L 55 (0, ei_bin eF_add 56, 0, 0)) (e_L 56 (0, ei_ald elay false 57, 0, 0))))) (e_T 61 (e_T 57 (e_L 57 (0, ei_putf eft elay 9 15 0 60, 0, 0)) (e_T 60 (e_L 60 (0, ei_load 0 2 61, 0, 0)) (e_L 61 (0, ei_load 6 2 63, 0, 0)))) (e_T 63 (e_L 63 (0, ei_getf eft elay 0 2 66, 0, 0)) (e_T 66 (e_L 66 (0, ei_load 8 0 68, 0, 0)) (e_L 68 (0, ei_push (0, 1) 69, 0, 0)))))) (e_T 78 (e_T 71 (e_T 69 (e_L 69 (0, ei_bin eF_add 70, 0, 0)) (e_T 70 (e_L 70 (0, ei_ald elay false 71, 0, 0)) (e_L 71 (0, ei_putf eft elay 9 16 0 74, 0, 0)))) (e_T 74 (e_L 74 (0, ei_load 6 2 76, 0, 0)) (e_T 76 (e_L 76 (0, ei_load 8 0 78, 0, 0)) (e_L 78 (2, e_nof, 8, 2))))) (e_T 84 (e_T 81 (e_L 81 (0, ei_load 5 0 83, 0, 0)) (e_T 83 (e_L 83 (0, ei_bin eF_add 84, 0, 0)) (e_L 84 (0, ei_stor 9 0 86, 0, 0)))) (e_T 87 (e_T 86 (e_L 86 (0, ei_load 0 2 87, 0, 0)) (e_L 87 (0, ei_load 6 2 89, 0, 0))) (e_T 89 (e_L 89 (0, ei_load 8 0 91, 0, 0)) (e_L 91 (0, ei_push (0, 2) 92, 0, 0)))))))
set_option maxRecDepth 20000 in
set_option maxHeartbeats 4000000 in
theorem te_171_25_ok : ∀ pc, e_EOq eft cls elay eI n_171 pc (te_171_25 pc) :=
  (e_Tok2
  (e_Tok2
  (e_Tok2
  (e_Tok2
  (e_Lok (e_st (I := eI) (er_aload (i := 6) (x_dk dn_171_0_ok 25 rfl))))
  (e_Tok2
  (e_Lok (e_st (I := eI) (er_getf (ci := 0) (k := 1) (ix := 61) (N := 20) (C := RX0) (T := TX0) rfl in_X0 (by decide) (in_t2 (List.mem_of_getElem? (i := 149) rfl) rfl) (x_dk dn_171_0_ok 26 rfl))))
  (e_Lok (e_st (I := eI) (er_iload (i := 8) (x_dk dn_171_0_ok 27 rfl))))))
  (e_Tok2
  (e_Lok (e_st (I := eI) (er_iconst (n := 1) (z := 1) (v := 1) (x_dk dn_171_0_ok 28 rfl) (by decide) (by decide))))
  (e_Tok2
  (e_Lok (e_st (I := eI) (er_iadd (x_dk dn_171_0_ok 29 rfl))))
  (e_Lok (e_st (I := eI) (er_iaload (x_dk dn_171_0_ok 30 rfl)))))))
  (e_Tok2
  (e_Tok2
  (e_Lok (e_st (I := eI) (er_putf (ci := 9) (k := 15) (ix := 87) (N := 17) (fk := 0) (C := RX9) (T := TX9) (ty0 := tyX9) (ty := .int) rfl in_X9 tyX9_ok nmX9 (by decide) (in_t3 (List.mem_of_getElem? (i := 155) rfl) rfl) rfl rfl x_fit_int (x_dk dn_171_0_ok 31 rfl))))
  (e_Tok2
  (e_Lok (e_st (I := eI) (er_aload_n (i := 0) (x_dk dn_171_0_ok 32 rfl))))
  (e_Lok (e_st (I := eI) (er_aload (i := 6) (x_dk dn_171_0_ok 33 rfl))))))
  (e_Tok2
  (e_Lok (e_st (I := eI) (er_getf (ci := 0) (k := 2) (ix := 66) (N := 20) (C := RX0) (T := TX0) rfl in_X0 (by decide) (in_t2 (List.mem_of_getElem? (i := 153) rfl) rfl) (x_dk dn_171_0_ok 34 rfl))))
  (e_Tok2
  (e_Lok (e_st (I := eI) (er_iload (i := 8) (x_dk dn_171_0_ok 35 rfl))))
  (e_Lok (e_st (I := eI) (er_iconst (n := 1) (z := 1) (v := 1) (x_dk dn_171_0_ok 36 rfl) (by decide) (by decide))))))))
  (e_Tok2
  (e_Tok2
  (e_Tok2
  (e_Lok (e_st (I := eI) (er_iadd (x_dk dn_171_0_ok 37 rfl))))
  (e_Tok2
  (e_Lok (e_st (I := eI) (er_iaload (x_dk dn_171_0_ok 38 rfl))))
  (e_Lok (e_st (I := eI) (er_putf (ci := 9) (k := 16) (ix := 90) (N := 17) (fk := 0) (C := RX9) (T := TX9) (ty0 := tyX9) (ty := .int) rfl in_X9 tyX9_ok nmX9 (by decide) (in_t3 (List.mem_of_getElem? (i := 156) rfl) rfl) rfl rfl x_fit_int (x_dk dn_171_0_ok 39 rfl))))))
  (e_Tok2
  (e_Lok (e_st (I := eI) (er_aload (i := 6) (x_dk dn_171_0_ok 40 rfl))))
  (e_Tok2
  (e_Lok (e_st (I := eI) (er_iload (i := 8) (x_dk dn_171_0_ok 41 rfl))))
  (e_Lok (e_ca (I := eI) (q' := n_8) rfl (xr_callV (q' := n_8) (ix := 93) (n := 1) (in_t8 (List.mem_of_getElem? (i := 99) rfl) rfl) good_w (in_t1 (List.mem_of_getElem? (i := 8) rfl) rfl) (in_t8 (List.mem_of_getElem? (i := 96) rfl) rfl) (in_t8 (List.mem_of_getElem? (i := 97) rfl) rfl) (in_t8 (List.mem_of_getElem? (i := 98) rfl) rfl) (by decide +kernel) (by decide +kernel) (by decide +kernel) (x_dk dn_171_0_ok 42 rfl)))))))
  (e_Tok2
  (e_Tok2
  (e_Lok (e_st (I := eI) (er_iload (i := 5) (x_dk dn_171_0_ok 43 rfl))))
  (e_Tok2
  (e_Lok (e_st (I := eI) (er_iadd (x_dk dn_171_0_ok 44 rfl))))
  (e_Lok (e_st (I := eI) (er_istore (i := 9) (x_dk dn_171_0_ok 45 rfl) (by decide +kernel))))))
  (e_Tok2
  (e_Tok2
  (e_Lok (e_st (I := eI) (er_aload_n (i := 0) (x_dk dn_171_0_ok 46 rfl))))
  (e_Lok (e_st (I := eI) (er_aload (i := 6) (x_dk dn_171_0_ok 47 rfl)))))
  (e_Tok2
  (e_Lok (e_st (I := eI) (er_iload (i := 8) (x_dk dn_171_0_ok 48 rfl))))
  (e_Lok (e_st (I := eI) (er_iconst (n := 2) (z := 2) (v := 2) (x_dk dn_171_0_ok 49 rfl) (by decide) (by decide)))))))))
def te_171_50 : Nat → eE := (e_T 112 (e_T 102 (e_T 95 (e_T 92 (e_L 92 (0, ei_bin eF_add 93, 0, 0)) (e_T 93 (e_L 93 (0, ei_load 9 0 95, 0, 0)) (e_L 95 (2, e_nof, 172, 4)))) (e_T 98 (e_L 98 (0, ei_if1 0 103 101, 0, 0)) (e_T 101 (e_L 101 (0, ei_push (0, 1) 102, 0, 0)) (e_L 102 (1, e_nof, 4, 0))))) (e_T 106 (e_T 103 (e_L 103 (0, ei_push (0, 0) 104, 0, 0)) (e_T 104 (e_L 104 (0, ei_stor 10 0 106, 0, 0)) (e_L 106 (0, ei_load 10 0 108, 0, 0)))) (e_T 108 (e_L 108 (0, ei_load 0 2 109, 0, 0)) (e_T 109 (e_L 109 (0, ei_getf eft elay 9 0 112, 0, 0)) (e_L 112 (0, ei_if2 3 146 115, 0, 0)))))) (e_T 127 (e_T 119 (e_T 115 (e_L 115 (0, ei_load 6 2 117, 0, 0)) (e_T 117 (e_L 117 (0, ei_load 8 0 119, 0, 0)) (e_L 119 (0, ei_load 10 0 121, 0, 0)))) (e_T 121 (e_L 121 (2, e_nof, 6, 3)) (e_T 124 (e_L 124 (0, ei_if1 1 140 127, 0, 0)) (e_L 127 (0, ei_load 0 2 128, 0, 0))))) (e_T 132 (e_T 128 (e_L 128 (0, ei_load 10 0 130, 0, 0)) (e_T 130 (e_L 130 (0, ei_load 9 0 132, 0, 0)) (e_L 132 (2, e_nof, 173, 3)))) (e_T 138 (e_T 135 (e_L 135 (0, ei_if1 0 140 138, 0, 0)) (e_L 138 (0, ei_push (0, 1) 139, 0, 0))) (e_T 139 (e_L 139 (1, e_nof, 4, 0)) (e_L 140 (0, ei_inc 10 1 143, 0, 0)))))))
set_option maxRecDepth 20000 in
set_option maxHeartbeats 4000000 in
theorem te_171_50_ok : ∀ pc, e_EOq eft cls elay eI n_171 pc (te_171_50 pc) :=
  (e_Tok2
  (e_Tok2
  (e_Tok2
  (e_Tok2
  (e_Lok (e_st (I := eI) (er_iadd (x_dk dn_171_0_ok 50 rfl))))
  (e_Tok2
  (e_Lok (e_st (I := eI) (er_iload (i := 9) (x_dk dn_171_0_ok 51 rfl))))
  (e_Lok (e_ca (I := eI) (q' := n_172) rfl (xr_callV (q' := n_172) (ix := 97) (n := 3) (in_t8 (List.mem_of_getElem? (i := 103) rfl) rfl) good_w (in_t1 (List.mem_of_getElem? (i := 11) rfl) rfl) (in_t8 (List.mem_of_getElem? (i := 100) rfl) rfl) (in_t8 (List.mem_of_getElem? (i := 102) rfl) rfl) (in_s7 (List.mem_of_getElem? (i := 4) rfl)) (by decide +kernel) (by decide +kernel) (by decide +kernel) (x_dk dn_171_0_ok 52 rfl))))))
  (e_Tok2
  (e_Lok (e_st (I := eI) (er_ifeq (off := 5) (tg := 103) (x_dk dn_171_0_ok 53 rfl) (by decide))))
  (e_Tok2
  (e_Lok (e_st (I := eI) (er_iconst (n := 1) (z := 1) (v := 1) (x_dk dn_171_0_ok 54 rfl) (by decide) (by decide))))
  (e_Lok (e_rt (I := eI) (k := 4) ⟨(x_dk dn_171_0_ok 55 rfl), rfl⟩)))))
  (e_Tok2
  (e_Tok2
  (e_Lok (e_st (I := eI) (er_iconst (n := 0) (z := 0) (v := 0) (x_dk dn_171_0_ok 56 rfl) (by decide) (by decide))))
  (e_Tok2
  (e_Lok (e_st (I := eI) (er_istore (i := 10) (x_dk dn_171_0_ok 57 rfl) (by decide +kernel))))
  (e_Lok (e_st (I := eI) (er_iload (i := 10) (x_dk dn_171_0_ok 58 rfl))))))
  (e_Tok2
  (e_Lok (e_st (I := eI) (er_aload_n (i := 0) (x_dk dn_171_0_ok 59 rfl))))
  (e_Tok2
  (e_Lok (e_st (I := eI) (er_getf (ci := 9) (k := 0) (ix := 45) (N := 17) (C := RX9) (T := TX9) rfl in_X9 (by decide) (in_t3 (List.mem_of_getElem? (i := 137) rfl) rfl) (x_dk dn_171_0_ok 60 rfl))))
  (e_Lok (e_st (I := eI) (er_icmpge (off := 34) (tg := 146) (x_dk dn_171_0_ok 61 rfl) (by decide))))))))
  (e_Tok2
  (e_Tok2
  (e_Tok2
  (e_Lok (e_st (I := eI) (er_aload (i := 6) (x_dk dn_171_0_ok 62 rfl))))
  (e_Tok2
  (e_Lok (e_st (I := eI) (er_iload (i := 8) (x_dk dn_171_0_ok 63 rfl))))
  (e_Lok (e_st (I := eI) (er_iload (i := 10) (x_dk dn_171_0_ok 64 rfl))))))
  (e_Tok2
  (e_Lok (e_ca (I := eI) (q' := n_6) rfl (xr_callV (q' := n_6) (ix := 101) (n := 2) (in_t4 (List.mem_of_getElem? (i := 231) rfl) rfl) good_w (in_t1 (List.mem_of_getElem? (i := 8) rfl) rfl) (in_t8 (List.mem_of_getElem? (i := 121) rfl) rfl) (in_t4 (List.mem_of_getElem? (i := 229) rfl) rfl) (in_t4 (List.mem_of_getElem? (i := 230) rfl) rfl) (by decide +kernel) (by decide +kernel) (by decide +kernel) (x_dk dn_171_0_ok 65 rfl))))
  (e_Tok2
  (e_Lok (e_st (I := eI) (er_ifne (off := 16) (tg := 140) (x_dk dn_171_0_ok 66 rfl) (by decide))))
  (e_Lok (e_st (I := eI) (er_aload_n (i := 0) (x_dk dn_171_0_ok 67 rfl)))))))
  (e_Tok2
  (e_Tok2
  (e_Lok (e_st (I := eI) (er_iload (i := 10) (x_dk dn_171_0_ok 68 rfl))))
  (e_Tok2
  (e_Lok (e_st (I := eI) (er_iload (i := 9) (x_dk dn_171_0_ok 69 rfl))))
  (e_Lok (e_ca (I := eI) (q' := n_173) rfl (xr_callV (q' := n_173) (ix := 105) (n := 2) (in_t8 (List.mem_of_getElem? (i := 125) rfl) rfl) good_w (in_t1 (List.mem_of_getElem? (i := 11) rfl) rfl) (in_t8 (List.mem_of_getElem? (i := 122) rfl) rfl) (in_t8 (List.mem_of_getElem? (i := 124) rfl) rfl) (in_s7 (List.mem_of_getElem? (i := 7) rfl)) (by decide +kernel) (by decide +kernel) (by decide +kernel) (x_dk dn_171_0_ok 70 rfl))))))
  (e_Tok2
  (e_Tok2
  (e_Lok (e_st (I := eI) (er_ifeq (off := 5) (tg := 140) (x_dk dn_171_0_ok 71 rfl) (by decide))))
  (e_Lok (e_st (I := eI) (er_iconst (n := 1) (z := 1) (v := 1) (x_dk dn_171_0_ok 72 rfl) (by decide) (by decide)))))
  (e_Tok2
  (e_Lok (e_rt (I := eI) (k := 4) ⟨(x_dk dn_171_0_ok 73 rfl), rfl⟩))
  (e_Lok (e_st (I := eI) (er_iinc (i := 10) (n := 1) (x_dk dn_171_0_ok 74 rfl) (by decide +kernel) (by decide)))))))))
def te_171_75 : Nat → eE := (e_T 164 (e_T 153 (e_T 148 (e_T 143 (e_L 143 (0, ei_goto 106, 0, 0)) (e_T 146 (e_L 146 (0, ei_load 4 0 148, 0, 0)) (e_L 148 (0, ei_stor 10 0 150, 0, 0)))) (e_T 150 (e_L 150 (0, ei_load 10 0 152, 0, 0)) (e_T 152 (e_L 152 (0, ei_load 2 0 153, 0, 0)) (e_L 153 (0, ei_if2 3 184 156, 0, 0))))) (e_T 159 (e_T 156 (e_L 156 (0, ei_load 10 0 158, 0, 0)) (e_T 158 (e_L 158 (0, ei_load 3 0 159, 0, 0)) (e_L 159 (0, ei_if2 0 178 162, 0, 0)))) (e_T 162 (e_L 162 (0, ei_load 0 2 163, 0, 0)) (e_T 163 (e_L 163 (0, ei_load 1 2 164, 0, 0)) (e_L 164 (0, ei_load 10 0 166, 0, 0)))))) (e_T 176 (e_T 168 (e_T 166 (e_L 166 (0, ei_aald elay 167, 0, 0)) (e_T 167 (e_L 167 (0, ei_push (0, 0) 168, 0, 0)) (e_L 168 (0, ei_load 9 0 170, 0, 0)))) (e_T 170 (e_L 170 (2, e_nof, 172, 4)) (e_T 173 (e_L 173 (0, ei_if1 0 178 176, 0, 0)) (e_L 176 (0, ei_push (0, 1) 177, 0, 0))))) (e_T 181 (e_T 177 (e_L 177 (1, e_nof, 4, 0)) (e_T 178 (e_L 178 (0, ei_inc 10 1 181, 0, 0)) (e_L 181 (0, ei_goto 150, 0, 0)))) (e_T 187 (e_T 184 (e_L 184 (0, ei_inc 8 1 187, 0, 0)) (e_L 187 (0, ei_goto 15, 0, 0))) (e_T 190 (e_L 190 (0, ei_push (0, 0) 191, 0, 0)) (e_L 191 (1, e_nof, 4, 0)))))))
set_option maxRecDepth 20000 in
set_option maxHeartbeats 4000000 in
theorem te_171_75_ok : ∀ pc, e_EOq eft cls elay eI n_171 pc (te_171_75 pc) :=
  (e_Tok2
  (e_Tok2
  (e_Tok2
  (e_Tok2
  (e_Lok (e_st (I := eI) (er_goto (off := (-37)) (tg := 106) (x_dk dn_171_0_ok 75 rfl) (by decide))))
  (e_Tok2
  (e_Lok (e_st (I := eI) (er_iload (i := 4) (x_dk dn_171_0_ok 76 rfl))))
  (e_Lok (e_st (I := eI) (er_istore (i := 10) (x_dk dn_171_0_ok 77 rfl) (by decide +kernel))))))
  (e_Tok2
  (e_Lok (e_st (I := eI) (er_iload (i := 10) (x_dk dn_171_0_ok 78 rfl))))
  (e_Tok2
  (e_Lok (e_st (I := eI) (er_iload_n (i := 2) (x_dk dn_171_0_ok 79 rfl))))
  (e_Lok (e_st (I := eI) (er_icmpge (off := 31) (tg := 184) (x_dk dn_171_0_ok 80 rfl) (by decide)))))))
  (e_Tok2
  (e_Tok2
  (e_Lok (e_st (I := eI) (er_iload (i := 10) (x_dk dn_171_0_ok 81 rfl))))
  (e_Tok2
  (e_Lok (e_st (I := eI) (er_iload_n (i := 3) (x_dk dn_171_0_ok 82 rfl))))
  (e_Lok (e_st (I := eI) (er_icmpeq (off := 19) (tg := 178) (x_dk dn_171_0_ok 83 rfl) (by decide))))))
  (e_Tok2
  (e_Lok (e_st (I := eI) (er_aload_n (i := 0) (x_dk dn_171_0_ok 84 rfl))))
  (e_Tok2
  (e_Lok (e_st (I := eI) (er_aload_n (i := 1) (x_dk dn_171_0_ok 85 rfl))))
  (e_Lok (e_st (I := eI) (er_iload (i := 10) (x_dk dn_171_0_ok 86 rfl))))))))
  (e_Tok2
  (e_Tok2
  (e_Tok2
  (e_Lok (e_st (I := eI) (er_aaload (x_dk dn_171_0_ok 87 rfl))))
  (e_Tok2
  (e_Lok (e_st (I := eI) (er_iconst (n := 0) (z := 0) (v := 0) (x_dk dn_171_0_ok 88 rfl) (by decide) (by decide))))
  (e_Lok (e_st (I := eI) (er_iload (i := 9) (x_dk dn_171_0_ok 89 rfl))))))
  (e_Tok2
  (e_Lok (e_ca (I := eI) (q' := n_172) rfl (xr_callV (q' := n_172) (ix := 97) (n := 3) (in_t8 (List.mem_of_getElem? (i := 103) rfl) rfl) good_w (in_t1 (List.mem_of_getElem? (i := 11) rfl) rfl) (in_t8 (List.mem_of_getElem? (i := 100) rfl) rfl) (in_t8 (List.mem_of_getElem? (i := 102) rfl) rfl) (in_s7 (List.mem_of_getElem? (i := 4) rfl)) (by decide +kernel) (by decide +kernel) (by decide +kernel) (x_dk dn_171_0_ok 90 rfl))))
  (e_Tok2
  (e_Lok (e_st (I := eI) (er_ifeq (off := 5) (tg := 178) (x_dk dn_171_0_ok 91 rfl) (by decide))))
  (e_Lok (e_st (I := eI) (er_iconst (n := 1) (z := 1) (v := 1) (x_dk dn_171_0_ok 92 rfl) (by decide) (by decide)))))))
  (e_Tok2
  (e_Tok2
  (e_Lok (e_rt (I := eI) (k := 4) ⟨(x_dk dn_171_0_ok 93 rfl), rfl⟩))
  (e_Tok2
  (e_Lok (e_st (I := eI) (er_iinc (i := 10) (n := 1) (x_dk dn_171_0_ok 94 rfl) (by decide +kernel) (by decide))))
  (e_Lok (e_st (I := eI) (er_goto (off := (-31)) (tg := 150) (x_dk dn_171_0_ok 95 rfl) (by decide))))))
  (e_Tok2
  (e_Tok2
  (e_Lok (e_st (I := eI) (er_iinc (i := 8) (n := 1) (x_dk dn_171_0_ok 96 rfl) (by decide +kernel) (by decide))))
  (e_Lok (e_st (I := eI) (er_goto (off := (-172)) (tg := 15) (x_dk dn_171_0_ok 97 rfl) (by decide)))))
  (e_Tok2
  (e_Lok (e_st (I := eI) (er_iconst (n := 0) (z := 0) (v := 0) (x_dk dn_171_0_ok 98 rfl) (by decide) (by decide))))
  (e_Lok (e_rt (I := eI) (k := 4) ⟨(x_dk dn_171_0_ok 99 rfl), rfl⟩)))))))
def te_171 : Nat → eE := (e_T 91 (e_T 46 te_171_0 te_171_25) (e_T 140 te_171_50 te_171_75))
theorem te_171_ok : ∀ pc, e_EOq eft cls elay eI n_171 pc (te_171 pc) := (e_Tok2 ((e_Tok2 (te_171_0_ok) (te_171_25_ok))) ((e_Tok2 (te_171_50_ok) (te_171_75_ok))))
def dn_172_0 : List (Nat × Instr × Nat) := [(0, .iload_n 2, 1), (1, .istore 4, 2), (3, .iload 4, 2), (5, .aload_n 1, 1), (6, .invokevirtual 77, 3), (9, .if_icmp .ge 62, 3), (12, .iload_n 3, 1), (13, .aload_n 1, 1), (14, .iload 4, 2), (16, .invokevirtual 93, 3), (19, .iadd, 1), (20, .istore 5, 2), (22, .aload_n 0, 1), (23, .aload_n 1, 1), (24, .getfield 61, 3), (27, .iload 4, 2), (29, .iaload, 1), (30, .aload_n 1, 1), (31, .getfield 66, 3), (34, .iload 4, 2), (36, .iaload, 1), (37, .aload_n 1, 1), (38, .getfield 61, 3), (41, .iload 4, 2), (43, .iconst 1, 1), (44, .iadd, 1), (45, .iaload, 1), (46, .aload_n 1, 1), (47, .getfield 66, 3), (50, .iload 4, 2), (52, .iconst 1, 1), (53, .iadd, 1), (54, .iaload, 1), (55, .iload 5, 2), (57, .invokevirtual 108, 3), (60, .ifCond .eq 5, 3), (63, .iconst 1, 1), (64, .ireturn, 1), (65, .iinc 4 1, 3), (68, .goto (-65), 3), (71, .iconst 0, 1), (72, .ireturn, 1)]
set_option maxRecDepth 20000 in
theorem dn_172_0_ok : dn_172_0.all (fun q => decide (decode prog_11_method_7_code q.1 = .ok (q.2.1, q.2.2))) = true := by decide +kernel
def te_172_0 : Nat → eE := (e_T 16 (e_T 6 (e_T 1 (e_T 0 (e_L 0 (0, ei_load 2 0 1, 0, 0)) (e_L 1 (0, ei_stor 4 0 3, 0, 0))) (e_T 3 (e_L 3 (0, ei_load 4 0 5, 0, 0)) (e_T 5 (e_L 5 (0, ei_load 1 2 6, 0, 0)) (e_L 6 (2, e_nof, 7, 1))))) (e_T 12 (e_T 9 (e_L 9 (0, ei_if2 3 71 12, 0, 0)) (e_L 12 (0, ei_load 3 0 13, 0, 0))) (e_T 13 (e_L 13 (0, ei_load 1 2 14, 0, 0)) (e_T 14 (e_L 14 (0, ei_load 4 0 16, 0, 0)) (e_L 16 (2, e_nof, 8, 2)))))) (e_T 24 (e_T 20 (e_T 19 (e_L 19 (0, ei_bin eF_add 20, 0, 0)) (e_L 20 (0, ei_stor 5 0 22, 0, 0))) (e_T 22 (e_L 22 (0, ei_load 0 2 23, 0, 0)) (e_T 23 (e_L 23 (0, ei_load 1 2 24, 0, 0)) (e_L 24 (0, ei_getf eft elay 0 1 27, 0, 0))))) (e_T 30 (e_T 27 (e_L 27 (0, ei_load 4 0 29, 0, 0)) (e_T 29 (e_L 29 (0, ei_ald elay false 30, 0, 0)) (e_L 30 (0, ei_load 1 2 31, 0, 0)))) (e_T 31 (e_L 31 (0, ei_getf eft elay 0 2 34, 0, 0)) (e_T 34 (e_L 34 (0, ei_load 4 0 36, 0, 0)) (e_L 36 (0, ei_ald elay false 37, 0, 0)))))))
set_option maxRecDepth 20000 in
set_option maxHeartbeats 4000000 in
theorem te_172_0_ok : ∀ pc, e_EOq eft cls elay eI n_172 pc (te_172_0 pc) :=
  (e_Tok2
  (e_Tok2
  (e_Tok2
  (e_Tok2
  (e_Lok (e_st (I := eI) (er_iload_n (i := 2) (x_dk dn_172_0_ok 0 rfl))))
  (e_Lok (e_st (I := eI) (er_istore (i := 4) (x_dk dn_172_0_ok 1 rfl) (by decide +kernel)))))
  (e_Tok2
  (e_Lok (e_st (I := eI) (er_iload (i := 4) (x_dk dn_172_0_ok 2 rfl))))
  (e_Tok2
  (e_Lok (e_st (I := eI) (er_aload_n (i := 1) (x_dk dn_172_0_ok 3 rfl))))
  (e_Lok (e_ca (I := eI) (q' := n_7) rfl (xr_callV (q' := n_7) (ix := 77) (n := 0) (in_t8 (List.mem_of_getElem? (i := 95) rfl) rfl) good_w (in_t1 (List.mem_of_getElem? (i := 8) rfl) rfl) (in_t8 (List.mem_of_getElem? (i := 92) rfl) rfl) (in_t8 (List.mem_of_getElem? (i := 93) rfl) rfl) (in_t8 (List.mem_of_getElem? (i := 94) rfl) rfl) (by decide +kernel) (by decide +kernel) (by decide +kernel) (x_dk dn_172_0_ok 4 rfl)))))))
  (e_Tok2
  (e_Tok2
  (e_Lok (e_st (I := eI) (er_icmpge (off := 62) (tg := 71) (x_dk dn_172_0_ok 5 rfl) (by decide))))
  (e_Lok (e_st (I := eI) (er_iload_n (i := 3) (x_dk dn_172_0_ok 6 rfl)))))
  (e_Tok2
  (e_Lok (e_st (I := eI) (er_aload_n (i := 1) (x_dk dn_172_0_ok 7 rfl))))
  (e_Tok2
  (e_Lok (e_st (I := eI) (er_iload (i := 4) (x_dk dn_172_0_ok 8 rfl))))
  (e_Lok (e_ca (I := eI) (q' := n_8) rfl (xr_callV (q' := n_8) (ix := 93) (n := 1) (in_t8 (List.mem_of_getElem? (i := 99) rfl) rfl) good_w (in_t1 (List.mem_of_getElem? (i := 8) rfl) rfl) (in_t8 (List.mem_of_getElem? (i := 96) rfl) rfl) (in_t8 (List.mem_of_getElem? (i := 97) rfl) rfl) (in_t8 (List.mem_of_getElem? (i := 98) rfl) rfl) (by decide +kernel) (by decide +kernel) (by decide +kernel) (x_dk dn_172_0_ok 9 rfl))))))))
  (e_Tok2
  (e_Tok2
  (e_Tok2
  (e_Lok (e_st (I := eI) (er_iadd (x_dk dn_172_0_ok 10 rfl))))
  (e_Lok (e_st (I := eI) (er_istore (i := 5) (x_dk dn_172_0_ok 11 rfl) (by decide +kernel)))))
  (e_Tok2
  (e_Lok (e_st (I := eI) (er_aload_n (i := 0) (x_dk dn_172_0_ok 12 rfl))))
  (e_Tok2
  (e_Lok (e_st (I := eI) (er_aload_n (i := 1) (x_dk dn_172_0_ok 13 rfl))))
  (e_Lok (e_st (I := eI) (er_getf (ci := 0) (k := 1) (ix := 61) (N := 20) (C := RX0) (T := TX0) rfl in_X0 (by decide) (in_t2 (List.mem_of_getElem? (i := 149) rfl) rfl) (x_dk dn_172_0_ok 14 rfl)))))))
  (e_Tok2
  (e_Tok2
  (e_Lok (e_st (I := eI) (er_iload (i := 4) (x_dk dn_172_0_ok 15 rfl))))
  (e_Tok2
  (e_Lok (e_st (I := eI) (er_iaload (x_dk dn_172_0_ok 16 rfl))))
  (e_Lok (e_st (I := eI) (er_aload_n (i := 1) (x_dk dn_172_0_ok 17 rfl))))))
  (e_Tok2
  (e_Lok (e_st (I := eI) (er_getf (ci := 0) (k := 2) (ix := 66) (N := 20) (C := RX0) (T := TX0) rfl in_X0 (by decide) (in_t2 (List.mem_of_getElem? (i := 153) rfl) rfl) (x_dk dn_172_0_ok 18 rfl))))
  (e_Tok2
  (e_Lok (e_st (I := eI) (er_iload (i := 4) (x_dk dn_172_0_ok 19 rfl))))
  (e_Lok (e_st (I := eI) (er_iaload (x_dk dn_172_0_ok 20 rfl)))))))))
def te_172_21 : Nat → eE := (e_T 52 (e_T 44 (e_T 38 (e_T 37 (e_L 37 (0, ei_load 1 2 38, 0, 0)) (e_L 38 (0, ei_getf eft elay 0 1 41, 0, 0))) (e_T 41 (e_L 41 (0, ei_load 4 0 43, 0, 0)) (e_T 43 (e_L 43 (0, ei_push (0, 1) 44, 0, 0)) (e_L 44 (0, ei_bin eF_add 45, 0, 0))))) (e_T 46 (e_T 45 (e_L 45 (0, ei_ald elay false 46, 0, 0)) (e_L 46 (0, ei_load 1 2 47, 0, 0))) (e_T 47 (e_L 47 (0, ei_getf eft elay 0 2 50, 0, 0)) (e_T 50 (e_L 50 (0, ei_load 4 0 52, 0, 0)) (e_L 52 (0, ei_push (0, 1) 53, 0, 0)))))) (e_T 60 (e_T 54 (e_T 53 (e_L 53 (0, ei_bin eF_add 54, 0, 0)) (e_L 54 (0, ei_ald elay false 55, 0, 0))) (e_T 55 (e_L 55 (0, ei_load 5 0 57, 0, 0)) (e_T 57 (e_L 57 (2, e_nof, 175, 6)) (e_L 60 (0, ei_if1 0 65 63, 0, 0))))) (e_T 65 (e_T 63 (e_L 63 (0, ei_push (0, 1) 64, 0, 0)) (e_T 64 (e_L 64 (1, e_nof, 4, 0)) (e_L 65 (0, ei_inc 4 1 68, 0, 0)))) (e_T 68 (e_L 68 (0, ei_goto 3, 0, 0)) (e_T 71 (e_L 71 (0, ei_push (0, 0) 72, 0, 0)) (e_L 72 (1, e_nof, 4, 0)))))))
set_option maxRecDepth 20000 in
set_option maxHeartbeats 4000000 in
theorem te_172_21_ok : ∀ pc, e_EOq eft cls elay eI n_172 pc (te_172_21 pc) :=
  (e_Tok2
  (e_Tok2
  (e_Tok2
  (e_Tok2
  (e_Lok (e_st (I := eI) (er_aload_n (i := 1) (x_dk dn_172_0_ok 21 rfl))))
  (e_Lok (e_st (I := eI) (er_getf (ci := 0) (k := 1) (ix := 61) (N := 20) (C := RX0) (T := TX0) rfl in_X0 (by decide) (in_t2 (List.mem_of_getElem? (i := 149) rfl) rfl) (x_dk dn_172_0_ok 22 rfl)))))
  (e_Tok2
  (e_Lok (e_st (I := eI) (er_iload (i := 4) (x_dk dn_172_0_ok 23 rfl))))
  (e_Tok2
  (e_Lok (e_st (I := eI) (er_iconst (n := 1) (z := 1) (v := 1) (x_dk dn_172_0_ok 24 rfl) (by decide) (by decide))))
  (e_Lok (e_st (I := eI) (er_iadd (x_dk dn_172_0_ok 25 rfl)))))))
  (e_Tok2
  (e_Tok2
  (e_Lok (e_st (I := eI) (er_iaload (x_dk dn_172_0_ok 26 rfl))))
  (e_Lok (e_st (I := eI) (er_aload_n (i := 1) (x_dk dn_172_0_ok 27 rfl)))))
  (e_Tok2
  (e_Lok (e_st (I := eI) (er_getf (ci := 0) (k := 2) (ix := 66) (N := 20) (C := RX0) (T := TX0) rfl in_X0 (by decide) (in_t2 (List.mem_of_getElem? (i := 153) rfl) rfl) (x_dk dn_172_0_ok 28 rfl))))
  (e_Tok2
  (e_Lok (e_st (I := eI) (er_iload (i := 4) (x_dk dn_172_0_ok 29 rfl))))
  (e_Lok (e_st (I := eI) (er_iconst (n := 1) (z := 1) (v := 1) (x_dk dn_172_0_ok 30 rfl) (by decide) (by decide))))))))
  (e_Tok2
  (e_Tok2
  (e_Tok2
  (e_Lok (e_st (I := eI) (er_iadd (x_dk dn_172_0_ok 31 rfl))))
  (e_Lok (e_st (I := eI) (er_iaload (x_dk dn_172_0_ok 32 rfl)))))
  (e_Tok2
  (e_Lok (e_st (I := eI) (er_iload (i := 5) (x_dk dn_172_0_ok 33 rfl))))
  (e_Tok2
  (e_Lok (e_ca (I := eI) (q' := n_175) rfl (xr_callV (q' := n_175) (ix := 108) (n := 5) (in_t8 (List.mem_of_getElem? (i := 107) rfl) rfl) good_w (in_t1 (List.mem_of_getElem? (i := 11) rfl) rfl) (in_t8 (List.mem_of_getElem? (i := 104) rfl) rfl) (in_t8 (List.mem_of_getElem? (i := 106) rfl) rfl) (in_s7 (List.mem_of_getElem? (i := 5) rfl)) (by decide +kernel) (by decide +kernel) (by decide +kernel) (x_dk dn_172_0_ok 34 rfl))))
  (e_Lok (e_st (I := eI) (er_ifeq (off := 5) (tg := 65) (x_dk dn_172_0_ok 35 rfl) (by decide)))))))
  (e_Tok2
  (e_Tok2
  (e_Lok (e_st (I := eI) (er_iconst (n := 1) (z := 1) (v := 1) (x_dk dn_172_0_ok 36 rfl) (by decide) (by decide))))
  (e_Tok2
  (e_Lok (e_rt (I := eI) (k := 4) ⟨(x_dk dn_172_0_ok 37 rfl), rfl⟩))
  (e_Lok (e_st (I := eI) (er_iinc (i := 4) (n := 1) (x_dk dn_172_0_ok 38 rfl) (by decide +kernel) (by decide))))))
  (e_Tok2
  (e_Lok (e_st (I := eI) (er_goto (off := (-65)) (tg := 3) (x_dk dn_172_0_ok 39 rfl) (by decide))))
  (e_Tok2
  (e_Lok (e_st (I := eI) (er_iconst (n := 0) (z := 0) (v := 0) (x_dk dn_172_0_ok 40 rfl) (by decide) (by decide))))
  (e_Lok (e_rt (I := eI) (k := 4) ⟨(x_dk dn_172_0_ok 41 rfl), rfl⟩)))))))
def te_172 : Nat → eE := (e_T 36 te_172_0 te_172_21)
theorem te_172_ok : ∀ pc, e_EOq eft cls elay eI n_172 pc (te_172 pc) := (e_Tok2 (te_172_0_ok) (te_172_21_ok))
def dn_173_0 : List (Nat × Instr × Nat) := [(0, .aload_n 0, 1), (1, .getfield 9, 3), (4, .iload_n 1, 1), (5, .iaload, 1), (6, .istore_n 3, 1), (7, .aload_n 0, 1), (8, .getfield 15, 3), (11, .iload_n 1, 1), (12, .iaload, 1), (13, .istore 4, 2), (15, .aload_n 0, 1), (16, .getfield 24, 3), (19, .iload_n 1, 1), (20, .iaload, 1), (21, .iconst (-1), 1), (22, .if_icmp .eq 22, 3), (25, .aload_n 0, 1), (26, .iload_n 3, 1), (27, .iload 4, 2), (29, .iload_n 3, 1), (30, .iload 4, 2), (32, .iload_n 2, 1), (33, .aload_n 0, 1), (34, .getfield 24, 3), (37, .iload_n 1, 1), (38, .iaload, 1), (39, .iadd, 1), (40, .invokevirtual 108, 3), (43, .ireturn, 1), (44, .iload_n 3, 1), (45, .aload_n 0, 1), (46, .getfield 18, 3), (49, .iload_n 1, 1), (50, .iaload, 1), (51, .iadd, 1), (52, .istore 5, 2), (54, .iload 4, 2), (56, .aload_n 0, 1), (57, .getfield 21, 3), (60, .iload_n 1, 1), (61, .iaload, 1), (62, .iadd, 1), (63, .istore 6, 2), (65, .aload_n 0, 1), (66, .iload_n 3, 1), (67, .iload 4, 2), (69, .iload 5, 2), (71, .iload 6, 2), (73, .iload_n 2, 1), (74, .invokevirtual 112, 3), (77, .ifCond .eq 5, 3), (80, .iconst 0, 1), (81, .ireturn, 1), (82, .aload_n 0, 1), (83, .getfield 81, 3), (86, .iload_n 3, 1), (87, .iload 5, 2), (89, .invokestatic 62, 3), (92, .ifCond .eq 19, 3), (95, .aload_n 0, 1), (96, .getfield 84, 3), (99, .iload 4, 2), (101, .iload 6, 2), (103, .invokestatic 62, 3), (106, .ifCond .eq 5, 3), (109, .iconst 1, 1), (110, .ireturn, 1), (111, .aload_n 0, 1), (112, .iload_n 3, 1), (113, .iload 4, 2), (115, .iload 5, 2), (117, .iload 4, 2), (119, .iload_n 2, 1), (120, .invokevirtual 108, 3), (123, .ifCond .ne 48, 3), (126, .aload_n 0, 1), (127, .iload_n 3, 1), (128, .iload 6, 2), (130, .iload 5, 2), (132, .iload 6, 2), (134, .iload_n 2, 1), (135, .invokevirtual 108, 3), (138, .ifCond .ne 33, 3), (141, .aload_n 0, 1), (142, .iload_n 3, 1), (143, .iload 4, 2), (145, .iload_n 3, 1), (146, .iload 6, 2), (148, .iload_n 2, 1), (149, .invokevirtual 108, 3), (152, .ifCond .ne 19, 3), (155, .aload_n 0, 1), (156, .iload 5, 2), (158, .iload 4, 2), (160, .iload 5, 2), (162, .iload 6, 2), (164, .iload_n 2, 1), (165, .invokevirtual 108, 3), (168, .ifCond .eq 7, 3), (171, .iconst 1, 1)]
set_option maxRecDepth 20000 in
theorem dn_173_0_ok : dn_173_0.all (fun q => decide (decode prog_11_method_8_code q.1 = .ok (q.2.1, q.2.2))) = true := by decide +kernel
def dn_173_1 : List (Nat × Instr × Nat) := [(172, .goto 4, 3), (175, .iconst 0, 1), (176, .ireturn, 1)]
set_option maxRecDepth 20000 in
theorem dn_173_1_ok : dn_173_1.all (fun q => decide (decode prog_11_method_8_code q.1 = .ok (q.2.1, q.2.2))) = true := by decide +kernel
def te_173_0 : Nat → eE := (e_T 16 (e_T 7 (e_T 4 (e_T 0 (e_L 0 (0, ei_load 0 2 1, 0, 0)) (e_T 1 (e_L 1 (0, ei_getf eft elay 9 2 4, 0, 0)) (e_L 4 (0, ei_load 1 0 5, 0, 0)))) (e_T 5 (e_L 5 (0, ei_ald elay false 6, 0, 0)) (e_T 6 (e_L 6 (0, ei_stor 3 0 7, 0, 0)) (e_L 7 (0, ei_load 0 2 8, 0, 0))))) (e_T 12 (e_T 8 (e_L 8 (0, ei_getf eft elay 9 3 11, 0, 0)) (e_T 11 (e_L 11 (0, ei_load 1 0 12, 0, 0)) (e_L 12 (0, ei_ald elay false 13, 0, 0)))) (e_T 13 (e_L 13 (0, ei_stor 4 0 15, 0, 0)) (e_T 15 (e_L 15 (0, ei_load 0 2 16, 0, 0)) (e_L 16 (0, ei_getf eft elay 9 6 19, 0, 0)))))) (e_T 26 (e_T 21 (e_T 19 (e_L 19 (0, ei_load 1 0 20, 0, 0)) (e_T 20 (e_L 20 (0, ei_ald elay false 21, 0, 0)) (e_L 21 (0, ei_push (0, (-1)) 22, 0, 0)))) (e_T 22 (e_L 22 (0, ei_if2 0 44 25, 0, 0)) (e_T 25 (e_L 25 (0, ei_load 0 2 26, 0, 0)) (e_L 26 (0, ei_load 3 0 27, 0, 0))))) (e_T 30 (e_T 27 (e_L 27 (0, ei_load 4 0 29, 0, 0)) (e_T 29 (e_L 29 (0, ei_load 3 0 30, 0, 0)) (e_L 30 (0, ei_load 4 0 32, 0, 0)))) (e_T 33 (e_T 32 (e_L 32 (0, ei_load 2 0 33, 0, 0)) (e_L 33 (0, ei_load 0 2 34, 0, 0))) (e_T 34 (e_L 34 (0, ei_getf eft elay 9 6 37, 0, 0)) (e_L 37 (0, ei_load 1 0 38, 0, 0)))))))
set_option maxRecDepth 20000 in
set_option maxHeartbeats 4000000 in
theorem te_173_0_ok : ∀ pc, e_EOq eft cls elay eI n_173 pc (te_173_0 pc) :=
  (e_Tok2
  (e_Tok2
  (e_Tok2
  (e_Tok2
  (e_Lok (e_st (I := eI) (er_aload_n (i := 0) (x_dk dn_173_0_ok 0 rfl))))
  (e_Tok2
  (e_Lok (e_st (I := eI) (er_getf (ci := 9) (k := 2) (ix := 9) (N := 17) (C := RX9) (T := TX9) rfl in_X9 (by decide) (in_t3 (List.mem_of_getElem? (i := 141) rfl) rfl) (x_dk dn_173_0_ok 1 rfl))))
  (e_Lok (e_st (I := eI) (er_iload_n (i := 1) (x_dk dn_173_0_ok 2 rfl))))))
  (e_Tok2
  (e_Lok (e_st (I := eI) (er_iaload (x_dk dn_173_0_ok 3 rfl))))
  (e_Tok2
  (e_Lok (e_st (I := eI) (er_istore_n (i := 3) (x_dk dn_173_0_ok 4 rfl) (by decide +kernel))))
  (e_Lok (e_st (I := eI) (er_aload_n (i := 0) (x_dk dn_173_0_ok 5 rfl)))))))
  (e_Tok2
  (e_Tok2
  (e_Lok (e_st (I := eI) (er_getf (ci := 9) (k := 3) (ix := 15) (N := 17) (C := RX9) (T := TX9) rfl in_X9 (by decide) (in_t3 (List.mem_of_getElem? (i := 142) rfl) rfl) (x_dk dn_173_0_ok 6 rfl))))
  (e_Tok2
  (e_Lok (e_st (I := eI) (er_iload_n (i := 1) (x_dk dn_173_0_ok 7 rfl))))
  (e_Lok (e_st (I := eI) (er_iaload (x_dk dn_173_0_ok 8 rfl))))))
  (e_Tok2
  (e_Lok (e_st (I := eI) (er_istore (i := 4) (x_dk dn_173_0_ok 9 rfl) (by decide +kernel))))
  (e_Tok2
  (e_Lok (e_st (I := eI) (er_aload_n (i := 0) (x_dk dn_173_0_ok 10 rfl))))
  (e_Lok (e_st (I := eI) (er_getf (ci := 9) (k := 6) (ix := 24) (N := 17) (C := RX9) (T := TX9) rfl in_X9 (by decide) (in_t3 (List.mem_of_getElem? (i := 145) rfl) rfl) (x_dk dn_173_0_ok 11 rfl))))))))
  (e_Tok2
  (e_Tok2
  (e_Tok2
  (e_Lok (e_st (I := eI) (er_iload_n (i := 1) (x_dk dn_173_0_ok 12 rfl))))
  (e_Tok2
  (e_Lok (e_st (I := eI) (er_iaload (x_dk dn_173_0_ok 13 rfl))))
  (e_Lok (e_st (I := eI) (er_iconst (n := (-1)) (z := (-1)) (v := (-1)) (x_dk dn_173_0_ok 14 rfl) (by decide) (by decide))))))
  (e_Tok2
  (e_Lok (e_st (I := eI) (er_icmpeq (off := 22) (tg := 44) (x_dk dn_173_0_ok 15 rfl) (by decide))))
  (e_Tok2
  (e_Lok (e_st (I := eI) (er_aload_n (i := 0) (x_dk dn_173_0_ok 16 rfl))))
  (e_Lok (e_st (I := eI) (er_iload_n (i := 3) (x_dk dn_173_0_ok 17 rfl)))))))
  (e_Tok2
  (e_Tok2
  (e_Lok (e_st (I := eI) (er_iload (i := 4) (x_dk dn_173_0_ok 18 rfl))))
  (e_Tok2
  (e_Lok (e_st (I := eI) (er_iload_n (i := 3) (x_dk dn_173_0_ok 19 rfl))))
  (e_Lok (e_st (I := eI) (er_iload (i := 4) (x_dk dn_173_0_ok 20 rfl))))))
  (e_Tok2
  (e_Tok2
  (e_Lok (e_st (I := eI) (er_iload_n (i := 2) (x_dk dn_173_0_ok 21 rfl))))
  (e_Lok (e_st (I := eI) (er_aload_n (i := 0) (x_dk dn_173_0_ok 22 rfl)))))
  (e_Tok2
  (e_Lok (e_st (I := eI) (er_getf (ci := 9) (k := 6) (ix := 24) (N := 17) (C := RX9) (T := TX9) rfl in_X9 (by decide) (in_t3 (List.mem_of_getElem? (i := 145) rfl) rfl) (x_dk dn_173_0_ok 23 rfl))))
  (e_Lok (e_st (I := eI) (er_iload_n (i := 1) (x_dk dn_173_0_ok 24 rfl)))))))))
def te_173_25 : Nat → eE := (e_T 56 (e_T 45 (e_T 40 (e_T 38 (e_L 38 (0, ei_ald elay false 39, 0, 0)) (e_T 39 (e_L 39 (0, ei_bin eF_add 40, 0, 0)) (e_L 40 (2, e_nof, 175, 6)))) (e_T 43 (e_L 43 (1, e_nof, 4, 0)) (e_T 44 (e_L 44 (0, ei_load 3 0 45, 0, 0)) (e_L 45 (0, ei_load 0 2 46, 0, 0))))) (e_T 50 (e_T 46 (e_L 46 (0, ei_getf eft elay 9 4 49, 0, 0)) (e_T 49 (e_L 49 (0, ei_load 1 0 50, 0, 0)) (e_L 50 (0, ei_ald elay false 51, 0, 0)))) (e_T 52 (e_T 51 (e_L 51 (0, ei_bin eF_add 52, 0, 0)) (e_L 52 (0, ei_stor 5 0 54, 0, 0))) (e_T 54 (e_L 54 (0, ei_load 4 0 56, 0, 0)) (e_L 56 (0, ei_load 0 2 57, 0, 0)))))) (e_T 65 (e_T 61 (e_T 57 (e_L 57 (0, ei_getf eft elay 9 5 60, 0, 0)) (e_T 60 (e_L 60 (0, ei_load 1 0 61, 0, 0)) (e_L 61 (0, ei_ald elay false 62, 0, 0)))) (e_T 62 (e_L 62 (0, ei_bin eF_add 63, 0, 0)) (e_T 63 (e_L 63 (0, ei_stor 6 0 65, 0, 0)) (e_L 65 (0, ei_load 0 2 66, 0, 0))))) (e_T 69 (e_T 66 (e_L 66 (0, ei_load 3 0 67, 0, 0)) (e_T 67 (e_L 67 (0, ei_load 4 0 69, 0, 0)) (e_L 69 (0, ei_load 5 0 71, 0, 0)))) (e_T 73 (e_T 71 (e_L 71 (0, ei_load 6 0 73, 0, 0)) (e_L 73 (0, ei_load 2 0 74, 0, 0))) (e_T 74 (e_L 74 (2, e_nof, 174, 6)) (e_L 77 (0, ei_if1 0 82 80, 0, 0)))))))
set_option maxRecDepth 20000 in
set_option maxHeartbeats 4000000 in
theorem te_173_25_ok : ∀ pc, e_EOq eft cls elay eI n_173 pc (te_173_25 pc) :=
  (e_Tok2
  (e_Tok2
  (e_Tok2
  (e_Tok2
  (e_Lok (e_st (I := eI) (er_iaload (x_dk dn_173_0_ok 25 rfl))))
  (e_Tok2
  (e_Lok (e_st (I := eI) (er_iadd (x_dk dn_173_0_ok 26 rfl))))
  (e_Lok (e_ca (I := eI) (q' := n_175) rfl (xr_callV (q' := n_175) (ix := 108) (n := 5) (in_t8 (List.mem_of_getElem? (i := 107) rfl) rfl) good_w (in_t1 (List.mem_of_getElem? (i := 11) rfl) rfl) (in_t8 (List.mem_of_getElem? (i := 104) rfl) rfl) (in_t8 (List.mem_of_getElem? (i := 106) rfl) rfl) (in_s7 (List.mem_of_getElem? (i := 5) rfl)) (by decide +kernel) (by decide +kernel) (by decide +kernel) (x_dk dn_173_0_ok 27 rfl))))))
  (e_Tok2
  (e_Lok (e_rt (I := eI) (k := 4) ⟨(x_dk dn_173_0_ok 28 rfl), rfl⟩))
  (e_Tok2
  (e_Lok (e_st (I := eI) (er_iload_n (i := 3) (x_dk dn_173_0_ok 29 rfl))))
  (e_Lok (e_st (I := eI) (er_aload_n (i := 0) (x_dk dn_173_0_ok 30 rfl)))))))
  (e_Tok2
  (e_Tok2
  (e_Lok (e_st (I := eI) (er_getf (ci := 9) (k := 4) (ix := 18) (N := 17) (C := RX9) (T := TX9) rfl in_X9 (by decide) (in_t3 (List.mem_of_getElem? (i := 143) rfl) rfl) (x_dk dn_173_0_ok 31 rfl))))
  (e_Tok2
  (e_Lok (e_st (I := eI) (er_iload_n (i := 1) (x_dk dn_173_0_ok 32 rfl))))
  (e_Lok (e_st (I := eI) (er_iaload (x_dk dn_173_0_ok 33 rfl))))))
  (e_Tok2
  (e_Tok2
  (e_Lok (e_st (I := eI) (er_iadd (x_dk dn_173_0_ok 34 rfl))))
  (e_Lok (e_st (I := eI) (er_istore (i := 5) (x_dk dn_173_0_ok 35 rfl) (by decide +kernel)))))
  (e_Tok2
  (e_Lok (e_st (I := eI) (er_iload (i := 4) (x_dk dn_173_0_ok 36 rfl))))
  (e_Lok (e_st (I := eI) (er_aload_n (i := 0) (x_dk dn_173_0_ok 37 rfl))))))))
  (e_Tok2
  (e_Tok2
  (e_Tok2
  (e_Lok (e_st (I := eI) (er_getf (ci := 9) (k := 5) (ix := 21) (N := 17) (C := RX9) (T := TX9) rfl in_X9 (by decide) (in_t3 (List.mem_of_getElem? (i := 144) rfl) rfl) (x_dk dn_173_0_ok 38 rfl))))
  (e_Tok2
  (e_Lok (e_st (I := eI) (er_iload_n (i := 1) (x_dk dn_173_0_ok 39 rfl))))
  (e_Lok (e_st (I := eI) (er_iaload (x_dk dn_173_0_ok 40 rfl))))))
  (e_Tok2
  (e_Lok (e_st (I := eI) (er_iadd (x_dk dn_173_0_ok 41 rfl))))
  (e_Tok2
  (e_Lok (e_st (I := eI) (er_istore (i := 6) (x_dk dn_173_0_ok 42 rfl) (by decide +kernel))))
  (e_Lok (e_st (I := eI) (er_aload_n (i := 0) (x_dk dn_173_0_ok 43 rfl)))))))
  (e_Tok2
  (e_Tok2
  (e_Lok (e_st (I := eI) (er_iload_n (i := 3) (x_dk dn_173_0_ok 44 rfl))))
  (e_Tok2
  (e_Lok (e_st (I := eI) (er_iload (i := 4) (x_dk dn_173_0_ok 45 rfl))))
  (e_Lok (e_st (I := eI) (er_iload (i := 5) (x_dk dn_173_0_ok 46 rfl))))))
  (e_Tok2
  (e_Tok2
  (e_Lok (e_st (I := eI) (er_iload (i := 6) (x_dk dn_173_0_ok 47 rfl))))
  (e_Lok (e_st (I := eI) (er_iload_n (i := 2) (x_dk dn_173_0_ok 48 rfl)))))
  (e_Tok2
  (e_Lok (e_ca (I := eI) (q' := n_174) rfl (xr_callV (q' := n_174) (ix := 112) (n := 5) (in_t8 (List.mem_of_getElem? (i := 111) rfl) rfl) good_w (in_t1 (List.mem_of_getElem? (i := 11) rfl) rfl) (in_t8 (List.mem_of_getElem? (i := 108) rfl) rfl) (in_t8 (List.mem_of_getElem? (i := 110) rfl) rfl) (in_s7 (List.mem_of_getElem? (i := 6) rfl)) (by decide +kernel) (by decide +kernel) (by decide +kernel) (x_dk dn_173_0_ok 49 rfl))))
  (e_Lok (e_st (I := eI) (er_ifeq (off := 5) (tg := 82) (x_dk dn_173_0_ok 50 rfl) (by decide)))))))))
def te_173_51 : Nat → eE := (e_T 103 (e_T 87 (e_T 82 (e_T 80 (e_L 80 (0, ei_push (0, 0) 81, 0, 0)) (e_T 81 (e_L 81 (1, e_nof, 4, 0)) (e_L 82 (0, ei_load 0 2 83, 0, 0)))) (e_T 83 (e_L 83 (0, ei_getf eft elay 9 13 86, 0, 0)) (e_T 86 (e_L 86 (0, ei_load 3 0 87, 0, 0)) (e_L 87 (0, ei_load 5 0 89, 0, 0))))) (e_T 95 (e_T 89 (e_L 89 (2, e_nof, 242, 3)) (e_T 92 (e_L 92 (0, ei_if1 0 111 95, 0, 0)) (e_L 95 (0, ei_load 0 2 96, 0, 0)))) (e_T 99 (e_T 96 (e_L 96 (0, ei_getf eft elay 9 14 99, 0, 0)) (e_L 99 (0, ei_load 4 0 101, 0, 0))) (e_T 101 (e_L 101 (0, ei_load 6 0 103, 0, 0)) (e_L 103 (2, e_nof, 242, 3)))))) (e_T 113 (e_T 110 (e_T 106 (e_L 106 (0, ei_if1 0 111 109, 0, 0)) (e_T 109 (e_L 109 (0, ei_push (0, 1) 110, 0, 0)) (e_L 110 (1, e_nof, 4, 0)))) (e_T 111 (e_L 111 (0, ei_load 0 2 112, 0, 0)) (e_T 112 (e_L 112 (0, ei_load 3 0 113, 0, 0)) (e_L 113 (0, ei_load 4 0 115, 0, 0))))) (e_T 119 (e_T 115 (e_L 115 (0, ei_load 5 0 117, 0, 0)) (e_T 117 (e_L 117 (0, ei_load 4 0 119, 0, 0)) (e_L 119 (0, ei_load 2 0 120, 0, 0)))) (e_T 123 (e_T 120 (e_L 120 (2, e_nof, 175, 6)) (e_L 123 (0, ei_if1 1 171 126, 0, 0))) (e_T 126 (e_L 126 (0, ei_load 0 2 127, 0, 0)) (e_L 127 (0, ei_load 3 0 128, 0, 0)))))))
set_option maxRecDepth 20000 in
set_option maxHeartbeats 4000000 in
theorem te_173_51_ok : ∀ pc, e_EOq eft cls elay eI n_173 pc (te_173_51 pc) :=
  (e_Tok2
  (e_Tok2
  (e_Tok2
  (e_Tok2
  (e_Lok (e_st (I := eI) (er_iconst (n := 0) (z := 0) (v := 0) (x_dk dn_173_0_ok 51 rfl) (by decide) (by decide))))
  (e_Tok2
  (e_Lok (e_rt (I := eI) (k := 4) ⟨(x_dk dn_173_0_ok 52 rfl), rfl⟩))
  (e_Lok (e_st (I := eI) (er_aload_n (i := 0) (x_dk dn_173_0_ok 53 rfl))))))
  (e_Tok2
  (e_Lok (e_st (I := eI) (er_getf (ci := 9) (k := 13) (ix := 81) (N := 17) (C := RX9) (T := TX9) rfl in_X9 (by decide) (in_t3 (List.mem_of_getElem? (i := 153) rfl) rfl) (x_dk dn_173_0_ok 54 rfl))))
  (e_Tok2
  (e_Lok (e_st (I := eI) (er_iload_n (i := 3) (x_dk dn_173_0_ok 55 rfl))))
  (e_Lok (e_st (I := eI) (er_iload (i := 5) (x_dk dn_173_0_ok 56 rfl)))))))
  (e_Tok2
  (e_Tok2
  (e_Lok (e_ca (I := eI) (q' := n_242) rfl (xr_callSN (q' := n_242) (ix := 62) (n := 3) (host := "RobotCellHouse") (in_t4 (List.mem_of_getElem? (i := 168) rfl) rfl) good_w (in_t1 (List.mem_of_getElem? (i := 1) rfl) rfl) (List.mem_of_getElem? (i := 17) rfl) (in_t4 (List.mem_of_getElem? (i := 167) rfl) rfl) (by decide +kernel) (by decide +kernel) (x_dk dn_173_0_ok 57 rfl))))
  (e_Tok2
  (e_Lok (e_st (I := eI) (er_ifeq (off := 19) (tg := 111) (x_dk dn_173_0_ok 58 rfl) (by decide))))
  (e_Lok (e_st (I := eI) (er_aload_n (i := 0) (x_dk dn_173_0_ok 59 rfl))))))
  (e_Tok2
  (e_Tok2
  (e_Lok (e_st (I := eI) (er_getf (ci := 9) (k := 14) (ix := 84) (N := 17) (C := RX9) (T := TX9) rfl in_X9 (by decide) (in_t3 (List.mem_of_getElem? (i := 154) rfl) rfl) (x_dk dn_173_0_ok 60 rfl))))
  (e_Lok (e_st (I := eI) (er_iload (i := 4) (x_dk dn_173_0_ok 61 rfl)))))
  (e_Tok2
  (e_Lok (e_st (I := eI) (er_iload (i := 6) (x_dk dn_173_0_ok 62 rfl))))
  (e_Lok (e_ca (I := eI) (q' := n_242) rfl (xr_callSN (q' := n_242) (ix := 62) (n := 3) (host := "RobotCellHouse") (in_t4 (List.mem_of_getElem? (i := 168) rfl) rfl) good_w (in_t1 (List.mem_of_getElem? (i := 1) rfl) rfl) (List.mem_of_getElem? (i := 17) rfl) (in_t4 (List.mem_of_getElem? (i := 167) rfl) rfl) (by decide +kernel) (by decide +kernel) (x_dk dn_173_0_ok 63 rfl))))))))
  (e_Tok2
  (e_Tok2
  (e_Tok2
  (e_Lok (e_st (I := eI) (er_ifeq (off := 5) (tg := 111) (x_dk dn_173_0_ok 64 rfl) (by decide))))
  (e_Tok2
  (e_Lok (e_st (I := eI) (er_iconst (n := 1) (z := 1) (v := 1) (x_dk dn_173_0_ok 65 rfl) (by decide) (by decide))))
  (e_Lok (e_rt (I := eI) (k := 4) ⟨(x_dk dn_173_0_ok 66 rfl), rfl⟩))))
  (e_Tok2
  (e_Lok (e_st (I := eI) (er_aload_n (i := 0) (x_dk dn_173_0_ok 67 rfl))))
  (e_Tok2
  (e_Lok (e_st (I := eI) (er_iload_n (i := 3) (x_dk dn_173_0_ok 68 rfl))))
  (e_Lok (e_st (I := eI) (er_iload (i := 4) (x_dk dn_173_0_ok 69 rfl)))))))
  (e_Tok2
  (e_Tok2
  (e_Lok (e_st (I := eI) (er_iload (i := 5) (x_dk dn_173_0_ok 70 rfl))))
  (e_Tok2
  (e_Lok (e_st (I := eI) (er_iload (i := 4) (x_dk dn_173_0_ok 71 rfl))))
  (e_Lok (e_st (I := eI) (er_iload_n (i := 2) (x_dk dn_173_0_ok 72 rfl))))))
  (e_Tok2
  (e_Tok2
  (e_Lok (e_ca (I := eI) (q' := n_175) rfl (xr_callV (q' := n_175) (ix := 108) (n := 5) (in_t8 (List.mem_of_getElem? (i := 107) rfl) rfl) good_w (in_t1 (List.mem_of_getElem? (i := 11) rfl) rfl) (in_t8 (List.mem_of_getElem? (i := 104) rfl) rfl) (in_t8 (List.mem_of_getElem? (i := 106) rfl) rfl) (in_s7 (List.mem_of_getElem? (i := 5) rfl)) (by decide +kernel) (by decide +kernel) (by decide +kernel) (x_dk dn_173_0_ok 73 rfl))))
  (e_Lok (e_st (I := eI) (er_ifne (off := 48) (tg := 171) (x_dk dn_173_0_ok 74 rfl) (by decide)))))
  (e_Tok2
  (e_Lok (e_st (I := eI) (er_aload_n (i := 0) (x_dk dn_173_0_ok 75 rfl))))
  (e_Lok (e_st (I := eI) (er_iload_n (i := 3) (x_dk dn_173_0_ok 76 rfl)))))))))
def te_173_77 : Nat → eE := (e_T 149 (e_T 138 (e_T 132 (e_T 128 (e_L 128 (0, ei_load 6 0 130, 0, 0)) (e_T 130 (e_L 130 (0, ei_load 5 0 132, 0, 0)) (e_L 132 (0, ei_load 6 0 134, 0, 0)))) (e_T 134 (e_L 134 (0, ei_load 2 0 135, 0, 0)) (e_T 135 (e_L 135 (2, e_nof, 175, 6)) (e_L 138 (0, ei_if1 1 171 141, 0, 0))))) (e_T 143 (e_T 141 (e_L 141 (0, ei_load 0 2 142, 0, 0)) (e_T 142 (e_L 142 (0, ei_load 3 0 143, 0, 0)) (e_L 143 (0, ei_load 4 0 145, 0, 0)))) (e_T 146 (e_T 145 (e_L 145 (0, ei_load 3 0 146, 0, 0)) (e_L 146 (0, ei_load 6 0 148, 0, 0))) (e_T 148 (e_L 148 (0, ei_load 2 0 149, 0, 0)) (e_L 149 (2, e_nof, 175, 6)))))) (e_T 162 (e_T 156 (e_T 152 (e_L 152 (0, ei_if1 1 171 155, 0, 0)) (e_T 155 (e_L 155 (0, ei_load 0 2 156, 0, 0)) (e_L 156 (0, ei_load 5 0 158, 0, 0)))) (e_T 158 (e_L 158 (0, ei_load 4 0 160, 0, 0)) (e_T 160 (e_L 160 (0, ei_load 5 0 162, 0, 0)) (e_L 162 (0, ei_load 6 0 164, 0, 0))))) (e_T 168 (e_T 164 (e_L 164 (0, ei_load 2 0 165, 0, 0)) (e_T 165 (e_L 165 (2, e_nof, 175, 6)) (e_L 168 (0, ei_if1 0 175 171, 0, 0)))) (e_T 172 (e_T 171 (e_L 171 (0, ei_push (0, 1) 172, 0, 0)) (e_L 172 (0, ei_goto 176, 0, 0))) (e_T 175 (e_L 175 (0, ei_push (0, 0) 176, 0, 0)) (e_L 176 (1, e_nof, 4, 0)))))))
set_option maxRecDepth 20000 in
set_option maxHeartbeats 4000000 in
theorem te_173_77_ok : ∀ pc, e_EOq eft cls elay eI n_173 pc (te_173_77 pc) :=
  (e_Tok2
  (e_Tok2
  (e_Tok2
  (e_Tok2
  (e_Lok (e_st (I := eI) (er_iload (i := 6) (x_dk dn_173_0_ok 77 rfl))))
  (e_Tok2
  (e_Lok (e_st (I := eI) (er_iload (i := 5) (x_dk dn_173_0_ok 78 rfl))))
  (e_Lok (e_st (I := eI) (er_iload (i := 6) (x_dk dn_173_0_ok 79 rfl))))))
  (e_Tok2
  (e_Lok (e_st (I := eI) (er_iload_n (i := 2) (x_dk dn_173_0_ok 80 rfl))))
  (e_Tok2
  (e_Lok (e_ca (I := eI) (q' := n_175) rfl (xr_callV (q' := n_175) (ix := 108) (n := 5) (in_t8 (List.mem_of_getElem? (i := 107) rfl) rfl) good_w (in_t1 (List.mem_of_getElem? (i := 11) rfl) rfl) (in_t8 (List.mem_of_getElem? (i := 104) rfl) rfl) (in_t8 (List.mem_of_getElem? (i := 106) rfl) rfl) (in_s7 (List.mem_of_getElem? (i := 5) rfl)) (by decide +kernel) (by decide +kernel) (by decide +kernel) (x_dk dn_173_0_ok 81 rfl))))
  (e_Lok (e_st (I := eI) (er_ifne (off := 33) (tg := 171) (x_dk dn_173_0_ok 82 rfl) (by decide)))))))
  (e_Tok2
  (e_Tok2
  (e_Lok (e_st (I := eI) (er_aload_n (i := 0) (x_dk dn_173_0_ok 83 rfl))))
  (e_Tok2
  (e_Lok (e_st (I := eI) (er_iload_n (i := 3) (x_dk dn_173_0_ok 84 rfl))))
  (e_Lok (e_st (I := eI) (er_iload (i := 4) (x_dk dn_173_0_ok 85 rfl))))))
  (e_Tok2
  (e_Tok2
  (e_Lok (e_st (I := eI) (er_iload_n (i := 3) (x_dk dn_173_0_ok 86 rfl))))
  (e_Lok (e_st (I := eI) (er_iload (i := 6) (x_dk dn_173_0_ok 87 rfl)))))
  (e_Tok2
  (e_Lok (e_st (I := eI) (er_iload_n (i := 2) (x_dk dn_173_0_ok 88 rfl))))
  (e_Lok (e_ca (I := eI) (q' := n_175) rfl (xr_callV (q' := n_175) (ix := 108) (n := 5) (in_t8 (List.mem_of_getElem? (i := 107) rfl) rfl) good_w (in_t1 (List.mem_of_getElem? (i := 11) rfl) rfl) (in_t8 (List.mem_of_getElem? (i := 104) rfl) rfl) (in_t8 (List.mem_of_getElem? (i := 106) rfl) rfl) (in_s7 (List.mem_of_getElem? (i := 5) rfl)) (by decide +kernel) (by decide +kernel) (by decide +kernel) (x_dk dn_173_0_ok 89 rfl))))))))
  (e_Tok2
  (e_Tok2
  (e_Tok2
  (e_Lok (e_st (I := eI) (er_ifne (off := 19) (tg := 171) (x_dk dn_173_0_ok 90 rfl) (by decide))))
  (e_Tok2
  (e_Lok (e_st (I := eI) (er_aload_n (i := 0) (x_dk dn_173_0_ok 91 rfl))))
  (e_Lok (e_st (I := eI) (er_iload (i := 5) (x_dk dn_173_0_ok 92 rfl))))))
  (e_Tok2
  (e_Lok (e_st (I := eI) (er_iload (i := 4) (x_dk dn_173_0_ok 93 rfl))))
  (e_Tok2
  (e_Lok (e_st (I := eI) (er_iload (i := 5) (x_dk dn_173_0_ok 94 rfl))))
  (e_Lok (e_st (I := eI) (er_iload (i := 6) (x_dk dn_173_0_ok 95 rfl)))))))
  (e_Tok2
  (e_Tok2
  (e_Lok (e_st (I := eI) (er_iload_n (i := 2) (x_dk dn_173_0_ok 96 rfl))))
  (e_Tok2
  (e_Lok (e_ca (I := eI) (q' := n_175) rfl (xr_callV (q' := n_175) (ix := 108) (n := 5) (in_t8 (List.mem_of_getElem? (i := 107) rfl) rfl) good_w (in_t1 (List.mem_of_getElem? (i := 11) rfl) rfl) (in_t8 (List.mem_of_getElem? (i := 104) rfl) rfl) (in_t8 (List.mem_of_getElem? (i := 106) rfl) rfl) (in_s7 (List.mem_of_getElem? (i := 5) rfl)) (by decide +kernel) (by decide +kernel) (by decide +kernel) (x_dk dn_173_0_ok 97 rfl))))
  (e_Lok (e_st (I := eI) (er_ifeq (off := 7) (tg := 175) (x_dk dn_173_0_ok 98 rfl) (by decide))))))
  (e_Tok2
  (e_Tok2
  (e_Lok (e_st (I := eI) (er_iconst (n := 1) (z := 1) (v := 1) (x_dk dn_173_0_ok 99 rfl) (by decide) (by decide))))
  (e_Lok (e_st (I := eI) (er_goto (off := 4) (tg := 176) (x_dk dn_173_1_ok 0 rfl) (by decide)))))
  (e_Tok2
  (e_Lok (e_st (I := eI) (er_iconst (n := 0) (z := 0) (v := 0) (x_dk dn_173_1_ok 1 rfl) (by decide) (by decide))))
  (e_Lok (e_rt (I := eI) (k := 4) ⟨(x_dk dn_173_1_ok 2 rfl), rfl⟩)))))))
def te_173 : Nat → eE := (e_T 77 (e_T 37 te_173_0 te_173_25) (e_T 127 te_173_51 te_173_77))
theorem te_173_ok : ∀ pc, e_EOq eft cls elay eI n_173 pc (te_173 pc) := (e_Tok2 ((e_Tok2 (te_173_0_ok) (te_173_25_ok))) ((e_Tok2 (te_173_51_ok) (te_173_77_ok))))
end
