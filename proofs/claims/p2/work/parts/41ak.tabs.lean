noncomputable section
def dn_153_0 : List (Nat × Instr × Nat) := [(0, .aload_n 0, 1), (1, .getfield 192, 3), (4, .ifCond .ge 13, 3), (7, .aload_n 0, 1), (8, .bipush 6, 2), (10, .aload_n 0, 1), (11, .getfield 78, 3), (14, .invokevirtual 153, 3), (17, .aload_n 0, 1), (18, .invokevirtual 54, 3), (21, .aload_n 0, 1), (22, .bipush 19, 2), (24, .invokevirtual 180, 3), (27, .aload_n 0, 1), (28, .getfield 21, 3), (31, .bipush 44, 2), (33, .aload_n 0, 1), (34, .getfield 192, 3), (37, .iconst 0, 1), (38, .invokestatic 157, 3), (41, .invokevirtual 198, 3), (44, .pop, 1), (45, .return_, 1)]
set_option maxRecDepth 20000 in
theorem dn_153_0_ok : dn_153_0.all (fun q => decide (decode prog_10_method_37_code q.1 = .ok (q.2.1, q.2.2))) = true := by decide +kernel
def te_153_0 : Nat → eE := (e_T 21 (e_T 8 (e_T 1 (e_T 0 (e_L 0 (0, ei_load 0 2 1, 0, 0)) (e_L 1 (0, ei_getf eft elay 8 13 4, 0, 0))) (e_T 4 (e_L 4 (0, ei_if1 3 17 7, 0, 0)) (e_T 7 (e_L 7 (0, ei_load 0 2 8, 0, 0)) (e_L 8 (0, ei_push (0, 6) 10, 0, 0))))) (e_T 14 (e_T 10 (e_L 10 (0, ei_load 0 2 11, 0, 0)) (e_T 11 (e_L 11 (0, ei_getf eft elay 8 6 14, 0, 0)) (e_L 14 (2, e_nof, 133, 3)))) (e_T 17 (e_L 17 (0, ei_load 0 2 18, 0, 0)) (e_T 18 (e_L 18 (2, e_nof, 123, 1)) (e_L 21 (0, ei_load 0 2 22, 0, 0)))))) (e_T 33 (e_T 27 (e_T 22 (e_L 22 (0, ei_push (0, 19) 24, 0, 0)) (e_T 24 (e_L 24 (2, e_nof, 129, 2)) (e_L 27 (0, ei_load 0 2 28, 0, 0)))) (e_T 28 (e_L 28 (0, ei_getf eft elay 8 3 31, 0, 0)) (e_T 31 (e_L 31 (0, ei_push (0, 44) 33, 0, 0)) (e_L 33 (0, ei_load 0 2 34, 0, 0))))) (e_T 38 (e_T 34 (e_L 34 (0, ei_getf eft elay 8 13 37, 0, 0)) (e_T 37 (e_L 37 (0, ei_push (0, 0) 38, 0, 0)) (e_L 38 (0, ei_m2 eM_max 41, 0, 0)))) (e_T 41 (e_L 41 (2, e_nof, 21, 3)) (e_T 44 (e_L 44 (0, ei_stk ef_pop 45, 0, 0)) (e_L 45 (1, e_nof, 0, 0)))))))
set_option maxRecDepth 20000 in
set_option maxHeartbeats 4000000 in
theorem te_153_0_ok : ∀ pc, e_EOq eft cls elay eI n_153 pc (te_153_0 pc) :=
  (e_Tok2
  (e_Tok2
  (e_Tok2
  (e_Tok2
  (e_Lok (e_st (I := eI) (er_aload_n (i := 0) (x_dk dn_153_0_ok 0 rfl))))
  (e_Lok (e_st (I := eI) (er_getf (ci := 8) (k := 13) (ix := 192) (N := 17) (C := RX8) (T := TX8) rfl in_X8 (by decide) (in_t1 (List.mem_of_getElem? (i := 82) rfl) rfl) (x_dk dn_153_0_ok 1 rfl)))))
  (e_Tok2
  (e_Lok (e_st (I := eI) (er_ifge (off := 13) (tg := 17) (x_dk dn_153_0_ok 2 rfl) (by decide))))
  (e_Tok2
  (e_Lok (e_st (I := eI) (er_aload_n (i := 0) (x_dk dn_153_0_ok 3 rfl))))
  (e_Lok (e_st (I := eI) (er_bipush (n := 6) (z := 6) (v := 6) (x_dk dn_153_0_ok 4 rfl) (by decide) (by decide)))))))
  (e_Tok2
  (e_Tok2
  (e_Lok (e_st (I := eI) (er_aload_n (i := 0) (x_dk dn_153_0_ok 5 rfl))))
  (e_Tok2
  (e_Lok (e_st (I := eI) (er_getf (ci := 8) (k := 6) (ix := 78) (N := 17) (C := RX8) (T := TX8) rfl in_X8 (by decide) (in_t1 (List.mem_of_getElem? (i := 75) rfl) rfl) (x_dk dn_153_0_ok 6 rfl))))
  (e_Lok (e_ca (I := eI) (q' := n_133) rfl (xr_callV (q' := n_133) (ix := 153) (n := 2) (in_t6 (List.mem_of_getElem? (i := 14) rfl) rfl) good_w (in_t1 (List.mem_of_getElem? (i := 2) rfl) rfl) (in_t6 (List.mem_of_getElem? (i := 11) rfl) rfl) (in_t6 (List.mem_of_getElem? (i := 13) rfl) rfl) (in_s2 (List.mem_of_getElem? (i := 8) rfl)) (by decide +kernel) (by decide +kernel) (by decide +kernel) (x_dk dn_153_0_ok 7 rfl))))))
  (e_Tok2
  (e_Lok (e_st (I := eI) (er_aload_n (i := 0) (x_dk dn_153_0_ok 8 rfl))))
  (e_Tok2
  (e_Lok (e_ca (I := eI) (q' := n_123) rfl (xr_callV (q' := n_123) (ix := 54) (n := 0) (in_t5 (List.mem_of_getElem? (i := 80) rfl) rfl) good_w (in_t1 (List.mem_of_getElem? (i := 2) rfl) rfl) (in_t5 (List.mem_of_getElem? (i := 77) rfl) rfl) (in_t5 (List.mem_of_getElem? (i := 79) rfl) rfl) (in_s1 (List.mem_of_getElem? (i := 11) rfl)) (by decide +kernel) (by decide +kernel) (by decide +kernel) (x_dk dn_153_0_ok 9 rfl))))
  (e_Lok (e_st (I := eI) (er_aload_n (i := 0) (x_dk dn_153_0_ok 10 rfl))))))))
  (e_Tok2
  (e_Tok2
  (e_Tok2
  (e_Lok (e_st (I := eI) (er_bipush (n := 19) (z := 19) (v := 19) (x_dk dn_153_0_ok 11 rfl) (by decide) (by decide))))
  (e_Tok2
  (e_Lok (e_ca (I := eI) (q' := n_129) rfl (xr_callV (q' := n_129) (ix := 180) (n := 1) (in_t6 (List.mem_of_getElem? (i := 18) rfl) rfl) good_w (in_t1 (List.mem_of_getElem? (i := 2) rfl) rfl) (in_t6 (List.mem_of_getElem? (i := 15) rfl) rfl) (in_t6 (List.mem_of_getElem? (i := 17) rfl) rfl) (in_s2 (List.mem_of_getElem? (i := 9) rfl)) (by decide +kernel) (by decide +kernel) (by decide +kernel) (x_dk dn_153_0_ok 12 rfl))))
  (e_Lok (e_st (I := eI) (er_aload_n (i := 0) (x_dk dn_153_0_ok 13 rfl))))))
  (e_Tok2
  (e_Lok (e_st (I := eI) (er_getf (ci := 8) (k := 3) (ix := 21) (N := 17) (C := RX8) (T := TX8) rfl in_X8 (by decide) (in_t1 (List.mem_of_getElem? (i := 71) rfl) rfl) (x_dk dn_153_0_ok 14 rfl))))
  (e_Tok2
  (e_Lok (e_st (I := eI) (er_bipush (n := 44) (z := 44) (v := 44) (x_dk dn_153_0_ok 15 rfl) (by decide) (by decide))))
  (e_Lok (e_st (I := eI) (er_aload_n (i := 0) (x_dk dn_153_0_ok 16 rfl)))))))
  (e_Tok2
  (e_Tok2
  (e_Lok (e_st (I := eI) (er_getf (ci := 8) (k := 13) (ix := 192) (N := 17) (C := RX8) (T := TX8) rfl in_X8 (by decide) (in_t1 (List.mem_of_getElem? (i := 82) rfl) rfl) (x_dk dn_153_0_ok 17 rfl))))
  (e_Tok2
  (e_Lok (e_st (I := eI) (er_iconst (n := 0) (z := 0) (v := 0) (x_dk dn_153_0_ok 18 rfl) (by decide) (by decide))))
  (e_Lok (e_st (I := eI) (er_max (ix := 157) (in_t6 (List.mem_of_getElem? (i := 56) rfl) rfl) (in_t5 (List.mem_of_getElem? (i := 184) rfl) rfl) (in_t1 (List.mem_of_getElem? (i := 15) rfl) rfl) (in_t5 (List.mem_of_getElem? (i := 185) rfl) rfl) (x_dk dn_153_0_ok 19 rfl))))))
  (e_Tok2
  (e_Lok (e_ca (I := eI) (q' := n_21) rfl (xr_callV (q' := n_21) (ix := 198) (n := 2) (in_t6 (List.mem_of_getElem? (i := 47) rfl) rfl) good_w (in_t1 (List.mem_of_getElem? (i := 3) rfl) rfl) (in_t6 (List.mem_of_getElem? (i := 44) rfl) rfl) (in_t6 (List.mem_of_getElem? (i := 45) rfl) rfl) (in_t6 (List.mem_of_getElem? (i := 46) rfl) rfl) (by decide +kernel) (by decide +kernel) (by decide +kernel) (x_dk dn_153_0_ok 20 rfl))))
  (e_Tok2
  (e_Lok (e_st (I := eI) (er_pop (x_dk dn_153_0_ok 21 rfl))))
  (e_Lok (e_rt (I := eI) (k := 0) ⟨(x_dk dn_153_0_ok 22 rfl), rfl⟩)))))))
def te_153 : Nat → eE := te_153_0
theorem te_153_ok : ∀ pc, e_EOq eft cls elay eI n_153 pc (te_153 pc) := te_153_0_ok
def dn_154_0 : List (Nat × Instr × Nat) := [(0, .aload_n 0, 1), (1, .invokevirtual 251, 3), (4, .ifCond .ne 4, 3), (7, .return_, 1), (8, .aload_n 0, 1), (9, .invokevirtual 54, 3), (12, .aload_n 0, 1), (13, .invokevirtual 245, 3), (16, .aload_n 0, 1), (17, .bipush 20, 2), (19, .invokevirtual 180, 3), (22, .aload_n 0, 1), (23, .getfield 21, 3), (26, .bipush 41, 2), (28, .iconst 0, 1), (29, .invokevirtual 198, 3), (32, .istore_n 1, 1), (33, .aload_n 0, 1), (34, .invokevirtual 195, 3), (37, .aload_n 0, 1), (38, .getfield 57, 3), (41, .bipush 40, 2), (43, .if_icmp .ne 45, 3), (46, .aload_n 0, 1), (47, .invokevirtual 54, 3), (50, .aload_n 0, 1), (51, .bipush 20, 2), (53, .invokevirtual 180, 3), (56, .aload_n 0, 1), (57, .getfield 21, 3), (60, .bipush 40, 2), (62, .iconst 0, 1), (63, .invokevirtual 198, 3), (66, .istore_n 2, 1), (67, .aload_n 0, 1), (68, .getfield 21, 3), (71, .iload_n 1, 1), (72, .aload_n 0, 1), (73, .getfield 21, 3), (76, .getfield 164, 3), (79, .invokevirtual 174, 3), (82, .iload_n 2, 1), (83, .istore_n 1, 1), (84, .aload_n 0, 1), (85, .invokevirtual 195, 3), (88, .aload_n 0, 1), (89, .getfield 21, 3), (92, .iload_n 1, 1), (93, .aload_n 0, 1), (94, .getfield 21, 3), (97, .getfield 164, 3), (100, .invokevirtual 174, 3), (103, .aload_n 0, 1), (104, .bipush 23, 2), (106, .invokevirtual 180, 3), (109, .aload_n 0, 1), (110, .dup, 1), (111, .getfield 42, 3), (114, .iconst 1, 1), (115, .isub, 1), (116, .putfield 42, 3), (119, .return_, 1)]
set_option maxRecDepth 20000 in
theorem dn_154_0_ok : dn_154_0.all (fun q => decide (decode prog_10_method_38_code q.1 = .ok (q.2.1, q.2.2))) = true := by decide +kernel
def te_154_0 : Nat → eE := (e_T 28 (e_T 12 (e_T 4 (e_T 0 (e_L 0 (0, ei_load 0 2 1, 0, 0)) (e_T 1 (e_L 1 (2, e_nof, 132, 1)) (e_L 4 (0, ei_if1 1 8 7, 0, 0)))) (e_T 8 (e_T 7 (e_L 7 (1, e_nof, 0, 0)) (e_L 8 (0, ei_load 0 2 9, 0, 0))) (e_T 9 (e_L 9 (2, e_nof, 123, 1)) (e_L 12 (0, ei_load 0 2 13, 0, 0))))) (e_T 19 (e_T 16 (e_T 13 (e_L 13 (2, e_nof, 158, 1)) (e_L 16 (0, ei_load 0 2 17, 0, 0))) (e_T 17 (e_L 17 (0, ei_push (0, 20) 19, 0, 0)) (e_L 19 (2, e_nof, 129, 2)))) (e_T 23 (e_T 22 (e_L 22 (0, ei_load 0 2 23, 0, 0)) (e_L 23 (0, ei_getf eft elay 8 3 26, 0, 0))) (e_T 26 (e_L 26 (0, ei_push (0, 41) 28, 0, 0)) (e_L 28 (0, ei_push (0, 0) 29, 0, 0)))))) (e_T 43 (e_T 34 (e_T 32 (e_T 29 (e_L 29 (2, e_nof, 21, 3)) (e_L 32 (0, ei_stor 1 0 33, 0, 0))) (e_T 33 (e_L 33 (0, ei_load 0 2 34, 0, 0)) (e_L 34 (2, e_nof, 144, 1)))) (e_T 38 (e_T 37 (e_L 37 (0, ei_load 0 2 38, 0, 0)) (e_L 38 (0, ei_getf eft elay 8 5 41, 0, 0))) (e_T 41 (e_L 41 (0, ei_push (0, 40) 43, 0, 0)) (e_L 43 (0, ei_if2 1 88 46, 0, 0))))) (e_T 51 (e_T 47 (e_T 46 (e_L 46 (0, ei_load 0 2 47, 0, 0)) (e_L 47 (2, e_nof, 123, 1))) (e_T 50 (e_L 50 (0, ei_load 0 2 51, 0, 0)) (e_L 51 (0, ei_push (0, 20) 53, 0, 0)))) (e_T 56 (e_T 53 (e_L 53 (2, e_nof, 129, 2)) (e_L 56 (0, ei_load 0 2 57, 0, 0))) (e_T 57 (e_L 57 (0, ei_getf eft elay 8 3 60, 0, 0)) (e_L 60 (0, ei_push (0, 40) 62, 0, 0)))))))
set_option maxRecDepth 20000 in
set_option maxHeartbeats 4000000 in
theorem te_154_0_ok : ∀ pc, e_EOq eft cls elay eI n_154 pc (te_154_0 pc) :=
  (e_Tok2
  (e_Tok2
  (e_Tok2
  (e_Tok2
  (e_Lok (e_st (I := eI) (er_aload_n (i := 0) (x_dk dn_154_0_ok 0 rfl))))
  (e_Tok2
  (e_Lok (e_ca (I := eI) (q' := n_132) rfl (xr_callV (q' := n_132) (ix := 251) (n := 0) (in_t6 (List.mem_of_getElem? (i := 72) rfl) rfl) good_w (in_t1 (List.mem_of_getElem? (i := 2) rfl) rfl) (in_t6 (List.mem_of_getElem? (i := 69) rfl) rfl) (in_t6 (List.mem_of_getElem? (i := 71) rfl) rfl) (in_s3 (List.mem_of_getElem? (i := 5) rfl)) (by decide +kernel) (by decide +kernel) (by decide +kernel) (x_dk dn_154_0_ok 1 rfl))))
  (e_Lok (e_st (I := eI) (er_ifne (off := 4) (tg := 8) (x_dk dn_154_0_ok 2 rfl) (by decide))))))
  (e_Tok2
  (e_Tok2
  (e_Lok (e_rt (I := eI) (k := 0) ⟨(x_dk dn_154_0_ok 3 rfl), rfl⟩))
  (e_Lok (e_st (I := eI) (er_aload_n (i := 0) (x_dk dn_154_0_ok 4 rfl)))))
  (e_Tok2
  (e_Lok (e_ca (I := eI) (q' := n_123) rfl (xr_callV (q' := n_123) (ix := 54) (n := 0) (in_t5 (List.mem_of_getElem? (i := 80) rfl) rfl) good_w (in_t1 (List.mem_of_getElem? (i := 2) rfl) rfl) (in_t5 (List.mem_of_getElem? (i := 77) rfl) rfl) (in_t5 (List.mem_of_getElem? (i := 79) rfl) rfl) (in_s1 (List.mem_of_getElem? (i := 11) rfl)) (by decide +kernel) (by decide +kernel) (by decide +kernel) (x_dk dn_154_0_ok 5 rfl))))
  (e_Lok (e_st (I := eI) (er_aload_n (i := 0) (x_dk dn_154_0_ok 6 rfl)))))))
  (e_Tok2
  (e_Tok2
  (e_Tok2
  (e_Lok (e_ca (I := eI) (q' := n_158) rfl (xr_callV (q' := n_158) (ix := 245) (n := 0) (in_t6 (List.mem_of_getElem? (i := 60) rfl) rfl) good_w (in_t1 (List.mem_of_getElem? (i := 2) rfl) rfl) (in_t6 (List.mem_of_getElem? (i := 57) rfl) rfl) (in_t6 (List.mem_of_getElem? (i := 59) rfl) rfl) (in_s3 (List.mem_of_getElem? (i := 2) rfl)) (by decide +kernel) (by decide +kernel) (by decide +kernel) (x_dk dn_154_0_ok 7 rfl))))
  (e_Lok (e_st (I := eI) (er_aload_n (i := 0) (x_dk dn_154_0_ok 8 rfl)))))
  (e_Tok2
  (e_Lok (e_st (I := eI) (er_bipush (n := 20) (z := 20) (v := 20) (x_dk dn_154_0_ok 9 rfl) (by decide) (by decide))))
  (e_Lok (e_ca (I := eI) (q' := n_129) rfl (xr_callV (q' := n_129) (ix := 180) (n := 1) (in_t6 (List.mem_of_getElem? (i := 18) rfl) rfl) good_w (in_t1 (List.mem_of_getElem? (i := 2) rfl) rfl) (in_t6 (List.mem_of_getElem? (i := 15) rfl) rfl) (in_t6 (List.mem_of_getElem? (i := 17) rfl) rfl) (in_s2 (List.mem_of_getElem? (i := 9) rfl)) (by decide +kernel) (by decide +kernel) (by decide +kernel) (x_dk dn_154_0_ok 10 rfl))))))
  (e_Tok2
  (e_Tok2
  (e_Lok (e_st (I := eI) (er_aload_n (i := 0) (x_dk dn_154_0_ok 11 rfl))))
  (e_Lok (e_st (I := eI) (er_getf (ci := 8) (k := 3) (ix := 21) (N := 17) (C := RX8) (T := TX8) rfl in_X8 (by decide) (in_t1 (List.mem_of_getElem? (i := 71) rfl) rfl) (x_dk dn_154_0_ok 12 rfl)))))
  (e_Tok2
  (e_Lok (e_st (I := eI) (er_bipush (n := 41) (z := 41) (v := 41) (x_dk dn_154_0_ok 13 rfl) (by decide) (by decide))))
  (e_Lok (e_st (I := eI) (er_iconst (n := 0) (z := 0) (v := 0) (x_dk dn_154_0_ok 14 rfl) (by decide) (by decide))))))))
  (e_Tok2
  (e_Tok2
  (e_Tok2
  (e_Tok2
  (e_Lok (e_ca (I := eI) (q' := n_21) rfl (xr_callV (q' := n_21) (ix := 198) (n := 2) (in_t6 (List.mem_of_getElem? (i := 47) rfl) rfl) good_w (in_t1 (List.mem_of_getElem? (i := 3) rfl) rfl) (in_t6 (List.mem_of_getElem? (i := 44) rfl) rfl) (in_t6 (List.mem_of_getElem? (i := 45) rfl) rfl) (in_t6 (List.mem_of_getElem? (i := 46) rfl) rfl) (by decide +kernel) (by decide +kernel) (by decide +kernel) (x_dk dn_154_0_ok 15 rfl))))
  (e_Lok (e_st (I := eI) (er_istore_n (i := 1) (x_dk dn_154_0_ok 16 rfl) (by decide +kernel)))))
  (e_Tok2
  (e_Lok (e_st (I := eI) (er_aload_n (i := 0) (x_dk dn_154_0_ok 17 rfl))))
  (e_Lok (e_ca (I := eI) (q' := n_144) rfl (xr_callV (q' := n_144) (ix := 195) (n := 0) (in_t6 (List.mem_of_getElem? (i := 34) rfl) rfl) good_w (in_t1 (List.mem_of_getElem? (i := 2) rfl) rfl) (in_t6 (List.mem_of_getElem? (i := 31) rfl) rfl) (in_t6 (List.mem_of_getElem? (i := 33) rfl) rfl) (in_s2 (List.mem_of_getElem? (i := 13) rfl)) (by decide +kernel) (by decide +kernel) (by decide +kernel) (x_dk dn_154_0_ok 18 rfl))))))
  (e_Tok2
  (e_Tok2
  (e_Lok (e_st (I := eI) (er_aload_n (i := 0) (x_dk dn_154_0_ok 19 rfl))))
  (e_Lok (e_st (I := eI) (er_getf (ci := 8) (k := 5) (ix := 57) (N := 17) (C := RX8) (T := TX8) rfl in_X8 (by decide) (in_t1 (List.mem_of_getElem? (i := 74) rfl) rfl) (x_dk dn_154_0_ok 20 rfl)))))
  (e_Tok2
  (e_Lok (e_st (I := eI) (er_bipush (n := 40) (z := 40) (v := 40) (x_dk dn_154_0_ok 21 rfl) (by decide) (by decide))))
  (e_Lok (e_st (I := eI) (er_icmpne (off := 45) (tg := 88) (x_dk dn_154_0_ok 22 rfl) (by decide)))))))
  (e_Tok2
  (e_Tok2
  (e_Tok2
  (e_Lok (e_st (I := eI) (er_aload_n (i := 0) (x_dk dn_154_0_ok 23 rfl))))
  (e_Lok (e_ca (I := eI) (q' := n_123) rfl (xr_callV (q' := n_123) (ix := 54) (n := 0) (in_t5 (List.mem_of_getElem? (i := 80) rfl) rfl) good_w (in_t1 (List.mem_of_getElem? (i := 2) rfl) rfl) (in_t5 (List.mem_of_getElem? (i := 77) rfl) rfl) (in_t5 (List.mem_of_getElem? (i := 79) rfl) rfl) (in_s1 (List.mem_of_getElem? (i := 11) rfl)) (by decide +kernel) (by decide +kernel) (by decide +kernel) (x_dk dn_154_0_ok 24 rfl)))))
  (e_Tok2
  (e_Lok (e_st (I := eI) (er_aload_n (i := 0) (x_dk dn_154_0_ok 25 rfl))))
  (e_Lok (e_st (I := eI) (er_bipush (n := 20) (z := 20) (v := 20) (x_dk dn_154_0_ok 26 rfl) (by decide) (by decide))))))
  (e_Tok2
  (e_Tok2
  (e_Lok (e_ca (I := eI) (q' := n_129) rfl (xr_callV (q' := n_129) (ix := 180) (n := 1) (in_t6 (List.mem_of_getElem? (i := 18) rfl) rfl) good_w (in_t1 (List.mem_of_getElem? (i := 2) rfl) rfl) (in_t6 (List.mem_of_getElem? (i := 15) rfl) rfl) (in_t6 (List.mem_of_getElem? (i := 17) rfl) rfl) (in_s2 (List.mem_of_getElem? (i := 9) rfl)) (by decide +kernel) (by decide +kernel) (by decide +kernel) (x_dk dn_154_0_ok 27 rfl))))
  (e_Lok (e_st (I := eI) (er_aload_n (i := 0) (x_dk dn_154_0_ok 28 rfl)))))
  (e_Tok2
  (e_Lok (e_st (I := eI) (er_getf (ci := 8) (k := 3) (ix := 21) (N := 17) (C := RX8) (T := TX8) rfl in_X8 (by decide) (in_t1 (List.mem_of_getElem? (i := 71) rfl) rfl) (x_dk dn_154_0_ok 29 rfl))))
  (e_Lok (e_st (I := eI) (er_bipush (n := 40) (z := 40) (v := 40) (x_dk dn_154_0_ok 30 rfl) (by decide) (by decide)))))))))
def te_154_31 : Nat → eE := (e_T 88 (e_T 72 (e_T 66 (e_T 62 (e_L 62 (0, ei_push (0, 0) 63, 0, 0)) (e_T 63 (e_L 63 (2, e_nof, 21, 3)) (e_L 66 (0, ei_stor 2 0 67, 0, 0)))) (e_T 68 (e_T 67 (e_L 67 (0, ei_load 0 2 68, 0, 0)) (e_L 68 (0, ei_getf eft elay 8 3 71, 0, 0))) (e_T 71 (e_L 71 (0, ei_load 1 0 72, 0, 0)) (e_L 72 (0, ei_load 0 2 73, 0, 0))))) (e_T 82 (e_T 76 (e_T 73 (e_L 73 (0, ei_getf eft elay 8 3 76, 0, 0)) (e_L 76 (0, ei_getf eft elay 1 0 79, 0, 0))) (e_T 79 (e_L 79 (2, e_nof, 22, 3)) (e_L 82 (0, ei_load 2 0 83, 0, 0)))) (e_T 84 (e_T 83 (e_L 83 (0, ei_stor 1 0 84, 0, 0)) (e_L 84 (0, ei_load 0 2 85, 0, 0))) (e_T 85 (e_L 85 (2, e_nof, 144, 1)) (e_L 88 (0, ei_load 0 2 89, 0, 0)))))) (e_T 104 (e_T 94 (e_T 92 (e_T 89 (e_L 89 (0, ei_getf eft elay 8 3 92, 0, 0)) (e_L 92 (0, ei_load 1 0 93, 0, 0))) (e_T 93 (e_L 93 (0, ei_load 0 2 94, 0, 0)) (e_L 94 (0, ei_getf eft elay 8 3 97, 0, 0)))) (e_T 100 (e_T 97 (e_L 97 (0, ei_getf eft elay 1 0 100, 0, 0)) (e_L 100 (2, e_nof, 22, 3))) (e_T 103 (e_L 103 (0, ei_load 0 2 104, 0, 0)) (e_L 104 (0, ei_push (0, 23) 106, 0, 0))))) (e_T 111 (e_T 109 (e_T 106 (e_L 106 (2, e_nof, 129, 2)) (e_L 109 (0, ei_load 0 2 110, 0, 0))) (e_T 110 (e_L 110 (0, ei_stk ef_dup 111, 0, 0)) (e_L 111 (0, ei_getf eft elay 8 11 114, 0, 0)))) (e_T 115 (e_T 114 (e_L 114 (0, ei_push (0, 1) 115, 0, 0)) (e_L 115 (0, ei_bin eF_sub 116, 0, 0))) (e_T 116 (e_L 116 (0, ei_putf eft elay 8 11 0 119, 0, 0)) (e_L 119 (1, e_nof, 0, 0)))))))
set_option maxRecDepth 20000 in
set_option maxHeartbeats 4000000 in
theorem te_154_31_ok : ∀ pc, e_EOq eft cls elay eI n_154 pc (te_154_31 pc) :=
  (e_Tok2
  (e_Tok2
  (e_Tok2
  (e_Tok2
  (e_Lok (e_st (I := eI) (er_iconst (n := 0) (z := 0) (v := 0) (x_dk dn_154_0_ok 31 rfl) (by decide) (by decide))))
  (e_Tok2
  (e_Lok (e_ca (I := eI) (q' := n_21) rfl (xr_callV (q' := n_21) (ix := 198) (n := 2) (in_t6 (List.mem_of_getElem? (i := 47) rfl) rfl) good_w (in_t1 (List.mem_of_getElem? (i := 3) rfl) rfl) (in_t6 (List.mem_of_getElem? (i := 44) rfl) rfl) (in_t6 (List.mem_of_getElem? (i := 45) rfl) rfl) (in_t6 (List.mem_of_getElem? (i := 46) rfl) rfl) (by decide +kernel) (by decide +kernel) (by decide +kernel) (x_dk dn_154_0_ok 32 rfl))))
  (e_Lok (e_st (I := eI) (er_istore_n (i := 2) (x_dk dn_154_0_ok 33 rfl) (by decide +kernel))))))
  (e_Tok2
  (e_Tok2
  (e_Lok (e_st (I := eI) (er_aload_n (i := 0) (x_dk dn_154_0_ok 34 rfl))))
  (e_Lok (e_st (I := eI) (er_getf (ci := 8) (k := 3) (ix := 21) (N := 17) (C := RX8) (T := TX8) rfl in_X8 (by decide) (in_t1 (List.mem_of_getElem? (i := 71) rfl) rfl) (x_dk dn_154_0_ok 35 rfl)))))
  (e_Tok2
  (e_Lok (e_st (I := eI) (er_iload_n (i := 1) (x_dk dn_154_0_ok 36 rfl))))
  (e_Lok (e_st (I := eI) (er_aload_n (i := 0) (x_dk dn_154_0_ok 37 rfl)))))))
  (e_Tok2
  (e_Tok2
  (e_Tok2
  (e_Lok (e_st (I := eI) (er_getf (ci := 8) (k := 3) (ix := 21) (N := 17) (C := RX8) (T := TX8) rfl in_X8 (by decide) (in_t1 (List.mem_of_getElem? (i := 71) rfl) rfl) (x_dk dn_154_0_ok 38 rfl))))
  (e_Lok (e_st (I := eI) (er_getf (ci := 1) (k := 0) (ix := 164) (N := 5) (C := RX1) (T := TX1) rfl in_X1 (by decide) (in_t1 (List.mem_of_getElem? (i := 42) rfl) rfl) (x_dk dn_154_0_ok 39 rfl)))))
  (e_Tok2
  (e_Lok (e_ca (I := eI) (q' := n_22) rfl (xr_callV (q' := n_22) (ix := 174) (n := 2) (in_t6 (List.mem_of_getElem? (i := 101) rfl) rfl) good_w (in_t1 (List.mem_of_getElem? (i := 3) rfl) rfl) (in_t6 (List.mem_of_getElem? (i := 98) rfl) rfl) (in_t6 (List.mem_of_getElem? (i := 99) rfl) rfl) (in_t6 (List.mem_of_getElem? (i := 100) rfl) rfl) (by decide +kernel) (by decide +kernel) (by decide +kernel) (x_dk dn_154_0_ok 40 rfl))))
  (e_Lok (e_st (I := eI) (er_iload_n (i := 2) (x_dk dn_154_0_ok 41 rfl))))))
  (e_Tok2
  (e_Tok2
  (e_Lok (e_st (I := eI) (er_istore_n (i := 1) (x_dk dn_154_0_ok 42 rfl) (by decide +kernel))))
  (e_Lok (e_st (I := eI) (er_aload_n (i := 0) (x_dk dn_154_0_ok 43 rfl)))))
  (e_Tok2
  (e_Lok (e_ca (I := eI) (q' := n_144) rfl (xr_callV (q' := n_144) (ix := 195) (n := 0) (in_t6 (List.mem_of_getElem? (i := 34) rfl) rfl) good_w (in_t1 (List.mem_of_getElem? (i := 2) rfl) rfl) (in_t6 (List.mem_of_getElem? (i := 31) rfl) rfl) (in_t6 (List.mem_of_getElem? (i := 33) rfl) rfl) (in_s2 (List.mem_of_getElem? (i := 13) rfl)) (by decide +kernel) (by decide +kernel) (by decide +kernel) (x_dk dn_154_0_ok 44 rfl))))
  (e_Lok (e_st (I := eI) (er_aload_n (i := 0) (x_dk dn_154_0_ok 45 rfl))))))))
  (e_Tok2
  (e_Tok2
  (e_Tok2
  (e_Tok2
  (e_Lok (e_st (I := eI) (er_getf (ci := 8) (k := 3) (ix := 21) (N := 17) (C := RX8) (T := TX8) rfl in_X8 (by decide) (in_t1 (List.mem_of_getElem? (i := 71) rfl) rfl) (x_dk dn_154_0_ok 46 rfl))))
  (e_Lok (e_st (I := eI) (er_iload_n (i := 1) (x_dk dn_154_0_ok 47 rfl)))))
  (e_Tok2
  (e_Lok (e_st (I := eI) (er_aload_n (i := 0) (x_dk dn_154_0_ok 48 rfl))))
  (e_Lok (e_st (I := eI) (er_getf (ci := 8) (k := 3) (ix := 21) (N := 17) (C := RX8) (T := TX8) rfl in_X8 (by decide) (in_t1 (List.mem_of_getElem? (i := 71) rfl) rfl) (x_dk dn_154_0_ok 49 rfl))))))
  (e_Tok2
  (e_Tok2
  (e_Lok (e_st (I := eI) (er_getf (ci := 1) (k := 0) (ix := 164) (N := 5) (C := RX1) (T := TX1) rfl in_X1 (by decide) (in_t1 (List.mem_of_getElem? (i := 42) rfl) rfl) (x_dk dn_154_0_ok 50 rfl))))
  (e_Lok (e_ca (I := eI) (q' := n_22) rfl (xr_callV (q' := n_22) (ix := 174) (n := 2) (in_t6 (List.mem_of_getElem? (i := 101) rfl) rfl) good_w (in_t1 (List.mem_of_getElem? (i := 3) rfl) rfl) (in_t6 (List.mem_of_getElem? (i := 98) rfl) rfl) (in_t6 (List.mem_of_getElem? (i := 99) rfl) rfl) (in_t6 (List.mem_of_getElem? (i := 100) rfl) rfl) (by decide +kernel) (by decide +kernel) (by decide +kernel) (x_dk dn_154_0_ok 51 rfl)))))
  (e_Tok2
  (e_Lok (e_st (I := eI) (er_aload_n (i := 0) (x_dk dn_154_0_ok 52 rfl))))
  (e_Lok (e_st (I := eI) (er_bipush (n := 23) (z := 23) (v := 23) (x_dk dn_154_0_ok 53 rfl) (by decide) (by decide)))))))
  (e_Tok2
  (e_Tok2
  (e_Tok2
  (e_Lok (e_ca (I := eI) (q' := n_129) rfl (xr_callV (q' := n_129) (ix := 180) (n := 1) (in_t6 (List.mem_of_getElem? (i := 18) rfl) rfl) good_w (in_t1 (List.mem_of_getElem? (i := 2) rfl) rfl) (in_t6 (List.mem_of_getElem? (i := 15) rfl) rfl) (in_t6 (List.mem_of_getElem? (i := 17) rfl) rfl) (in_s2 (List.mem_of_getElem? (i := 9) rfl)) (by decide +kernel) (by decide +kernel) (by decide +kernel) (x_dk dn_154_0_ok 54 rfl))))
  (e_Lok (e_st (I := eI) (er_aload_n (i := 0) (x_dk dn_154_0_ok 55 rfl)))))
  (e_Tok2
  (e_Lok (e_st (I := eI) (er_dup (x_dk dn_154_0_ok 56 rfl))))
  (e_Lok (e_st (I := eI) (er_getf (ci := 8) (k := 11) (ix := 42) (N := 17) (C := RX8) (T := TX8) rfl in_X8 (by decide) (in_t1 (List.mem_of_getElem? (i := 80) rfl) rfl) (x_dk dn_154_0_ok 57 rfl))))))
  (e_Tok2
  (e_Tok2
  (e_Lok (e_st (I := eI) (er_iconst (n := 1) (z := 1) (v := 1) (x_dk dn_154_0_ok 58 rfl) (by decide) (by decide))))
  (e_Lok (e_st (I := eI) (er_isub (x_dk dn_154_0_ok 59 rfl)))))
  (e_Tok2
  (e_Lok (e_st (I := eI) (er_putf (ci := 8) (k := 11) (ix := 42) (N := 17) (fk := 0) (C := RX8) (T := TX8) (ty0 := tyX8) (ty := .int) rfl in_X8 tyX8_ok nmX8 (by decide) (in_t1 (List.mem_of_getElem? (i := 80) rfl) rfl) rfl rfl x_fit_int (x_dk dn_154_0_ok 60 rfl))))
  (e_Lok (e_rt (I := eI) (k := 0) ⟨(x_dk dn_154_0_ok 61 rfl), rfl⟩)))))))
def te_154 : Nat → eE := (e_T 60 te_154_0 te_154_31)
theorem te_154_ok : ∀ pc, e_EOq eft cls elay eI n_154 pc (te_154 pc) := (e_Tok2 (te_154_0_ok) (te_154_31_ok))
def dn_155_0 : List (Nat × Instr × Nat) := [(0, .aload_n 0, 1), (1, .invokevirtual 251, 3), (4, .ifCond .ne 4, 3), (7, .return_, 1), (8, .aload_n 0, 1), (9, .getfield 192, 3), (12, .istore_n 1, 1), (13, .aload_n 0, 1), (14, .aload_n 0, 1), (15, .getfield 21, 3), (18, .bipush 45, 2), (20, .aload_n 0, 1), (21, .getfield 189, 3), (24, .invokevirtual 198, 3), (27, .putfield 192, 3), (30, .aload_n 0, 1), (31, .getfield 192, 3), (34, .istore_n 2, 1), (35, .aload_n 0, 1), (36, .getfield 21, 3), (39, .bipush 49, 2), (41, .iconst 0, 1), (42, .invokevirtual 198, 3), (45, .pop, 1), (46, .aload_n 0, 1), (47, .getfield 21, 3), (50, .bipush 50, 2), (52, .iconst 0, 1), (53, .invokevirtual 198, 3), (56, .istore_n 3, 1), (57, .aload_n 0, 1), (58, .invokevirtual 54, 3), (61, .aload_n 0, 1), (62, .invokevirtual 245, 3), (65, .aload_n 0, 1), (66, .bipush 20, 2), (68, .invokevirtual 180, 3), (71, .aload_n 0, 1), (72, .getfield 21, 3), (75, .bipush 41, 2), (77, .iconst 0, 1), (78, .invokevirtual 198, 3), (81, .istore 4, 2), (83, .aload_n 0, 1), (84, .invokevirtual 195, 3), (87, .aload_n 0, 1), (88, .bipush 23, 2), (90, .invokevirtual 180, 3), (93, .aload_n 0, 1), (94, .getfield 21, 3), (97, .bipush 40, 2), (99, .iload_n 3, 1), (100, .invokevirtual 198, 3), (103, .pop, 1), (104, .aload_n 0, 1), (105, .getfield 21, 3), (108, .iload 4, 2), (110, .aload_n 0, 1), (111, .getfield 21, 3), (114, .getfield 164, 3), (117, .invokevirtual 174, 3), (120, .aload_n 0, 1), (121, .getfield 21, 3), (124, .iload_n 2, 1), (125, .iconst 1, 1), (126, .iadd, 1), (127, .aload_n 0, 1), (128, .getfield 21, 3), (131, .getfield 164, 3), (134, .invokevirtual 174, 3), (137, .aload_n 0, 1), (138, .iload_n 1, 1), (139, .putfield 192, 3), (142, .aload_n 0, 1), (143, .dup, 1), (144, .getfield 42, 3), (147, .iconst 1, 1), (148, .isub, 1), (149, .putfield 42, 3), (152, .return_, 1)]
set_option maxRecDepth 20000 in
theorem dn_155_0_ok : dn_155_0.all (fun q => decide (decode prog_10_method_39_code q.1 = .ok (q.2.1, q.2.2))) = true := by decide +kernel
def te_155_0 : Nat → eE := (e_T 36 (e_T 15 (e_T 8 (e_T 1 (e_T 0 (e_L 0 (0, ei_load 0 2 1, 0, 0)) (e_L 1 (2, e_nof, 132, 1))) (e_T 4 (e_L 4 (0, ei_if1 1 8 7, 0, 0)) (e_T 7 (e_L 7 (1, e_nof, 0, 0)) (e_L 8 (0, ei_load 0 2 9, 0, 0))))) (e_T 12 (e_T 9 (e_L 9 (0, ei_getf eft elay 8 13 12, 0, 0)) (e_L 12 (0, ei_stor 1 0 13, 0, 0))) (e_T 13 (e_L 13 (0, ei_load 0 2 14, 0, 0)) (e_T 14 (e_L 14 (0, ei_load 0 2 15, 0, 0)) (e_L 15 (0, ei_getf eft elay 8 3 18, 0, 0)))))) (e_T 27 (e_T 20 (e_T 18 (e_L 18 (0, ei_push (0, 45) 20, 0, 0)) (e_L 20 (0, ei_load 0 2 21, 0, 0))) (e_T 21 (e_L 21 (0, ei_getf eft elay 8 12 24, 0, 0)) (e_T 24 (e_L 24 (2, e_nof, 21, 3)) (e_L 27 (0, ei_putf eft elay 8 13 0 30, 0, 0))))) (e_T 31 (e_T 30 (e_L 30 (0, ei_load 0 2 31, 0, 0)) (e_L 31 (0, ei_getf eft elay 8 13 34, 0, 0))) (e_T 34 (e_L 34 (0, ei_stor 2 0 35, 0, 0)) (e_T 35 (e_L 35 (0, ei_load 0 2 36, 0, 0)) (e_L 36 (0, ei_getf eft elay 8 3 39, 0, 0))))))) (e_T 56 (e_T 46 (e_T 41 (e_T 39 (e_L 39 (0, ei_push (0, 49) 41, 0, 0)) (e_L 41 (0, ei_push (0, 0) 42, 0, 0))) (e_T 42 (e_L 42 (2, e_nof, 21, 3)) (e_T 45 (e_L 45 (0, ei_stk ef_pop 46, 0, 0)) (e_L 46 (0, ei_load 0 2 47, 0, 0))))) (e_T 50 (e_T 47 (e_L 47 (0, ei_getf eft elay 8 3 50, 0, 0)) (e_L 50 (0, ei_push (0, 50) 52, 0, 0))) (e_T 52 (e_L 52 (0, ei_push (0, 0) 53, 0, 0)) (e_T 53 (e_L 53 (2, e_nof, 21, 3)) (e_L 56 (0, ei_stor 3 0 57, 0, 0)))))) (e_T 65 (e_T 58 (e_T 57 (e_L 57 (0, ei_load 0 2 58, 0, 0)) (e_L 58 (2, e_nof, 123, 1))) (e_T 61 (e_L 61 (0, ei_load 0 2 62, 0, 0)) (e_T 62 (e_L 62 (2, e_nof, 158, 1)) (e_L 65 (0, ei_load 0 2 66, 0, 0))))) (e_T 68 (e_T 66 (e_L 66 (0, ei_push (0, 20) 68, 0, 0)) (e_L 68 (2, e_nof, 129, 2))) (e_T 71 (e_L 71 (0, ei_load 0 2 72, 0, 0)) (e_T 72 (e_L 72 (0, ei_getf eft elay 8 3 75, 0, 0)) (e_L 75 (0, ei_push (0, 41) 77, 0, 0))))))))
set_option maxRecDepth 20000 in
set_option maxHeartbeats 4000000 in
theorem te_155_0_ok : ∀ pc, e_EOq eft cls elay eI n_155 pc (te_155_0 pc) :=
  (e_Tok2
  (e_Tok2
  (e_Tok2
  (e_Tok2
  (e_Tok2
  (e_Lok (e_st (I := eI) (er_aload_n (i := 0) (x_dk dn_155_0_ok 0 rfl))))
  (e_Lok (e_ca (I := eI) (q' := n_132) rfl (xr_callV (q' := n_132) (ix := 251) (n := 0) (in_t6 (List.mem_of_getElem? (i := 72) rfl) rfl) good_w (in_t1 (List.mem_of_getElem? (i := 2) rfl) rfl) (in_t6 (List.mem_of_getElem? (i := 69) rfl) rfl) (in_t6 (List.mem_of_getElem? (i := 71) rfl) rfl) (in_s3 (List.mem_of_getElem? (i := 5) rfl)) (by decide +kernel) (by decide +kernel) (by decide +kernel) (x_dk dn_155_0_ok 1 rfl)))))
  (e_Tok2
  (e_Lok (e_st (I := eI) (er_ifne (off := 4) (tg := 8) (x_dk dn_155_0_ok 2 rfl) (by decide))))
  (e_Tok2
  (e_Lok (e_rt (I := eI) (k := 0) ⟨(x_dk dn_155_0_ok 3 rfl), rfl⟩))
  (e_Lok (e_st (I := eI) (er_aload_n (i := 0) (x_dk dn_155_0_ok 4 rfl)))))))
  (e_Tok2
  (e_Tok2
  (e_Lok (e_st (I := eI) (er_getf (ci := 8) (k := 13) (ix := 192) (N := 17) (C := RX8) (T := TX8) rfl in_X8 (by decide) (in_t1 (List.mem_of_getElem? (i := 82) rfl) rfl) (x_dk dn_155_0_ok 5 rfl))))
  (e_Lok (e_st (I := eI) (er_istore_n (i := 1) (x_dk dn_155_0_ok 6 rfl) (by decide +kernel)))))
  (e_Tok2
  (e_Lok (e_st (I := eI) (er_aload_n (i := 0) (x_dk dn_155_0_ok 7 rfl))))
  (e_Tok2
  (e_Lok (e_st (I := eI) (er_aload_n (i := 0) (x_dk dn_155_0_ok 8 rfl))))
  (e_Lok (e_st (I := eI) (er_getf (ci := 8) (k := 3) (ix := 21) (N := 17) (C := RX8) (T := TX8) rfl in_X8 (by decide) (in_t1 (List.mem_of_getElem? (i := 71) rfl) rfl) (x_dk dn_155_0_ok 9 rfl))))))))
  (e_Tok2
  (e_Tok2
  (e_Tok2
  (e_Lok (e_st (I := eI) (er_bipush (n := 45) (z := 45) (v := 45) (x_dk dn_155_0_ok 10 rfl) (by decide) (by decide))))
  (e_Lok (e_st (I := eI) (er_aload_n (i := 0) (x_dk dn_155_0_ok 11 rfl)))))
  (e_Tok2
  (e_Lok (e_st (I := eI) (er_getf (ci := 8) (k := 12) (ix := 189) (N := 17) (C := RX8) (T := TX8) rfl in_X8 (by decide) (in_t1 (List.mem_of_getElem? (i := 81) rfl) rfl) (x_dk dn_155_0_ok 12 rfl))))
  (e_Tok2
  (e_Lok (e_ca (I := eI) (q' := n_21) rfl (xr_callV (q' := n_21) (ix := 198) (n := 2) (in_t6 (List.mem_of_getElem? (i := 47) rfl) rfl) good_w (in_t1 (List.mem_of_getElem? (i := 3) rfl) rfl) (in_t6 (List.mem_of_getElem? (i := 44) rfl) rfl) (in_t6 (List.mem_of_getElem? (i := 45) rfl) rfl) (in_t6 (List.mem_of_getElem? (i := 46) rfl) rfl) (by decide +kernel) (by decide +kernel) (by decide +kernel) (x_dk dn_155_0_ok 13 rfl))))
  (e_Lok (e_st (I := eI) (er_putf (ci := 8) (k := 13) (ix := 192) (N := 17) (fk := 0) (C := RX8) (T := TX8) (ty0 := tyX8) (ty := .int) rfl in_X8 tyX8_ok nmX8 (by decide) (in_t1 (List.mem_of_getElem? (i := 82) rfl) rfl) rfl rfl x_fit_int (x_dk dn_155_0_ok 14 rfl)))))))
  (e_Tok2
  (e_Tok2
  (e_Lok (e_st (I := eI) (er_aload_n (i := 0) (x_dk dn_155_0_ok 15 rfl))))
  (e_Lok (e_st (I := eI) (er_getf (ci := 8) (k := 13) (ix := 192) (N := 17) (C := RX8) (T := TX8) rfl in_X8 (by decide) (in_t1 (List.mem_of_getElem? (i := 82) rfl) rfl) (x_dk dn_155_0_ok 16 rfl)))))
  (e_Tok2
  (e_Lok (e_st (I := eI) (er_istore_n (i := 2) (x_dk dn_155_0_ok 17 rfl) (by decide +kernel))))
  (e_Tok2
  (e_Lok (e_st (I := eI) (er_aload_n (i := 0) (x_dk dn_155_0_ok 18 rfl))))
  (e_Lok (e_st (I := eI) (er_getf (ci := 8) (k := 3) (ix := 21) (N := 17) (C := RX8) (T := TX8) rfl in_X8 (by decide) (in_t1 (List.mem_of_getElem? (i := 71) rfl) rfl) (x_dk dn_155_0_ok 19 rfl)))))))))
  (e_Tok2
  (e_Tok2
  (e_Tok2
  (e_Tok2
  (e_Lok (e_st (I := eI) (er_bipush (n := 49) (z := 49) (v := 49) (x_dk dn_155_0_ok 20 rfl) (by decide) (by decide))))
  (e_Lok (e_st (I := eI) (er_iconst (n := 0) (z := 0) (v := 0) (x_dk dn_155_0_ok 21 rfl) (by decide) (by decide)))))
  (e_Tok2
  (e_Lok (e_ca (I := eI) (q' := n_21) rfl (xr_callV (q' := n_21) (ix := 198) (n := 2) (in_t6 (List.mem_of_getElem? (i := 47) rfl) rfl) good_w (in_t1 (List.mem_of_getElem? (i := 3) rfl) rfl) (in_t6 (List.mem_of_getElem? (i := 44) rfl) rfl) (in_t6 (List.mem_of_getElem? (i := 45) rfl) rfl) (in_t6 (List.mem_of_getElem? (i := 46) rfl) rfl) (by decide +kernel) (by decide +kernel) (by decide +kernel) (x_dk dn_155_0_ok 22 rfl))))
  (e_Tok2
  (e_Lok (e_st (I := eI) (er_pop (x_dk dn_155_0_ok 23 rfl))))
  (e_Lok (e_st (I := eI) (er_aload_n (i := 0) (x_dk dn_155_0_ok 24 rfl)))))))
  (e_Tok2
  (e_Tok2
  (e_Lok (e_st (I := eI) (er_getf (ci := 8) (k := 3) (ix := 21) (N := 17) (C := RX8) (T := TX8) rfl in_X8 (by decide) (in_t1 (List.mem_of_getElem? (i := 71) rfl) rfl) (x_dk dn_155_0_ok 25 rfl))))
  (e_Lok (e_st (I := eI) (er_bipush (n := 50) (z := 50) (v := 50) (x_dk dn_155_0_ok 26 rfl) (by decide) (by decide)))))
  (e_Tok2
  (e_Lok (e_st (I := eI) (er_iconst (n := 0) (z := 0) (v := 0) (x_dk dn_155_0_ok 27 rfl) (by decide) (by decide))))
  (e_Tok2
  (e_Lok (e_ca (I := eI) (q' := n_21) rfl (xr_callV (q' := n_21) (ix := 198) (n := 2) (in_t6 (List.mem_of_getElem? (i := 47) rfl) rfl) good_w (in_t1 (List.mem_of_getElem? (i := 3) rfl) rfl) (in_t6 (List.mem_of_getElem? (i := 44) rfl) rfl) (in_t6 (List.mem_of_getElem? (i := 45) rfl) rfl) (in_t6 (List.mem_of_getElem? (i := 46) rfl) rfl) (by decide +kernel) (by decide +kernel) (by decide +kernel) (x_dk dn_155_0_ok 28 rfl))))
  (e_Lok (e_st (I := eI) (er_istore_n (i := 3) (x_dk dn_155_0_ok 29 rfl) (by decide +kernel))))))))
  (e_Tok2
  (e_Tok2
  (e_Tok2
  (e_Lok (e_st (I := eI) (er_aload_n (i := 0) (x_dk dn_155_0_ok 30 rfl))))
  (e_Lok (e_ca (I := eI) (q' := n_123) rfl (xr_callV (q' := n_123) (ix := 54) (n := 0) (in_t5 (List.mem_of_getElem? (i := 80) rfl) rfl) good_w (in_t1 (List.mem_of_getElem? (i := 2) rfl) rfl) (in_t5 (List.mem_of_getElem? (i := 77) rfl) rfl) (in_t5 (List.mem_of_getElem? (i := 79) rfl) rfl) (in_s1 (List.mem_of_getElem? (i := 11) rfl)) (by decide +kernel) (by decide +kernel) (by decide +kernel) (x_dk dn_155_0_ok 31 rfl)))))
  (e_Tok2
  (e_Lok (e_st (I := eI) (er_aload_n (i := 0) (x_dk dn_155_0_ok 32 rfl))))
  (e_Tok2
  (e_Lok (e_ca (I := eI) (q' := n_158) rfl (xr_callV (q' := n_158) (ix := 245) (n := 0) (in_t6 (List.mem_of_getElem? (i := 60) rfl) rfl) good_w (in_t1 (List.mem_of_getElem? (i := 2) rfl) rfl) (in_t6 (List.mem_of_getElem? (i := 57) rfl) rfl) (in_t6 (List.mem_of_getElem? (i := 59) rfl) rfl) (in_s3 (List.mem_of_getElem? (i := 2) rfl)) (by decide +kernel) (by decide +kernel) (by decide +kernel) (x_dk dn_155_0_ok 33 rfl))))
  (e_Lok (e_st (I := eI) (er_aload_n (i := 0) (x_dk dn_155_0_ok 34 rfl)))))))
  (e_Tok2
  (e_Tok2
  (e_Lok (e_st (I := eI) (er_bipush (n := 20) (z := 20) (v := 20) (x_dk dn_155_0_ok 35 rfl) (by decide) (by decide))))
  (e_Lok (e_ca (I := eI) (q' := n_129) rfl (xr_callV (q' := n_129) (ix := 180) (n := 1) (in_t6 (List.mem_of_getElem? (i := 18) rfl) rfl) good_w (in_t1 (List.mem_of_getElem? (i := 2) rfl) rfl) (in_t6 (List.mem_of_getElem? (i := 15) rfl) rfl) (in_t6 (List.mem_of_getElem? (i := 17) rfl) rfl) (in_s2 (List.mem_of_getElem? (i := 9) rfl)) (by decide +kernel) (by decide +kernel) (by decide +kernel) (x_dk dn_155_0_ok 36 rfl)))))
  (e_Tok2
  (e_Lok (e_st (I := eI) (er_aload_n (i := 0) (x_dk dn_155_0_ok 37 rfl))))
  (e_Tok2
  (e_Lok (e_st (I := eI) (er_getf (ci := 8) (k := 3) (ix := 21) (N := 17) (C := RX8) (T := TX8) rfl in_X8 (by decide) (in_t1 (List.mem_of_getElem? (i := 71) rfl) rfl) (x_dk dn_155_0_ok 38 rfl))))
  (e_Lok (e_st (I := eI) (er_bipush (n := 41) (z := 41) (v := 41) (x_dk dn_155_0_ok 39 rfl) (by decide) (by decide))))))))))
def te_155_40 : Nat → eE := (e_T 114 (e_T 94 (e_T 84 (e_T 78 (e_T 77 (e_L 77 (0, ei_push (0, 0) 78, 0, 0)) (e_L 78 (2, e_nof, 21, 3))) (e_T 81 (e_L 81 (0, ei_stor 4 0 83, 0, 0)) (e_T 83 (e_L 83 (0, ei_load 0 2 84, 0, 0)) (e_L 84 (2, e_nof, 144, 1))))) (e_T 88 (e_T 87 (e_L 87 (0, ei_load 0 2 88, 0, 0)) (e_L 88 (0, ei_push (0, 23) 90, 0, 0))) (e_T 90 (e_L 90 (2, e_nof, 129, 2)) (e_T 93 (e_L 93 (0, ei_load 0 2 94, 0, 0)) (e_L 94 (0, ei_getf eft elay 8 3 97, 0, 0)))))) (e_T 104 (e_T 99 (e_T 97 (e_L 97 (0, ei_push (0, 40) 99, 0, 0)) (e_L 99 (0, ei_load 3 0 100, 0, 0))) (e_T 100 (e_L 100 (2, e_nof, 21, 3)) (e_T 103 (e_L 103 (0, ei_stk ef_pop 104, 0, 0)) (e_L 104 (0, ei_load 0 2 105, 0, 0))))) (e_T 108 (e_T 105 (e_L 105 (0, ei_getf eft elay 8 3 108, 0, 0)) (e_L 108 (0, ei_load 4 0 110, 0, 0))) (e_T 110 (e_L 110 (0, ei_load 0 2 111, 0, 0)) (e_T 111 (e_L 111 (0, ei_getf eft elay 8 3 114, 0, 0)) (e_L 114 (0, ei_getf eft elay 1 0 117, 0, 0))))))) (e_T 134 (e_T 125 (e_T 120 (e_T 117 (e_L 117 (2, e_nof, 22, 3)) (e_L 120 (0, ei_load 0 2 121, 0, 0))) (e_T 121 (e_L 121 (0, ei_getf eft elay 8 3 124, 0, 0)) (e_T 124 (e_L 124 (0, ei_load 2 0 125, 0, 0)) (e_L 125 (0, ei_push (0, 1) 126, 0, 0))))) (e_T 127 (e_T 126 (e_L 126 (0, ei_bin eF_add 127, 0, 0)) (e_L 127 (0, ei_load 0 2 128, 0, 0))) (e_T 128 (e_L 128 (0, ei_getf eft elay 8 3 131, 0, 0)) (e_T 131 (e_L 131 (0, ei_getf eft elay 1 0 134, 0, 0)) (e_L 134 (2, e_nof, 22, 3)))))) (e_T 143 (e_T 138 (e_T 137 (e_L 137 (0, ei_load 0 2 138, 0, 0)) (e_L 138 (0, ei_load 1 0 139, 0, 0))) (e_T 139 (e_L 139 (0, ei_putf eft elay 8 13 0 142, 0, 0)) (e_T 142 (e_L 142 (0, ei_load 0 2 143, 0, 0)) (e_L 143 (0, ei_stk ef_dup 144, 0, 0))))) (e_T 147 (e_T 144 (e_L 144 (0, ei_getf eft elay 8 11 147, 0, 0)) (e_L 147 (0, ei_push (0, 1) 148, 0, 0))) (e_T 148 (e_L 148 (0, ei_bin eF_sub 149, 0, 0)) (e_T 149 (e_L 149 (0, ei_putf eft elay 8 11 0 152, 0, 0)) (e_L 152 (1, e_nof, 0, 0))))))))
set_option maxRecDepth 20000 in
set_option maxHeartbeats 4000000 in
theorem te_155_40_ok : ∀ pc, e_EOq eft cls elay eI n_155 pc (te_155_40 pc) :=
  (e_Tok2
  (e_Tok2
  (e_Tok2
  (e_Tok2
  (e_Tok2
  (e_Lok (e_st (I := eI) (er_iconst (n := 0) (z := 0) (v := 0) (x_dk dn_155_0_ok 40 rfl) (by decide) (by decide))))
  (e_Lok (e_ca (I := eI) (q' := n_21) rfl (xr_callV (q' := n_21) (ix := 198) (n := 2) (in_t6 (List.mem_of_getElem? (i := 47) rfl) rfl) good_w (in_t1 (List.mem_of_getElem? (i := 3) rfl) rfl) (in_t6 (List.mem_of_getElem? (i := 44) rfl) rfl) (in_t6 (List.mem_of_getElem? (i := 45) rfl) rfl) (in_t6 (List.mem_of_getElem? (i := 46) rfl) rfl) (by decide +kernel) (by decide +kernel) (by decide +kernel) (x_dk dn_155_0_ok 41 rfl)))))
  (e_Tok2
  (e_Lok (e_st (I := eI) (er_istore (i := 4) (x_dk dn_155_0_ok 42 rfl) (by decide +kernel))))
  (e_Tok2
  (e_Lok (e_st (I := eI) (er_aload_n (i := 0) (x_dk dn_155_0_ok 43 rfl))))
  (e_Lok (e_ca (I := eI) (q' := n_144) rfl (xr_callV (q' := n_144) (ix := 195) (n := 0) (in_t6 (List.mem_of_getElem? (i := 34) rfl) rfl) good_w (in_t1 (List.mem_of_getElem? (i := 2) rfl) rfl) (in_t6 (List.mem_of_getElem? (i := 31) rfl) rfl) (in_t6 (List.mem_of_getElem? (i := 33) rfl) rfl) (in_s2 (List.mem_of_getElem? (i := 13) rfl)) (by decide +kernel) (by decide +kernel) (by decide +kernel) (x_dk dn_155_0_ok 44 rfl)))))))
  (e_Tok2
  (e_Tok2
  (e_Lok (e_st (I := eI) (er_aload_n (i := 0) (x_dk dn_155_0_ok 45 rfl))))
  (e_Lok (e_st (I := eI) (er_bipush (n := 23) (z := 23) (v := 23) (x_dk dn_155_0_ok 46 rfl) (by decide) (by decide)))))
  (e_Tok2
  (e_Lok (e_ca (I := eI) (q' := n_129) rfl (xr_callV (q' := n_129) (ix := 180) (n := 1) (in_t6 (List.mem_of_getElem? (i := 18) rfl) rfl) good_w (in_t1 (List.mem_of_getElem? (i := 2) rfl) rfl) (in_t6 (List.mem_of_getElem? (i := 15) rfl) rfl) (in_t6 (List.mem_of_getElem? (i := 17) rfl) rfl) (in_s2 (List.mem_of_getElem? (i := 9) rfl)) (by decide +kernel) (by decide +kernel) (by decide +kernel) (x_dk dn_155_0_ok 47 rfl))))
  (e_Tok2
  (e_Lok (e_st (I := eI) (er_aload_n (i := 0) (x_dk dn_155_0_ok 48 rfl))))
  (e_Lok (e_st (I := eI) (er_getf (ci := 8) (k := 3) (ix := 21) (N := 17) (C := RX8) (T := TX8) rfl in_X8 (by decide) (in_t1 (List.mem_of_getElem? (i := 71) rfl) rfl) (x_dk dn_155_0_ok 49 rfl))))))))
  (e_Tok2
  (e_Tok2
  (e_Tok2
  (e_Lok (e_st (I := eI) (er_bipush (n := 40) (z := 40) (v := 40) (x_dk dn_155_0_ok 50 rfl) (by decide) (by decide))))
  (e_Lok (e_st (I := eI) (er_iload_n (i := 3) (x_dk dn_155_0_ok 51 rfl)))))
  (e_Tok2
  (e_Lok (e_ca (I := eI) (q' := n_21) rfl (xr_callV (q' := n_21) (ix := 198) (n := 2) (in_t6 (List.mem_of_getElem? (i := 47) rfl) rfl) good_w (in_t1 (List.mem_of_getElem? (i := 3) rfl) rfl) (in_t6 (List.mem_of_getElem? (i := 44) rfl) rfl) (in_t6 (List.mem_of_getElem? (i := 45) rfl) rfl) (in_t6 (List.mem_of_getElem? (i := 46) rfl) rfl) (by decide +kernel) (by decide +kernel) (by decide +kernel) (x_dk dn_155_0_ok 52 rfl))))
  (e_Tok2
  (e_Lok (e_st (I := eI) (er_pop (x_dk dn_155_0_ok 53 rfl))))
  (e_Lok (e_st (I := eI) (er_aload_n (i := 0) (x_dk dn_155_0_ok 54 rfl)))))))
  (e_Tok2
  (e_Tok2
  (e_Lok (e_st (I := eI) (er_getf (ci := 8) (k := 3) (ix := 21) (N := 17) (C := RX8) (T := TX8) rfl in_X8 (by decide) (in_t1 (List.mem_of_getElem? (i := 71) rfl) rfl) (x_dk dn_155_0_ok 55 rfl))))
  (e_Lok (e_st (I := eI) (er_iload (i := 4) (x_dk dn_155_0_ok 56 rfl)))))
  (e_Tok2
  (e_Lok (e_st (I := eI) (er_aload_n (i := 0) (x_dk dn_155_0_ok 57 rfl))))
  (e_Tok2
  (e_Lok (e_st (I := eI) (er_getf (ci := 8) (k := 3) (ix := 21) (N := 17) (C := RX8) (T := TX8) rfl in_X8 (by decide) (in_t1 (List.mem_of_getElem? (i := 71) rfl) rfl) (x_dk dn_155_0_ok 58 rfl))))
  (e_Lok (e_st (I := eI) (er_getf (ci := 1) (k := 0) (ix := 164) (N := 5) (C := RX1) (T := TX1) rfl in_X1 (by decide) (in_t1 (List.mem_of_getElem? (i := 42) rfl) rfl) (x_dk dn_155_0_ok 59 rfl)))))))))
  (e_Tok2
  (e_Tok2
  (e_Tok2
  (e_Tok2
  (e_Lok (e_ca (I := eI) (q' := n_22) rfl (xr_callV (q' := n_22) (ix := 174) (n := 2) (in_t6 (List.mem_of_getElem? (i := 101) rfl) rfl) good_w (in_t1 (List.mem_of_getElem? (i := 3) rfl) rfl) (in_t6 (List.mem_of_getElem? (i := 98) rfl) rfl) (in_t6 (List.mem_of_getElem? (i := 99) rfl) rfl) (in_t6 (List.mem_of_getElem? (i := 100) rfl) rfl) (by decide +kernel) (by decide +kernel) (by decide +kernel) (x_dk dn_155_0_ok 60 rfl))))
  (e_Lok (e_st (I := eI) (er_aload_n (i := 0) (x_dk dn_155_0_ok 61 rfl)))))
  (e_Tok2
  (e_Lok (e_st (I := eI) (er_getf (ci := 8) (k := 3) (ix := 21) (N := 17) (C := RX8) (T := TX8) rfl in_X8 (by decide) (in_t1 (List.mem_of_getElem? (i := 71) rfl) rfl) (x_dk dn_155_0_ok 62 rfl))))
  (e_Tok2
  (e_Lok (e_st (I := eI) (er_iload_n (i := 2) (x_dk dn_155_0_ok 63 rfl))))
  (e_Lok (e_st (I := eI) (er_iconst (n := 1) (z := 1) (v := 1) (x_dk dn_155_0_ok 64 rfl) (by decide) (by decide)))))))
  (e_Tok2
  (e_Tok2
  (e_Lok (e_st (I := eI) (er_iadd (x_dk dn_155_0_ok 65 rfl))))
  (e_Lok (e_st (I := eI) (er_aload_n (i := 0) (x_dk dn_155_0_ok 66 rfl)))))
  (e_Tok2
  (e_Lok (e_st (I := eI) (er_getf (ci := 8) (k := 3) (ix := 21) (N := 17) (C := RX8) (T := TX8) rfl in_X8 (by decide) (in_t1 (List.mem_of_getElem? (i := 71) rfl) rfl) (x_dk dn_155_0_ok 67 rfl))))
  (e_Tok2
  (e_Lok (e_st (I := eI) (er_getf (ci := 1) (k := 0) (ix := 164) (N := 5) (C := RX1) (T := TX1) rfl in_X1 (by decide) (in_t1 (List.mem_of_getElem? (i := 42) rfl) rfl) (x_dk dn_155_0_ok 68 rfl))))
  (e_Lok (e_ca (I := eI) (q' := n_22) rfl (xr_callV (q' := n_22) (ix := 174) (n := 2) (in_t6 (List.mem_of_getElem? (i := 101) rfl) rfl) good_w (in_t1 (List.mem_of_getElem? (i := 3) rfl) rfl) (in_t6 (List.mem_of_getElem? (i := 98) rfl) rfl) (in_t6 (List.mem_of_getElem? (i := 99) rfl) rfl) (in_t6 (List.mem_of_getElem? (i := 100) rfl) rfl) (by decide +kernel) (by decide +kernel) (by decide +kernel) (x_dk dn_155_0_ok 69 rfl))))))))
  (e_Tok2
  (e_Tok2
  (e_Tok2
  (e_Lok (e_st (I := eI) (er_aload_n (i := 0) (x_dk dn_155_0_ok 70 rfl))))
  (e_Lok (e_st (I := eI) (er_iload_n (i := 1) (x_dk dn_155_0_ok 71 rfl)))))
  (e_Tok2
  (e_Lok (e_st (I := eI) (er_putf (ci := 8) (k := 13) (ix := 192) (N := 17) (fk := 0) (C := RX8) (T := TX8) (ty0 := tyX8) (ty := .int) rfl in_X8 tyX8_ok nmX8 (by decide) (in_t1 (List.mem_of_getElem? (i := 82) rfl) rfl) rfl rfl x_fit_int (x_dk dn_155_0_ok 72 rfl))))
  (e_Tok2
  (e_Lok (e_st (I := eI) (er_aload_n (i := 0) (x_dk dn_155_0_ok 73 rfl))))
  (e_Lok (e_st (I := eI) (er_dup (x_dk dn_155_0_ok 74 rfl)))))))
  (e_Tok2
  (e_Tok2
  (e_Lok (e_st (I := eI) (er_getf (ci := 8) (k := 11) (ix := 42) (N := 17) (C := RX8) (T := TX8) rfl in_X8 (by decide) (in_t1 (List.mem_of_getElem? (i := 80) rfl) rfl) (x_dk dn_155_0_ok 75 rfl))))
  (e_Lok (e_st (I := eI) (er_iconst (n := 1) (z := 1) (v := 1) (x_dk dn_155_0_ok 76 rfl) (by decide) (by decide)))))
  (e_Tok2
  (e_Lok (e_st (I := eI) (er_isub (x_dk dn_155_0_ok 77 rfl))))
  (e_Tok2
  (e_Lok (e_st (I := eI) (er_putf (ci := 8) (k := 11) (ix := 42) (N := 17) (fk := 0) (C := RX8) (T := TX8) (ty0 := tyX8) (ty := .int) rfl in_X8 tyX8_ok nmX8 (by decide) (in_t1 (List.mem_of_getElem? (i := 80) rfl) rfl) rfl rfl x_fit_int (x_dk dn_155_0_ok 78 rfl))))
  (e_Lok (e_rt (I := eI) (k := 0) ⟨(x_dk dn_155_0_ok 79 rfl), rfl⟩))))))))
def te_155 : Nat → eE := (e_T 75 te_155_0 te_155_40)
theorem te_155_ok : ∀ pc, e_EOq eft cls elay eI n_155 pc (te_155 pc) := (e_Tok2 (te_155_0_ok) (te_155_40_ok))
def dn_156_0 : List (Nat × Instr × Nat) := [(0, .aload_n 0, 1), (1, .invokevirtual 251, 3), (4, .ifCond .ne 4, 3), (7, .return_, 1), (8, .aload_n 0, 1), (9, .invokevirtual 54, 3), (12, .aload_n 0, 1), (13, .bipush 20, 2), (15, .invokevirtual 180, 3), (18, .aload_n 0, 1), (19, .getfield 21, 3), (22, .bipush 46, 2), (24, .iconst 0, 1), (25, .invokevirtual 198, 3), (28, .istore_n 1, 1), (29, .aload_n 0, 1), (30, .getfield 21, 3), (33, .bipush 49, 2), (35, .iconst 0, 1), (36, .invokevirtual 198, 3), (39, .pop, 1), (40, .aload_n 0, 1), (41, .getfield 21, 3), (44, .bipush 49, 2), (46, .iconst 0, 1), (47, .invokevirtual 198, 3), (50, .pop, 1), (51, .aload_n 0, 1), (52, .getfield 21, 3), (55, .bipush 49, 2), (57, .iconst 0, 1), (58, .invokevirtual 198, 3), (61, .pop, 1), (62, .aload_n 0, 1), (63, .dup, 1), (64, .getfield 189, 3), (67, .iconst 1, 1), (68, .iadd, 1), (69, .putfield 189, 3), (72, .aload_n 0, 1), (73, .invokevirtual 195, 3), (76, .aload_n 0, 1), (77, .getfield 21, 3), (80, .bipush 47, 2), (82, .iconst 0, 1), (83, .invokevirtual 198, 3), (86, .pop, 1), (87, .aload_n 0, 1), (88, .getfield 57, 3), (91, .bipush 43, 2), (93, .if_icmp .ne 26, 3), (96, .aload_n 0, 1), (97, .getfield 21, 3), (100, .iload_n 1, 1), (101, .iconst 1, 1), (102, .iadd, 1), (103, .aload_n 0, 1), (104, .getfield 21, 3), (107, .getfield 164, 3), (110, .invokevirtual 174, 3), (113, .aload_n 0, 1), (114, .bipush 47, 2), (116, .invokevirtual 254, 3), (119, .aload_n 0, 1), (120, .getfield 57, 3), (123, .bipush 44, 2), (125, .if_icmp .ne 26, 3), (128, .aload_n 0, 1), (129, .getfield 21, 3), (132, .iload_n 1, 1), (133, .iconst 2, 1), (134, .iadd, 1), (135, .aload_n 0, 1), (136, .getfield 21, 3), (139, .getfield 164, 3), (142, .invokevirtual 174, 3), (145, .aload_n 0, 1), (146, .bipush 48, 2), (148, .invokevirtual 254, 3), (151, .aload_n 0, 1), (152, .dup, 1), (153, .getfield 189, 3), (156, .iconst 1, 1), (157, .isub, 1), (158, .putfield 189, 3), (161, .aload_n 0, 1), (162, .getfield 21, 3), (165, .iload_n 1, 1), (166, .iconst 3, 1), (167, .iadd, 1), (168, .aload_n 0, 1), (169, .getfield 21, 3), (172, .getfield 164, 3), (175, .invokevirtual 174, 3), (178, .aload_n 0, 1), (179, .bipush 23, 2), (181, .invokevirtual 180, 3), (184, .aload_n 0, 1), (185, .dup, 1), (186, .getfield 42, 3)]
set_option maxRecDepth 20000 in
theorem dn_156_0_ok : dn_156_0.all (fun q => decide (decode prog_10_method_40_code q.1 = .ok (q.2.1, q.2.2))) = true := by decide +kernel
def dn_156_1 : List (Nat × Instr × Nat) := [(189, .iconst 1, 1), (190, .isub, 1), (191, .putfield 42, 3), (194, .return_, 1)]
set_option maxRecDepth 20000 in
theorem dn_156_1_ok : dn_156_1.all (fun q => decide (decode prog_10_method_40_code q.1 = .ok (q.2.1, q.2.2))) = true := by decide +kernel
def te_156_0 : Nat → eE := (e_T 24 (e_T 9 (e_T 4 (e_T 0 (e_L 0 (0, ei_load 0 2 1, 0, 0)) (e_T 1 (e_L 1 (2, e_nof, 132, 1)) (e_L 4 (0, ei_if1 1 8 7, 0, 0)))) (e_T 7 (e_L 7 (1, e_nof, 0, 0)) (e_T 8 (e_L 8 (0, ei_load 0 2 9, 0, 0)) (e_L 9 (2, e_nof, 123, 1))))) (e_T 15 (e_T 12 (e_L 12 (0, ei_load 0 2 13, 0, 0)) (e_T 13 (e_L 13 (0, ei_push (0, 20) 15, 0, 0)) (e_L 15 (2, e_nof, 129, 2)))) (e_T 19 (e_T 18 (e_L 18 (0, ei_load 0 2 19, 0, 0)) (e_L 19 (0, ei_getf eft elay 8 3 22, 0, 0))) (e_T 22 (e_L 22 (0, ei_push (0, 46) 24, 0, 0)) (e_L 24 (0, ei_push (0, 0) 25, 0, 0)))))) (e_T 35 (e_T 29 (e_T 25 (e_L 25 (2, e_nof, 21, 3)) (e_T 28 (e_L 28 (0, ei_stor 1 0 29, 0, 0)) (e_L 29 (0, ei_load 0 2 30, 0, 0)))) (e_T 30 (e_L 30 (0, ei_getf eft elay 8 3 33, 0, 0)) (e_T 33 (e_L 33 (0, ei_push (0, 49) 35, 0, 0)) (e_L 35 (0, ei_push (0, 0) 36, 0, 0))))) (e_T 40 (e_T 36 (e_L 36 (2, e_nof, 21, 3)) (e_T 39 (e_L 39 (0, ei_stk ef_pop 40, 0, 0)) (e_L 40 (0, ei_load 0 2 41, 0, 0)))) (e_T 44 (e_T 41 (e_L 41 (0, ei_getf eft elay 8 3 44, 0, 0)) (e_L 44 (0, ei_push (0, 49) 46, 0, 0))) (e_T 46 (e_L 46 (0, ei_push (0, 0) 47, 0, 0)) (e_L 47 (2, e_nof, 21, 3)))))))
set_option maxRecDepth 20000 in
set_option maxHeartbeats 4000000 in
theorem te_156_0_ok : ∀ pc, e_EOq eft cls elay eI n_156 pc (te_156_0 pc) :=
  (e_Tok2
  (e_Tok2
  (e_Tok2
  (e_Tok2
  (e_Lok (e_st (I := eI) (er_aload_n (i := 0) (x_dk dn_156_0_ok 0 rfl))))
  (e_Tok2
  (e_Lok (e_ca (I := eI) (q' := n_132) rfl (xr_callV (q' := n_132) (ix := 251) (n := 0) (in_t6 (List.mem_of_getElem? (i := 72) rfl) rfl) good_w (in_t1 (List.mem_of_getElem? (i := 2) rfl) rfl) (in_t6 (List.mem_of_getElem? (i := 69) rfl) rfl) (in_t6 (List.mem_of_getElem? (i := 71) rfl) rfl) (in_s3 (List.mem_of_getElem? (i := 5) rfl)) (by decide +kernel) (by decide +kernel) (by decide +kernel) (x_dk dn_156_0_ok 1 rfl))))
  (e_Lok (e_st (I := eI) (er_ifne (off := 4) (tg := 8) (x_dk dn_156_0_ok 2 rfl) (by decide))))))
  (e_Tok2
  (e_Lok (e_rt (I := eI) (k := 0) ⟨(x_dk dn_156_0_ok 3 rfl), rfl⟩))
  (e_Tok2
  (e_Lok (e_st (I := eI) (er_aload_n (i := 0) (x_dk dn_156_0_ok 4 rfl))))
  (e_Lok (e_ca (I := eI) (q' := n_123) rfl (xr_callV (q' := n_123) (ix := 54) (n := 0) (in_t5 (List.mem_of_getElem? (i := 80) rfl) rfl) good_w (in_t1 (List.mem_of_getElem? (i := 2) rfl) rfl) (in_t5 (List.mem_of_getElem? (i := 77) rfl) rfl) (in_t5 (List.mem_of_getElem? (i := 79) rfl) rfl) (in_s1 (List.mem_of_getElem? (i := 11) rfl)) (by decide +kernel) (by decide +kernel) (by decide +kernel) (x_dk dn_156_0_ok 5 rfl)))))))
  (e_Tok2
  (e_Tok2
  (e_Lok (e_st (I := eI) (er_aload_n (i := 0) (x_dk dn_156_0_ok 6 rfl))))
  (e_Tok2
  (e_Lok (e_st (I := eI) (er_bipush (n := 20) (z := 20) (v := 20) (x_dk dn_156_0_ok 7 rfl) (by decide) (by decide))))
  (e_Lok (e_ca (I := eI) (q' := n_129) rfl (xr_callV (q' := n_129) (ix := 180) (n := 1) (in_t6 (List.mem_of_getElem? (i := 18) rfl) rfl) good_w (in_t1 (List.mem_of_getElem? (i := 2) rfl) rfl) (in_t6 (List.mem_of_getElem? (i := 15) rfl) rfl) (in_t6 (List.mem_of_getElem? (i := 17) rfl) rfl) (in_s2 (List.mem_of_getElem? (i := 9) rfl)) (by decide +kernel) (by decide +kernel) (by decide +kernel) (x_dk dn_156_0_ok 8 rfl))))))
  (e_Tok2
  (e_Tok2
  (e_Lok (e_st (I := eI) (er_aload_n (i := 0) (x_dk dn_156_0_ok 9 rfl))))
  (e_Lok (e_st (I := eI) (er_getf (ci := 8) (k := 3) (ix := 21) (N := 17) (C := RX8) (T := TX8) rfl in_X8 (by decide) (in_t1 (List.mem_of_getElem? (i := 71) rfl) rfl) (x_dk dn_156_0_ok 10 rfl)))))
  (e_Tok2
  (e_Lok (e_st (I := eI) (er_bipush (n := 46) (z := 46) (v := 46) (x_dk dn_156_0_ok 11 rfl) (by decide) (by decide))))
  (e_Lok (e_st (I := eI) (er_iconst (n := 0) (z := 0) (v := 0) (x_dk dn_156_0_ok 12 rfl) (by decide) (by decide))))))))
  (e_Tok2
  (e_Tok2
  (e_Tok2
  (e_Lok (e_ca (I := eI) (q' := n_21) rfl (xr_callV (q' := n_21) (ix := 198) (n := 2) (in_t6 (List.mem_of_getElem? (i := 47) rfl) rfl) good_w (in_t1 (List.mem_of_getElem? (i := 3) rfl) rfl) (in_t6 (List.mem_of_getElem? (i := 44) rfl) rfl) (in_t6 (List.mem_of_getElem? (i := 45) rfl) rfl) (in_t6 (List.mem_of_getElem? (i := 46) rfl) rfl) (by decide +kernel) (by decide +kernel) (by decide +kernel) (x_dk dn_156_0_ok 13 rfl))))
  (e_Tok2
  (e_Lok (e_st (I := eI) (er_istore_n (i := 1) (x_dk dn_156_0_ok 14 rfl) (by decide +kernel))))
  (e_Lok (e_st (I := eI) (er_aload_n (i := 0) (x_dk dn_156_0_ok 15 rfl))))))
  (e_Tok2
  (e_Lok (e_st (I := eI) (er_getf (ci := 8) (k := 3) (ix := 21) (N := 17) (C := RX8) (T := TX8) rfl in_X8 (by decide) (in_t1 (List.mem_of_getElem? (i := 71) rfl) rfl) (x_dk dn_156_0_ok 16 rfl))))
  (e_Tok2
  (e_Lok (e_st (I := eI) (er_bipush (n := 49) (z := 49) (v := 49) (x_dk dn_156_0_ok 17 rfl) (by decide) (by decide))))
  (e_Lok (e_st (I := eI) (er_iconst (n := 0) (z := 0) (v := 0) (x_dk dn_156_0_ok 18 rfl) (by decide) (by decide)))))))
  (e_Tok2
  (e_Tok2
  (e_Lok (e_ca (I := eI) (q' := n_21) rfl (xr_callV (q' := n_21) (ix := 198) (n := 2) (in_t6 (List.mem_of_getElem? (i := 47) rfl) rfl) good_w (in_t1 (List.mem_of_getElem? (i := 3) rfl) rfl) (in_t6 (List.mem_of_getElem? (i := 44) rfl) rfl) (in_t6 (List.mem_of_getElem? (i := 45) rfl) rfl) (in_t6 (List.mem_of_getElem? (i := 46) rfl) rfl) (by decide +kernel) (by decide +kernel) (by decide +kernel) (x_dk dn_156_0_ok 19 rfl))))
  (e_Tok2
  (e_Lok (e_st (I := eI) (er_pop (x_dk dn_156_0_ok 20 rfl))))
  (e_Lok (e_st (I := eI) (er_aload_n (i := 0) (x_dk dn_156_0_ok 21 rfl))))))
  (e_Tok2
  (e_Tok2
  (e_Lok (e_st (I := eI) (er_getf (ci := 8) (k := 3) (ix := 21) (N := 17) (C := RX8) (T := TX8) rfl in_X8 (by decide) (in_t1 (List.mem_of_getElem? (i := 71) rfl) rfl) (x_dk dn_156_0_ok 22 rfl))))
  (e_Lok (e_st (I := eI) (er_bipush (n := 49) (z := 49) (v := 49) (x_dk dn_156_0_ok 23 rfl) (by decide) (by decide)))))
  (e_Tok2
  (e_Lok (e_st (I := eI) (er_iconst (n := 0) (z := 0) (v := 0) (x_dk dn_156_0_ok 24 rfl) (by decide) (by decide))))
  (e_Lok (e_ca (I := eI) (q' := n_21) rfl (xr_callV (q' := n_21) (ix := 198) (n := 2) (in_t6 (List.mem_of_getElem? (i := 47) rfl) rfl) good_w (in_t1 (List.mem_of_getElem? (i := 3) rfl) rfl) (in_t6 (List.mem_of_getElem? (i := 44) rfl) rfl) (in_t6 (List.mem_of_getElem? (i := 45) rfl) rfl) (in_t6 (List.mem_of_getElem? (i := 46) rfl) rfl) (by decide +kernel) (by decide +kernel) (by decide +kernel) (x_dk dn_156_0_ok 25 rfl)))))))))
def te_156_26 : Nat → eE := (e_T 69 (e_T 58 (e_T 52 (e_T 50 (e_L 50 (0, ei_stk ef_pop 51, 0, 0)) (e_T 51 (e_L 51 (0, ei_load 0 2 52, 0, 0)) (e_L 52 (0, ei_getf eft elay 8 3 55, 0, 0)))) (e_T 55 (e_L 55 (0, ei_push (0, 49) 57, 0, 0)) (e_T 57 (e_L 57 (0, ei_push (0, 0) 58, 0, 0)) (e_L 58 (2, e_nof, 21, 3))))) (e_T 63 (e_T 61 (e_L 61 (0, ei_stk ef_pop 62, 0, 0)) (e_T 62 (e_L 62 (0, ei_load 0 2 63, 0, 0)) (e_L 63 (0, ei_stk ef_dup 64, 0, 0)))) (e_T 67 (e_T 64 (e_L 64 (0, ei_getf eft elay 8 12 67, 0, 0)) (e_L 67 (0, ei_push (0, 1) 68, 0, 0))) (e_T 68 (e_L 68 (0, ei_bin eF_add 69, 0, 0)) (e_L 69 (0, ei_putf eft elay 8 12 0 72, 0, 0)))))) (e_T 82 (e_T 76 (e_T 72 (e_L 72 (0, ei_load 0 2 73, 0, 0)) (e_T 73 (e_L 73 (2, e_nof, 144, 1)) (e_L 76 (0, ei_load 0 2 77, 0, 0)))) (e_T 77 (e_L 77 (0, ei_getf eft elay 8 3 80, 0, 0)) (e_T 80 (e_L 80 (0, ei_push (0, 47) 82, 0, 0)) (e_L 82 (0, ei_push (0, 0) 83, 0, 0))))) (e_T 87 (e_T 83 (e_L 83 (2, e_nof, 21, 3)) (e_T 86 (e_L 86 (0, ei_stk ef_pop 87, 0, 0)) (e_L 87 (0, ei_load 0 2 88, 0, 0)))) (e_T 91 (e_T 88 (e_L 88 (0, ei_getf eft elay 8 5 91, 0, 0)) (e_L 91 (0, ei_push (0, 43) 93, 0, 0))) (e_T 93 (e_L 93 (0, ei_if2 1 119 96, 0, 0)) (e_L 96 (0, ei_load 0 2 97, 0, 0)))))))
set_option maxRecDepth 20000 in
set_option maxHeartbeats 4000000 in
theorem te_156_26_ok : ∀ pc, e_EOq eft cls elay eI n_156 pc (te_156_26 pc) :=
  (e_Tok2
  (e_Tok2
  (e_Tok2
  (e_Tok2
  (e_Lok (e_st (I := eI) (er_pop (x_dk dn_156_0_ok 26 rfl))))
  (e_Tok2
  (e_Lok (e_st (I := eI) (er_aload_n (i := 0) (x_dk dn_156_0_ok 27 rfl))))
  (e_Lok (e_st (I := eI) (er_getf (ci := 8) (k := 3) (ix := 21) (N := 17) (C := RX8) (T := TX8) rfl in_X8 (by decide) (in_t1 (List.mem_of_getElem? (i := 71) rfl) rfl) (x_dk dn_156_0_ok 28 rfl))))))
  (e_Tok2
  (e_Lok (e_st (I := eI) (er_bipush (n := 49) (z := 49) (v := 49) (x_dk dn_156_0_ok 29 rfl) (by decide) (by decide))))
  (e_Tok2
  (e_Lok (e_st (I := eI) (er_iconst (n := 0) (z := 0) (v := 0) (x_dk dn_156_0_ok 30 rfl) (by decide) (by decide))))
  (e_Lok (e_ca (I := eI) (q' := n_21) rfl (xr_callV (q' := n_21) (ix := 198) (n := 2) (in_t6 (List.mem_of_getElem? (i := 47) rfl) rfl) good_w (in_t1 (List.mem_of_getElem? (i := 3) rfl) rfl) (in_t6 (List.mem_of_getElem? (i := 44) rfl) rfl) (in_t6 (List.mem_of_getElem? (i := 45) rfl) rfl) (in_t6 (List.mem_of_getElem? (i := 46) rfl) rfl) (by decide +kernel) (by decide +kernel) (by decide +kernel) (x_dk dn_156_0_ok 31 rfl)))))))
  (e_Tok2
  (e_Tok2
  (e_Lok (e_st (I := eI) (er_pop (x_dk dn_156_0_ok 32 rfl))))
  (e_Tok2
  (e_Lok (e_st (I := eI) (er_aload_n (i := 0) (x_dk dn_156_0_ok 33 rfl))))
  (e_Lok (e_st (I := eI) (er_dup (x_dk dn_156_0_ok 34 rfl))))))
  (e_Tok2
  (e_Tok2
  (e_Lok (e_st (I := eI) (er_getf (ci := 8) (k := 12) (ix := 189) (N := 17) (C := RX8) (T := TX8) rfl in_X8 (by decide) (in_t1 (List.mem_of_getElem? (i := 81) rfl) rfl) (x_dk dn_156_0_ok 35 rfl))))
  (e_Lok (e_st (I := eI) (er_iconst (n := 1) (z := 1) (v := 1) (x_dk dn_156_0_ok 36 rfl) (by decide) (by decide)))))
  (e_Tok2
  (e_Lok (e_st (I := eI) (er_iadd (x_dk dn_156_0_ok 37 rfl))))
  (e_Lok (e_st (I := eI) (er_putf (ci := 8) (k := 12) (ix := 189) (N := 17) (fk := 0) (C := RX8) (T := TX8) (ty0 := tyX8) (ty := .int) rfl in_X8 tyX8_ok nmX8 (by decide) (in_t1 (List.mem_of_getElem? (i := 81) rfl) rfl) rfl rfl x_fit_int (x_dk dn_156_0_ok 38 rfl))))))))
  (e_Tok2
  (e_Tok2
  (e_Tok2
  (e_Lok (e_st (I := eI) (er_aload_n (i := 0) (x_dk dn_156_0_ok 39 rfl))))
  (e_Tok2
  (e_Lok (e_ca (I := eI) (q' := n_144) rfl (xr_callV (q' := n_144) (ix := 195) (n := 0) (in_t6 (List.mem_of_getElem? (i := 34) rfl) rfl) good_w (in_t1 (List.mem_of_getElem? (i := 2) rfl) rfl) (in_t6 (List.mem_of_getElem? (i := 31) rfl) rfl) (in_t6 (List.mem_of_getElem? (i := 33) rfl) rfl) (in_s2 (List.mem_of_getElem? (i := 13) rfl)) (by decide +kernel) (by decide +kernel) (by decide +kernel) (x_dk dn_156_0_ok 40 rfl))))
  (e_Lok (e_st (I := eI) (er_aload_n (i := 0) (x_dk dn_156_0_ok 41 rfl))))))
  (e_Tok2
  (e_Lok (e_st (I := eI) (er_getf (ci := 8) (k := 3) (ix := 21) (N := 17) (C := RX8) (T := TX8) rfl in_X8 (by decide) (in_t1 (List.mem_of_getElem? (i := 71) rfl) rfl) (x_dk dn_156_0_ok 42 rfl))))
  (e_Tok2
  (e_Lok (e_st (I := eI) (er_bipush (n := 47) (z := 47) (v := 47) (x_dk dn_156_0_ok 43 rfl) (by decide) (by decide))))
  (e_Lok (e_st (I := eI) (er_iconst (n := 0) (z := 0) (v := 0) (x_dk dn_156_0_ok 44 rfl) (by decide) (by decide)))))))
  (e_Tok2
  (e_Tok2
  (e_Lok (e_ca (I := eI) (q' := n_21) rfl (xr_callV (q' := n_21) (ix := 198) (n := 2) (in_t6 (List.mem_of_getElem? (i := 47) rfl) rfl) good_w (in_t1 (List.mem_of_getElem? (i := 3) rfl) rfl) (in_t6 (List.mem_of_getElem? (i := 44) rfl) rfl) (in_t6 (List.mem_of_getElem? (i := 45) rfl) rfl) (in_t6 (List.mem_of_getElem? (i := 46) rfl) rfl) (by decide +kernel) (by decide +kernel) (by decide +kernel) (x_dk dn_156_0_ok 45 rfl))))
  (e_Tok2
  (e_Lok (e_st (I := eI) (er_pop (x_dk dn_156_0_ok 46 rfl))))
  (e_Lok (e_st (I := eI) (er_aload_n (i := 0) (x_dk dn_156_0_ok 47 rfl))))))
  (e_Tok2
  (e_Tok2
  (e_Lok (e_st (I := eI) (er_getf (ci := 8) (k := 5) (ix := 57) (N := 17) (C := RX8) (T := TX8) rfl in_X8 (by decide) (in_t1 (List.mem_of_getElem? (i := 74) rfl) rfl) (x_dk dn_156_0_ok 48 rfl))))
  (e_Lok (e_st (I := eI) (er_bipush (n := 43) (z := 43) (v := 43) (x_dk dn_156_0_ok 49 rfl) (by decide) (by decide)))))
  (e_Tok2
  (e_Lok (e_st (I := eI) (er_icmpne (off := 26) (tg := 119) (x_dk dn_156_0_ok 50 rfl) (by decide))))
  (e_Lok (e_st (I := eI) (er_aload_n (i := 0) (x_dk dn_156_0_ok 51 rfl)))))))))
def te_156_52 : Nat → eE := (e_T 120 (e_T 104 (e_T 101 (e_T 97 (e_L 97 (0, ei_getf eft elay 8 3 100, 0, 0)) (e_T 100 (e_L 100 (0, ei_load 1 0 101, 0, 0)) (e_L 101 (0, ei_push (0, 1) 102, 0, 0)))) (e_T 102 (e_L 102 (0, ei_bin eF_add 103, 0, 0)) (e_T 103 (e_L 103 (0, ei_load 0 2 104, 0, 0)) (e_L 104 (0, ei_getf eft elay 8 3 107, 0, 0))))) (e_T 113 (e_T 107 (e_L 107 (0, ei_getf eft elay 1 0 110, 0, 0)) (e_T 110 (e_L 110 (2, e_nof, 22, 3)) (e_L 113 (0, ei_load 0 2 114, 0, 0)))) (e_T 116 (e_T 114 (e_L 114 (0, ei_push (0, 47) 116, 0, 0)) (e_L 116 (2, e_nof, 157, 2))) (e_T 119 (e_L 119 (0, ei_load 0 2 120, 0, 0)) (e_L 120 (0, ei_getf eft elay 8 5 123, 0, 0)))))) (e_T 133 (e_T 128 (e_T 123 (e_L 123 (0, ei_push (0, 44) 125, 0, 0)) (e_T 125 (e_L 125 (0, ei_if2 1 151 128, 0, 0)) (e_L 128 (0, ei_load 0 2 129, 0, 0)))) (e_T 129 (e_L 129 (0, ei_getf eft elay 8 3 132, 0, 0)) (e_T 132 (e_L 132 (0, ei_load 1 0 133, 0, 0)) (e_L 133 (0, ei_push (0, 2) 134, 0, 0))))) (e_T 136 (e_T 134 (e_L 134 (0, ei_bin eF_add 135, 0, 0)) (e_T 135 (e_L 135 (0, ei_load 0 2 136, 0, 0)) (e_L 136 (0, ei_getf eft elay 8 3 139, 0, 0)))) (e_T 142 (e_T 139 (e_L 139 (0, ei_getf eft elay 1 0 142, 0, 0)) (e_L 142 (2, e_nof, 22, 3))) (e_T 145 (e_L 145 (0, ei_load 0 2 146, 0, 0)) (e_L 146 (0, ei_push (0, 48) 148, 0, 0)))))))
set_option maxRecDepth 20000 in
set_option maxHeartbeats 4000000 in
theorem te_156_52_ok : ∀ pc, e_EOq eft cls elay eI n_156 pc (te_156_52 pc) :=
  (e_Tok2
  (e_Tok2
  (e_Tok2
  (e_Tok2
  (e_Lok (e_st (I := eI) (er_getf (ci := 8) (k := 3) (ix := 21) (N := 17) (C := RX8) (T := TX8) rfl in_X8 (by decide) (in_t1 (List.mem_of_getElem? (i := 71) rfl) rfl) (x_dk dn_156_0_ok 52 rfl))))
  (e_Tok2
  (e_Lok (e_st (I := eI) (er_iload_n (i := 1) (x_dk dn_156_0_ok 53 rfl))))
  (e_Lok (e_st (I := eI) (er_iconst (n := 1) (z := 1) (v := 1) (x_dk dn_156_0_ok 54 rfl) (by decide) (by decide))))))
  (e_Tok2
  (e_Lok (e_st (I := eI) (er_iadd (x_dk dn_156_0_ok 55 rfl))))
  (e_Tok2
  (e_Lok (e_st (I := eI) (er_aload_n (i := 0) (x_dk dn_156_0_ok 56 rfl))))
  (e_Lok (e_st (I := eI) (er_getf (ci := 8) (k := 3) (ix := 21) (N := 17) (C := RX8) (T := TX8) rfl in_X8 (by decide) (in_t1 (List.mem_of_getElem? (i := 71) rfl) rfl) (x_dk dn_156_0_ok 57 rfl)))))))
  (e_Tok2
  (e_Tok2
  (e_Lok (e_st (I := eI) (er_getf (ci := 1) (k := 0) (ix := 164) (N := 5) (C := RX1) (T := TX1) rfl in_X1 (by decide) (in_t1 (List.mem_of_getElem? (i := 42) rfl) rfl) (x_dk dn_156_0_ok 58 rfl))))
  (e_Tok2
  (e_Lok (e_ca (I := eI) (q' := n_22) rfl (xr_callV (q' := n_22) (ix := 174) (n := 2) (in_t6 (List.mem_of_getElem? (i := 101) rfl) rfl) good_w (in_t1 (List.mem_of_getElem? (i := 3) rfl) rfl) (in_t6 (List.mem_of_getElem? (i := 98) rfl) rfl) (in_t6 (List.mem_of_getElem? (i := 99) rfl) rfl) (in_t6 (List.mem_of_getElem? (i := 100) rfl) rfl) (by decide +kernel) (by decide +kernel) (by decide +kernel) (x_dk dn_156_0_ok 59 rfl))))
  (e_Lok (e_st (I := eI) (er_aload_n (i := 0) (x_dk dn_156_0_ok 60 rfl))))))
  (e_Tok2
  (e_Tok2
  (e_Lok (e_st (I := eI) (er_bipush (n := 47) (z := 47) (v := 47) (x_dk dn_156_0_ok 61 rfl) (by decide) (by decide))))
  (e_Lok (e_ca (I := eI) (q' := n_157) rfl (xr_callV (q' := n_157) (ix := 254) (n := 1) (in_t6 (List.mem_of_getElem? (i := 145) rfl) rfl) good_w (in_t1 (List.mem_of_getElem? (i := 2) rfl) rfl) (in_t6 (List.mem_of_getElem? (i := 142) rfl) rfl) (in_t6 (List.mem_of_getElem? (i := 144) rfl) rfl) (in_s4 (List.mem_of_getElem? (i := 6) rfl)) (by decide +kernel) (by decide +kernel) (by decide +kernel) (x_dk dn_156_0_ok 62 rfl)))))
  (e_Tok2
  (e_Lok (e_st (I := eI) (er_aload_n (i := 0) (x_dk dn_156_0_ok 63 rfl))))
  (e_Lok (e_st (I := eI) (er_getf (ci := 8) (k := 5) (ix := 57) (N := 17) (C := RX8) (T := TX8) rfl in_X8 (by decide) (in_t1 (List.mem_of_getElem? (i := 74) rfl) rfl) (x_dk dn_156_0_ok 64 rfl))))))))
  (e_Tok2
  (e_Tok2
  (e_Tok2
  (e_Lok (e_st (I := eI) (er_bipush (n := 44) (z := 44) (v := 44) (x_dk dn_156_0_ok 65 rfl) (by decide) (by decide))))
  (e_Tok2
  (e_Lok (e_st (I := eI) (er_icmpne (off := 26) (tg := 151) (x_dk dn_156_0_ok 66 rfl) (by decide))))
  (e_Lok (e_st (I := eI) (er_aload_n (i := 0) (x_dk dn_156_0_ok 67 rfl))))))
  (e_Tok2
  (e_Lok (e_st (I := eI) (er_getf (ci := 8) (k := 3) (ix := 21) (N := 17) (C := RX8) (T := TX8) rfl in_X8 (by decide) (in_t1 (List.mem_of_getElem? (i := 71) rfl) rfl) (x_dk dn_156_0_ok 68 rfl))))
  (e_Tok2
  (e_Lok (e_st (I := eI) (er_iload_n (i := 1) (x_dk dn_156_0_ok 69 rfl))))
  (e_Lok (e_st (I := eI) (er_iconst (n := 2) (z := 2) (v := 2) (x_dk dn_156_0_ok 70 rfl) (by decide) (by decide)))))))
  (e_Tok2
  (e_Tok2
  (e_Lok (e_st (I := eI) (er_iadd (x_dk dn_156_0_ok 71 rfl))))
  (e_Tok2
  (e_Lok (e_st (I := eI) (er_aload_n (i := 0) (x_dk dn_156_0_ok 72 rfl))))
  (e_Lok (e_st (I := eI) (er_getf (ci := 8) (k := 3) (ix := 21) (N := 17) (C := RX8) (T := TX8) rfl in_X8 (by decide) (in_t1 (List.mem_of_getElem? (i := 71) rfl) rfl) (x_dk dn_156_0_ok 73 rfl))))))
  (e_Tok2
  (e_Tok2
  (e_Lok (e_st (I := eI) (er_getf (ci := 1) (k := 0) (ix := 164) (N := 5) (C := RX1) (T := TX1) rfl in_X1 (by decide) (in_t1 (List.mem_of_getElem? (i := 42) rfl) rfl) (x_dk dn_156_0_ok 74 rfl))))
  (e_Lok (e_ca (I := eI) (q' := n_22) rfl (xr_callV (q' := n_22) (ix := 174) (n := 2) (in_t6 (List.mem_of_getElem? (i := 101) rfl) rfl) good_w (in_t1 (List.mem_of_getElem? (i := 3) rfl) rfl) (in_t6 (List.mem_of_getElem? (i := 98) rfl) rfl) (in_t6 (List.mem_of_getElem? (i := 99) rfl) rfl) (in_t6 (List.mem_of_getElem? (i := 100) rfl) rfl) (by decide +kernel) (by decide +kernel) (by decide +kernel) (x_dk dn_156_0_ok 75 rfl)))))
  (e_Tok2
  (e_Lok (e_st (I := eI) (er_aload_n (i := 0) (x_dk dn_156_0_ok 76 rfl))))
  (e_Lok (e_st (I := eI) (er_bipush (n := 48) (z := 48) (v := 48) (x_dk dn_156_0_ok 77 rfl) (by decide) (by decide)))))))))
def te_156_78 : Nat → eE := (e_T 168 (e_T 157 (e_T 152 (e_T 148 (e_L 148 (2, e_nof, 157, 2)) (e_T 151 (e_L 151 (0, ei_load 0 2 152, 0, 0)) (e_L 152 (0, ei_stk ef_dup 153, 0, 0)))) (e_T 153 (e_L 153 (0, ei_getf eft elay 8 12 156, 0, 0)) (e_T 156 (e_L 156 (0, ei_push (0, 1) 157, 0, 0)) (e_L 157 (0, ei_bin eF_sub 158, 0, 0))))) (e_T 162 (e_T 158 (e_L 158 (0, ei_putf eft elay 8 12 0 161, 0, 0)) (e_T 161 (e_L 161 (0, ei_load 0 2 162, 0, 0)) (e_L 162 (0, ei_getf eft elay 8 3 165, 0, 0)))) (e_T 166 (e_T 165 (e_L 165 (0, ei_load 1 0 166, 0, 0)) (e_L 166 (0, ei_push (0, 3) 167, 0, 0))) (e_T 167 (e_L 167 (0, ei_bin eF_add 168, 0, 0)) (e_L 168 (0, ei_load 0 2 169, 0, 0)))))) (e_T 181 (e_T 175 (e_T 169 (e_L 169 (0, ei_getf eft elay 8 3 172, 0, 0)) (e_T 172 (e_L 172 (0, ei_getf eft elay 1 0 175, 0, 0)) (e_L 175 (2, e_nof, 22, 3)))) (e_T 178 (e_L 178 (0, ei_load 0 2 179, 0, 0)) (e_T 179 (e_L 179 (0, ei_push (0, 23) 181, 0, 0)) (e_L 181 (2, e_nof, 129, 2))))) (e_T 186 (e_T 184 (e_L 184 (0, ei_load 0 2 185, 0, 0)) (e_T 185 (e_L 185 (0, ei_stk ef_dup 186, 0, 0)) (e_L 186 (0, ei_getf eft elay 8 11 189, 0, 0)))) (e_T 190 (e_T 189 (e_L 189 (0, ei_push (0, 1) 190, 0, 0)) (e_L 190 (0, ei_bin eF_sub 191, 0, 0))) (e_T 191 (e_L 191 (0, ei_putf eft elay 8 11 0 194, 0, 0)) (e_L 194 (1, e_nof, 0, 0)))))))
set_option maxRecDepth 20000 in
set_option maxHeartbeats 4000000 in
theorem te_156_78_ok : ∀ pc, e_EOq eft cls elay eI n_156 pc (te_156_78 pc) :=
  (e_Tok2
  (e_Tok2
  (e_Tok2
  (e_Tok2
  (e_Lok (e_ca (I := eI) (q' := n_157) rfl (xr_callV (q' := n_157) (ix := 254) (n := 1) (in_t6 (List.mem_of_getElem? (i := 145) rfl) rfl) good_w (in_t1 (List.mem_of_getElem? (i := 2) rfl) rfl) (in_t6 (List.mem_of_getElem? (i := 142) rfl) rfl) (in_t6 (List.mem_of_getElem? (i := 144) rfl) rfl) (in_s4 (List.mem_of_getElem? (i := 6) rfl)) (by decide +kernel) (by decide +kernel) (by decide +kernel) (x_dk dn_156_0_ok 78 rfl))))
  (e_Tok2
  (e_Lok (e_st (I := eI) (er_aload_n (i := 0) (x_dk dn_156_0_ok 79 rfl))))
  (e_Lok (e_st (I := eI) (er_dup (x_dk dn_156_0_ok 80 rfl))))))
  (e_Tok2
  (e_Lok (e_st (I := eI) (er_getf (ci := 8) (k := 12) (ix := 189) (N := 17) (C := RX8) (T := TX8) rfl in_X8 (by decide) (in_t1 (List.mem_of_getElem? (i := 81) rfl) rfl) (x_dk dn_156_0_ok 81 rfl))))
  (e_Tok2
  (e_Lok (e_st (I := eI) (er_iconst (n := 1) (z := 1) (v := 1) (x_dk dn_156_0_ok 82 rfl) (by decide) (by decide))))
  (e_Lok (e_st (I := eI) (er_isub (x_dk dn_156_0_ok 83 rfl)))))))
  (e_Tok2
  (e_Tok2
  (e_Lok (e_st (I := eI) (er_putf (ci := 8) (k := 12) (ix := 189) (N := 17) (fk := 0) (C := RX8) (T := TX8) (ty0 := tyX8) (ty := .int) rfl in_X8 tyX8_ok nmX8 (by decide) (in_t1 (List.mem_of_getElem? (i := 81) rfl) rfl) rfl rfl x_fit_int (x_dk dn_156_0_ok 84 rfl))))
  (e_Tok2
  (e_Lok (e_st (I := eI) (er_aload_n (i := 0) (x_dk dn_156_0_ok 85 rfl))))
  (e_Lok (e_st (I := eI) (er_getf (ci := 8) (k := 3) (ix := 21) (N := 17) (C := RX8) (T := TX8) rfl in_X8 (by decide) (in_t1 (List.mem_of_getElem? (i := 71) rfl) rfl) (x_dk dn_156_0_ok 86 rfl))))))
  (e_Tok2
  (e_Tok2
  (e_Lok (e_st (I := eI) (er_iload_n (i := 1) (x_dk dn_156_0_ok 87 rfl))))
  (e_Lok (e_st (I := eI) (er_iconst (n := 3) (z := 3) (v := 3) (x_dk dn_156_0_ok 88 rfl) (by decide) (by decide)))))
  (e_Tok2
  (e_Lok (e_st (I := eI) (er_iadd (x_dk dn_156_0_ok 89 rfl))))
  (e_Lok (e_st (I := eI) (er_aload_n (i := 0) (x_dk dn_156_0_ok 90 rfl))))))))
  (e_Tok2
  (e_Tok2
  (e_Tok2
  (e_Lok (e_st (I := eI) (er_getf (ci := 8) (k := 3) (ix := 21) (N := 17) (C := RX8) (T := TX8) rfl in_X8 (by decide) (in_t1 (List.mem_of_getElem? (i := 71) rfl) rfl) (x_dk dn_156_0_ok 91 rfl))))
  (e_Tok2
  (e_Lok (e_st (I := eI) (er_getf (ci := 1) (k := 0) (ix := 164) (N := 5) (C := RX1) (T := TX1) rfl in_X1 (by decide) (in_t1 (List.mem_of_getElem? (i := 42) rfl) rfl) (x_dk dn_156_0_ok 92 rfl))))
  (e_Lok (e_ca (I := eI) (q' := n_22) rfl (xr_callV (q' := n_22) (ix := 174) (n := 2) (in_t6 (List.mem_of_getElem? (i := 101) rfl) rfl) good_w (in_t1 (List.mem_of_getElem? (i := 3) rfl) rfl) (in_t6 (List.mem_of_getElem? (i := 98) rfl) rfl) (in_t6 (List.mem_of_getElem? (i := 99) rfl) rfl) (in_t6 (List.mem_of_getElem? (i := 100) rfl) rfl) (by decide +kernel) (by decide +kernel) (by decide +kernel) (x_dk dn_156_0_ok 93 rfl))))))
  (e_Tok2
  (e_Lok (e_st (I := eI) (er_aload_n (i := 0) (x_dk dn_156_0_ok 94 rfl))))
  (e_Tok2
  (e_Lok (e_st (I := eI) (er_bipush (n := 23) (z := 23) (v := 23) (x_dk dn_156_0_ok 95 rfl) (by decide) (by decide))))
  (e_Lok (e_ca (I := eI) (q' := n_129) rfl (xr_callV (q' := n_129) (ix := 180) (n := 1) (in_t6 (List.mem_of_getElem? (i := 18) rfl) rfl) good_w (in_t1 (List.mem_of_getElem? (i := 2) rfl) rfl) (in_t6 (List.mem_of_getElem? (i := 15) rfl) rfl) (in_t6 (List.mem_of_getElem? (i := 17) rfl) rfl) (in_s2 (List.mem_of_getElem? (i := 9) rfl)) (by decide +kernel) (by decide +kernel) (by decide +kernel) (x_dk dn_156_0_ok 96 rfl)))))))
  (e_Tok2
  (e_Tok2
  (e_Lok (e_st (I := eI) (er_aload_n (i := 0) (x_dk dn_156_0_ok 97 rfl))))
  (e_Tok2
  (e_Lok (e_st (I := eI) (er_dup (x_dk dn_156_0_ok 98 rfl))))
  (e_Lok (e_st (I := eI) (er_getf (ci := 8) (k := 11) (ix := 42) (N := 17) (C := RX8) (T := TX8) rfl in_X8 (by decide) (in_t1 (List.mem_of_getElem? (i := 80) rfl) rfl) (x_dk dn_156_0_ok 99 rfl))))))
  (e_Tok2
  (e_Tok2
  (e_Lok (e_st (I := eI) (er_iconst (n := 1) (z := 1) (v := 1) (x_dk dn_156_1_ok 0 rfl) (by decide) (by decide))))
  (e_Lok (e_st (I := eI) (er_isub (x_dk dn_156_1_ok 1 rfl)))))
  (e_Tok2
  (e_Lok (e_st (I := eI) (er_putf (ci := 8) (k := 11) (ix := 42) (N := 17) (fk := 0) (C := RX8) (T := TX8) (ty0 := tyX8) (ty := .int) rfl in_X8 tyX8_ok nmX8 (by decide) (in_t1 (List.mem_of_getElem? (i := 80) rfl) rfl) rfl rfl x_fit_int (x_dk dn_156_1_ok 2 rfl))))
  (e_Lok (e_rt (I := eI) (k := 0) ⟨(x_dk dn_156_1_ok 3 rfl), rfl⟩)))))))
def te_156 : Nat → eE := (e_T 96 (e_T 47 te_156_0 te_156_26) (e_T 146 te_156_52 te_156_78))
theorem te_156_ok : ∀ pc, e_EOq eft cls elay eI n_156 pc (te_156 pc) := (e_Tok2 ((e_Tok2 (te_156_0_ok) (te_156_26_ok))) ((e_Tok2 (te_156_52_ok) (te_156_78_ok))))
def dn_157_0 : List (Nat × Instr × Nat) := [(0, .aload_n 0, 1), (1, .invokevirtual 54, 3), (4, .aload_n 0, 1), (5, .bipush 20, 2), (7, .invokevirtual 180, 3), (10, .aload_n 0, 1), (11, .invokevirtual 195, 3), (14, .aload_n 0, 1), (15, .getfield 21, 3), (18, .iload_n 1, 1), (19, .iconst 0, 1), (20, .invokevirtual 198, 3), (23, .pop, 1), (24, .return_, 1)]
set_option maxRecDepth 20000 in
theorem dn_157_0_ok : dn_157_0.all (fun q => decide (decode prog_10_method_41_code q.1 = .ok (q.2.1, q.2.2))) = true := by decide +kernel
def te_157_0 : Nat → eE := (e_T 11 (e_T 4 (e_T 0 (e_L 0 (0, ei_load 0 2 1, 0, 0)) (e_T 1 (e_L 1 (2, e_nof, 123, 1)) (e_L 4 (0, ei_load 0 2 5, 0, 0)))) (e_T 7 (e_T 5 (e_L 5 (0, ei_push (0, 20) 7, 0, 0)) (e_L 7 (2, e_nof, 129, 2))) (e_T 10 (e_L 10 (0, ei_load 0 2 11, 0, 0)) (e_L 11 (2, e_nof, 144, 1))))) (e_T 18 (e_T 14 (e_L 14 (0, ei_load 0 2 15, 0, 0)) (e_T 15 (e_L 15 (0, ei_getf eft elay 8 3 18, 0, 0)) (e_L 18 (0, ei_load 1 0 19, 0, 0)))) (e_T 20 (e_T 19 (e_L 19 (0, ei_push (0, 0) 20, 0, 0)) (e_L 20 (2, e_nof, 21, 3))) (e_T 23 (e_L 23 (0, ei_stk ef_pop 24, 0, 0)) (e_L 24 (1, e_nof, 0, 0))))))
set_option maxRecDepth 20000 in
set_option maxHeartbeats 4000000 in
theorem te_157_0_ok : ∀ pc, e_EOq eft cls elay eI n_157 pc (te_157_0 pc) :=
  (e_Tok2
  (e_Tok2
  (e_Tok2
  (e_Lok (e_st (I := eI) (er_aload_n (i := 0) (x_dk dn_157_0_ok 0 rfl))))
  (e_Tok2
  (e_Lok (e_ca (I := eI) (q' := n_123) rfl (xr_callV (q' := n_123) (ix := 54) (n := 0) (in_t5 (List.mem_of_getElem? (i := 80) rfl) rfl) good_w (in_t1 (List.mem_of_getElem? (i := 2) rfl) rfl) (in_t5 (List.mem_of_getElem? (i := 77) rfl) rfl) (in_t5 (List.mem_of_getElem? (i := 79) rfl) rfl) (in_s1 (List.mem_of_getElem? (i := 11) rfl)) (by decide +kernel) (by decide +kernel) (by decide +kernel) (x_dk dn_157_0_ok 1 rfl))))
  (e_Lok (e_st (I := eI) (er_aload_n (i := 0) (x_dk dn_157_0_ok 2 rfl))))))
  (e_Tok2
  (e_Tok2
  (e_Lok (e_st (I := eI) (er_bipush (n := 20) (z := 20) (v := 20) (x_dk dn_157_0_ok 3 rfl) (by decide) (by decide))))
  (e_Lok (e_ca (I := eI) (q' := n_129) rfl (xr_callV (q' := n_129) (ix := 180) (n := 1) (in_t6 (List.mem_of_getElem? (i := 18) rfl) rfl) good_w (in_t1 (List.mem_of_getElem? (i := 2) rfl) rfl) (in_t6 (List.mem_of_getElem? (i := 15) rfl) rfl) (in_t6 (List.mem_of_getElem? (i := 17) rfl) rfl) (in_s2 (List.mem_of_getElem? (i := 9) rfl)) (by decide +kernel) (by decide +kernel) (by decide +kernel) (x_dk dn_157_0_ok 4 rfl)))))
  (e_Tok2
  (e_Lok (e_st (I := eI) (er_aload_n (i := 0) (x_dk dn_157_0_ok 5 rfl))))
  (e_Lok (e_ca (I := eI) (q' := n_144) rfl (xr_callV (q' := n_144) (ix := 195) (n := 0) (in_t6 (List.mem_of_getElem? (i := 34) rfl) rfl) good_w (in_t1 (List.mem_of_getElem? (i := 2) rfl) rfl) (in_t6 (List.mem_of_getElem? (i := 31) rfl) rfl) (in_t6 (List.mem_of_getElem? (i := 33) rfl) rfl) (in_s2 (List.mem_of_getElem? (i := 13) rfl)) (by decide +kernel) (by decide +kernel) (by decide +kernel) (x_dk dn_157_0_ok 6 rfl)))))))
  (e_Tok2
  (e_Tok2
  (e_Lok (e_st (I := eI) (er_aload_n (i := 0) (x_dk dn_157_0_ok 7 rfl))))
  (e_Tok2
  (e_Lok (e_st (I := eI) (er_getf (ci := 8) (k := 3) (ix := 21) (N := 17) (C := RX8) (T := TX8) rfl in_X8 (by decide) (in_t1 (List.mem_of_getElem? (i := 71) rfl) rfl) (x_dk dn_157_0_ok 8 rfl))))
  (e_Lok (e_st (I := eI) (er_iload_n (i := 1) (x_dk dn_157_0_ok 9 rfl))))))
  (e_Tok2
  (e_Tok2
  (e_Lok (e_st (I := eI) (er_iconst (n := 0) (z := 0) (v := 0) (x_dk dn_157_0_ok 10 rfl) (by decide) (by decide))))
  (e_Lok (e_ca (I := eI) (q' := n_21) rfl (xr_callV (q' := n_21) (ix := 198) (n := 2) (in_t6 (List.mem_of_getElem? (i := 47) rfl) rfl) good_w (in_t1 (List.mem_of_getElem? (i := 3) rfl) rfl) (in_t6 (List.mem_of_getElem? (i := 44) rfl) rfl) (in_t6 (List.mem_of_getElem? (i := 45) rfl) rfl) (in_t6 (List.mem_of_getElem? (i := 46) rfl) rfl) (by decide +kernel) (by decide +kernel) (by decide +kernel) (x_dk dn_157_0_ok 11 rfl)))))
  (e_Tok2
  (e_Lok (e_st (I := eI) (er_pop (x_dk dn_157_0_ok 12 rfl))))
  (e_Lok (e_rt (I := eI) (k := 0) ⟨(x_dk dn_157_0_ok 13 rfl), rfl⟩))))))
def te_157 : Nat → eE := te_157_0
theorem te_157_ok : ∀ pc, e_EOq eft cls elay eI n_157 pc (te_157 pc) := te_157_0_ok
def dn_158_0 : List (Nat × Instr × Nat) := [(0, .aload_n 0, 1), (1, .invokevirtual 257, 3), (4, .iconst 0, 1), (5, .istore_n 1, 1), (6, .iload_n 1, 1), (7, .sipush 4000, 3), (10, .if_icmp .ge 63, 3), (13, .aload_n 0, 1), (14, .getfield 57, 3), (17, .bipush 45, 2), (19, .if_icmp .ne 54, 3), (22, .aload_n 0, 1), (23, .getfield 21, 3), (26, .bipush 12, 2), (28, .iconst 0, 1), (29, .invokevirtual 198, 3), (32, .istore_n 2, 1), (33, .aload_n 0, 1), (34, .invokevirtual 54, 3), (37, .aload_n 0, 1), (38, .invokevirtual 257, 3), (41, .aload_n 0, 1), (42, .getfield 21, 3), (45, .bipush 11, 2), (47, .iconst 0, 1), (48, .invokevirtual 198, 3), (51, .pop, 1), (52, .aload_n 0, 1), (53, .getfield 21, 3), (56, .iload_n 2, 1), (57, .aload_n 0, 1), (58, .getfield 21, 3), (61, .getfield 164, 3), (64, .invokevirtual 174, 3), (67, .iinc 1 1, 3), (70, .goto (-64), 3), (73, .return_, 1)]
set_option maxRecDepth 20000 in
theorem dn_158_0_ok : dn_158_0.all (fun q => decide (decode prog_10_method_42_code q.1 = .ok (q.2.1, q.2.2))) = true := by decide +kernel
def te_158_0 : Nat → eE := (e_T 33 (e_T 14 (e_T 5 (e_T 1 (e_T 0 (e_L 0 (0, ei_load 0 2 1, 0, 0)) (e_L 1 (2, e_nof, 159, 1))) (e_T 4 (e_L 4 (0, ei_push (0, 0) 5, 0, 0)) (e_L 5 (0, ei_stor 1 0 6, 0, 0)))) (e_T 7 (e_T 6 (e_L 6 (0, ei_load 1 0 7, 0, 0)) (e_L 7 (0, ei_push (0, 4000) 10, 0, 0))) (e_T 10 (e_L 10 (0, ei_if2 3 73 13, 0, 0)) (e_T 13 (e_L 13 (0, ei_load 0 2 14, 0, 0)) (e_L 14 (0, ei_getf eft elay 8 5 17, 0, 0)))))) (e_T 23 (e_T 19 (e_T 17 (e_L 17 (0, ei_push (0, 45) 19, 0, 0)) (e_L 19 (0, ei_if2 1 73 22, 0, 0))) (e_T 22 (e_L 22 (0, ei_load 0 2 23, 0, 0)) (e_L 23 (0, ei_getf eft elay 8 3 26, 0, 0)))) (e_T 28 (e_T 26 (e_L 26 (0, ei_push (0, 12) 28, 0, 0)) (e_L 28 (0, ei_push (0, 0) 29, 0, 0))) (e_T 29 (e_L 29 (2, e_nof, 21, 3)) (e_T 32 (e_L 32 (0, ei_stor 2 0 33, 0, 0)) (e_L 33 (0, ei_load 0 2 34, 0, 0))))))) (e_T 51 (e_T 41 (e_T 37 (e_T 34 (e_L 34 (2, e_nof, 123, 1)) (e_L 37 (0, ei_load 0 2 38, 0, 0))) (e_T 38 (e_L 38 (2, e_nof, 159, 1)) (e_L 41 (0, ei_load 0 2 42, 0, 0)))) (e_T 45 (e_T 42 (e_L 42 (0, ei_getf eft elay 8 3 45, 0, 0)) (e_L 45 (0, ei_push (0, 11) 47, 0, 0))) (e_T 47 (e_L 47 (0, ei_push (0, 0) 48, 0, 0)) (e_T 48 (e_L 48 (2, e_nof, 21, 3)) (e_L 51 (0, ei_stk ef_pop 52, 0, 0)))))) (e_T 58 (e_T 53 (e_T 52 (e_L 52 (0, ei_load 0 2 53, 0, 0)) (e_L 53 (0, ei_getf eft elay 8 3 56, 0, 0))) (e_T 56 (e_L 56 (0, ei_load 2 0 57, 0, 0)) (e_T 57 (e_L 57 (0, ei_load 0 2 58, 0, 0)) (e_L 58 (0, ei_getf eft elay 8 3 61, 0, 0))))) (e_T 64 (e_T 61 (e_L 61 (0, ei_getf eft elay 1 0 64, 0, 0)) (e_L 64 (2, e_nof, 22, 3))) (e_T 67 (e_L 67 (0, ei_inc 1 1 70, 0, 0)) (e_T 70 (e_L 70 (0, ei_goto 6, 0, 0)) (e_L 73 (1, e_nof, 0, 0))))))))
set_option maxRecDepth 20000 in
set_option maxHeartbeats 4000000 in
theorem te_158_0_ok : ∀ pc, e_EOq eft cls elay eI n_158 pc (te_158_0 pc) :=
  (e_Tok2
  (e_Tok2
  (e_Tok2
  (e_Tok2
  (e_Tok2
  (e_Lok (e_st (I := eI) (er_aload_n (i := 0) (x_dk dn_158_0_ok 0 rfl))))
  (e_Lok (e_ca (I := eI) (q' := n_159) rfl (xr_callV (q' := n_159) (ix := 257) (n := 0) (in_t6 (List.mem_of_getElem? (i := 64) rfl) rfl) good_w (in_t1 (List.mem_of_getElem? (i := 2) rfl) rfl) (in_t6 (List.mem_of_getElem? (i := 61) rfl) rfl) (in_t6 (List.mem_of_getElem? (i := 63) rfl) rfl) (in_s3 (List.mem_of_getElem? (i := 3) rfl)) (by decide +kernel) (by decide +kernel) (by decide +kernel) (x_dk dn_158_0_ok 1 rfl)))))
  (e_Tok2
  (e_Lok (e_st (I := eI) (er_iconst (n := 0) (z := 0) (v := 0) (x_dk dn_158_0_ok 2 rfl) (by decide) (by decide))))
  (e_Lok (e_st (I := eI) (er_istore_n (i := 1) (x_dk dn_158_0_ok 3 rfl) (by decide +kernel))))))
  (e_Tok2
  (e_Tok2
  (e_Lok (e_st (I := eI) (er_iload_n (i := 1) (x_dk dn_158_0_ok 4 rfl))))
  (e_Lok (e_st (I := eI) (er_sipush (n := 4000) (z := 4000) (v := 4000) (x_dk dn_158_0_ok 5 rfl) (by decide) (by decide)))))
  (e_Tok2
  (e_Lok (e_st (I := eI) (er_icmpge (off := 63) (tg := 73) (x_dk dn_158_0_ok 6 rfl) (by decide))))
  (e_Tok2
  (e_Lok (e_st (I := eI) (er_aload_n (i := 0) (x_dk dn_158_0_ok 7 rfl))))
  (e_Lok (e_st (I := eI) (er_getf (ci := 8) (k := 5) (ix := 57) (N := 17) (C := RX8) (T := TX8) rfl in_X8 (by decide) (in_t1 (List.mem_of_getElem? (i := 74) rfl) rfl) (x_dk dn_158_0_ok 8 rfl))))))))
  (e_Tok2
  (e_Tok2
  (e_Tok2
  (e_Lok (e_st (I := eI) (er_bipush (n := 45) (z := 45) (v := 45) (x_dk dn_158_0_ok 9 rfl) (by decide) (by decide))))
  (e_Lok (e_st (I := eI) (er_icmpne (off := 54) (tg := 73) (x_dk dn_158_0_ok 10 rfl) (by decide)))))
  (e_Tok2
  (e_Lok (e_st (I := eI) (er_aload_n (i := 0) (x_dk dn_158_0_ok 11 rfl))))
  (e_Lok (e_st (I := eI) (er_getf (ci := 8) (k := 3) (ix := 21) (N := 17) (C := RX8) (T := TX8) rfl in_X8 (by decide) (in_t1 (List.mem_of_getElem? (i := 71) rfl) rfl) (x_dk dn_158_0_ok 12 rfl))))))
  (e_Tok2
  (e_Tok2
  (e_Lok (e_st (I := eI) (er_bipush (n := 12) (z := 12) (v := 12) (x_dk dn_158_0_ok 13 rfl) (by decide) (by decide))))
  (e_Lok (e_st (I := eI) (er_iconst (n := 0) (z := 0) (v := 0) (x_dk dn_158_0_ok 14 rfl) (by decide) (by decide)))))
  (e_Tok2
  (e_Lok (e_ca (I := eI) (q' := n_21) rfl (xr_callV (q' := n_21) (ix := 198) (n := 2) (in_t6 (List.mem_of_getElem? (i := 47) rfl) rfl) good_w (in_t1 (List.mem_of_getElem? (i := 3) rfl) rfl) (in_t6 (List.mem_of_getElem? (i := 44) rfl) rfl) (in_t6 (List.mem_of_getElem? (i := 45) rfl) rfl) (in_t6 (List.mem_of_getElem? (i := 46) rfl) rfl) (by decide +kernel) (by decide +kernel) (by decide +kernel) (x_dk dn_158_0_ok 15 rfl))))
  (e_Tok2
  (e_Lok (e_st (I := eI) (er_istore_n (i := 2) (x_dk dn_158_0_ok 16 rfl) (by decide +kernel))))
  (e_Lok (e_st (I := eI) (er_aload_n (i := 0) (x_dk dn_158_0_ok 17 rfl)))))))))
  (e_Tok2
  (e_Tok2
  (e_Tok2
  (e_Tok2
  (e_Lok (e_ca (I := eI) (q' := n_123) rfl (xr_callV (q' := n_123) (ix := 54) (n := 0) (in_t5 (List.mem_of_getElem? (i := 80) rfl) rfl) good_w (in_t1 (List.mem_of_getElem? (i := 2) rfl) rfl) (in_t5 (List.mem_of_getElem? (i := 77) rfl) rfl) (in_t5 (List.mem_of_getElem? (i := 79) rfl) rfl) (in_s1 (List.mem_of_getElem? (i := 11) rfl)) (by decide +kernel) (by decide +kernel) (by decide +kernel) (x_dk dn_158_0_ok 18 rfl))))
  (e_Lok (e_st (I := eI) (er_aload_n (i := 0) (x_dk dn_158_0_ok 19 rfl)))))
  (e_Tok2
  (e_Lok (e_ca (I := eI) (q' := n_159) rfl (xr_callV (q' := n_159) (ix := 257) (n := 0) (in_t6 (List.mem_of_getElem? (i := 64) rfl) rfl) good_w (in_t1 (List.mem_of_getElem? (i := 2) rfl) rfl) (in_t6 (List.mem_of_getElem? (i := 61) rfl) rfl) (in_t6 (List.mem_of_getElem? (i := 63) rfl) rfl) (in_s3 (List.mem_of_getElem? (i := 3) rfl)) (by decide +kernel) (by decide +kernel) (by decide +kernel) (x_dk dn_158_0_ok 20 rfl))))
  (e_Lok (e_st (I := eI) (er_aload_n (i := 0) (x_dk dn_158_0_ok 21 rfl))))))
  (e_Tok2
  (e_Tok2
  (e_Lok (e_st (I := eI) (er_getf (ci := 8) (k := 3) (ix := 21) (N := 17) (C := RX8) (T := TX8) rfl in_X8 (by decide) (in_t1 (List.mem_of_getElem? (i := 71) rfl) rfl) (x_dk dn_158_0_ok 22 rfl))))
  (e_Lok (e_st (I := eI) (er_bipush (n := 11) (z := 11) (v := 11) (x_dk dn_158_0_ok 23 rfl) (by decide) (by decide)))))
  (e_Tok2
  (e_Lok (e_st (I := eI) (er_iconst (n := 0) (z := 0) (v := 0) (x_dk dn_158_0_ok 24 rfl) (by decide) (by decide))))
  (e_Tok2
  (e_Lok (e_ca (I := eI) (q' := n_21) rfl (xr_callV (q' := n_21) (ix := 198) (n := 2) (in_t6 (List.mem_of_getElem? (i := 47) rfl) rfl) good_w (in_t1 (List.mem_of_getElem? (i := 3) rfl) rfl) (in_t6 (List.mem_of_getElem? (i := 44) rfl) rfl) (in_t6 (List.mem_of_getElem? (i := 45) rfl) rfl) (in_t6 (List.mem_of_getElem? (i := 46) rfl) rfl) (by decide +kernel) (by decide +kernel) (by decide +kernel) (x_dk dn_158_0_ok 25 rfl))))
  (e_Lok (e_st (I := eI) (er_pop (x_dk dn_158_0_ok 26 rfl))))))))
  (e_Tok2
  (e_Tok2
  (e_Tok2
  (e_Lok (e_st (I := eI) (er_aload_n (i := 0) (x_dk dn_158_0_ok 27 rfl))))
  (e_Lok (e_st (I := eI) (er_getf (ci := 8) (k := 3) (ix := 21) (N := 17) (C := RX8) (T := TX8) rfl in_X8 (by decide) (in_t1 (List.mem_of_getElem? (i := 71) rfl) rfl) (x_dk dn_158_0_ok 28 rfl)))))
  (e_Tok2
  (e_Lok (e_st (I := eI) (er_iload_n (i := 2) (x_dk dn_158_0_ok 29 rfl))))
  (e_Tok2
  (e_Lok (e_st (I := eI) (er_aload_n (i := 0) (x_dk dn_158_0_ok 30 rfl))))
  (e_Lok (e_st (I := eI) (er_getf (ci := 8) (k := 3) (ix := 21) (N := 17) (C := RX8) (T := TX8) rfl in_X8 (by decide) (in_t1 (List.mem_of_getElem? (i := 71) rfl) rfl) (x_dk dn_158_0_ok 31 rfl)))))))
  (e_Tok2
  (e_Tok2
  (e_Lok (e_st (I := eI) (er_getf (ci := 1) (k := 0) (ix := 164) (N := 5) (C := RX1) (T := TX1) rfl in_X1 (by decide) (in_t1 (List.mem_of_getElem? (i := 42) rfl) rfl) (x_dk dn_158_0_ok 32 rfl))))
  (e_Lok (e_ca (I := eI) (q' := n_22) rfl (xr_callV (q' := n_22) (ix := 174) (n := 2) (in_t6 (List.mem_of_getElem? (i := 101) rfl) rfl) good_w (in_t1 (List.mem_of_getElem? (i := 3) rfl) rfl) (in_t6 (List.mem_of_getElem? (i := 98) rfl) rfl) (in_t6 (List.mem_of_getElem? (i := 99) rfl) rfl) (in_t6 (List.mem_of_getElem? (i := 100) rfl) rfl) (by decide +kernel) (by decide +kernel) (by decide +kernel) (x_dk dn_158_0_ok 33 rfl)))))
  (e_Tok2
  (e_Lok (e_st (I := eI) (er_iinc (i := 1) (n := 1) (x_dk dn_158_0_ok 34 rfl) (by decide +kernel) (by decide))))
  (e_Tok2
  (e_Lok (e_st (I := eI) (er_goto (off := (-64)) (tg := 6) (x_dk dn_158_0_ok 35 rfl) (by decide))))
  (e_Lok (e_rt (I := eI) (k := 0) ⟨(x_dk dn_158_0_ok 36 rfl), rfl⟩))))))))
def te_158 : Nat → eE := te_158_0
theorem te_158_ok : ∀ pc, e_EOq eft cls elay eI n_158 pc (te_158 pc) := te_158_0_ok
def dn_159_0 : List (Nat × Instr × Nat) := [(0, .aload_n 0, 1), (1, .invokevirtual 260, 3), (4, .iconst 0, 1), (5, .istore_n 1, 1), (6, .iload_n 1, 1), (7, .sipush 4000, 3), (10, .if_icmp .ge 63, 3), (13, .aload_n 0, 1), (14, .getfield 57, 3), (17, .bipush 46, 2), (19, .if_icmp .ne 54, 3), (22, .aload_n 0, 1), (23, .getfield 21, 3), (26, .bipush 13, 2), (28, .iconst 0, 1), (29, .invokevirtual 198, 3), (32, .istore_n 2, 1), (33, .aload_n 0, 1), (34, .invokevirtual 54, 3), (37, .aload_n 0, 1), (38, .invokevirtual 260, 3), (41, .aload_n 0, 1), (42, .getfield 21, 3), (45, .bipush 11, 2), (47, .iconst 0, 1), (48, .invokevirtual 198, 3), (51, .pop, 1), (52, .aload_n 0, 1), (53, .getfield 21, 3), (56, .iload_n 2, 1), (57, .aload_n 0, 1), (58, .getfield 21, 3), (61, .getfield 164, 3), (64, .invokevirtual 174, 3), (67, .iinc 1 1, 3), (70, .goto (-64), 3), (73, .return_, 1)]
set_option maxRecDepth 20000 in
theorem dn_159_0_ok : dn_159_0.all (fun q => decide (decode prog_10_method_43_code q.1 = .ok (q.2.1, q.2.2))) = true := by decide +kernel
def te_159_0 : Nat → eE := (e_T 33 (e_T 14 (e_T 5 (e_T 1 (e_T 0 (e_L 0 (0, ei_load 0 2 1, 0, 0)) (e_L 1 (2, e_nof, 160, 1))) (e_T 4 (e_L 4 (0, ei_push (0, 0) 5, 0, 0)) (e_L 5 (0, ei_stor 1 0 6, 0, 0)))) (e_T 7 (e_T 6 (e_L 6 (0, ei_load 1 0 7, 0, 0)) (e_L 7 (0, ei_push (0, 4000) 10, 0, 0))) (e_T 10 (e_L 10 (0, ei_if2 3 73 13, 0, 0)) (e_T 13 (e_L 13 (0, ei_load 0 2 14, 0, 0)) (e_L 14 (0, ei_getf eft elay 8 5 17, 0, 0)))))) (e_T 23 (e_T 19 (e_T 17 (e_L 17 (0, ei_push (0, 46) 19, 0, 0)) (e_L 19 (0, ei_if2 1 73 22, 0, 0))) (e_T 22 (e_L 22 (0, ei_load 0 2 23, 0, 0)) (e_L 23 (0, ei_getf eft elay 8 3 26, 0, 0)))) (e_T 28 (e_T 26 (e_L 26 (0, ei_push (0, 13) 28, 0, 0)) (e_L 28 (0, ei_push (0, 0) 29, 0, 0))) (e_T 29 (e_L 29 (2, e_nof, 21, 3)) (e_T 32 (e_L 32 (0, ei_stor 2 0 33, 0, 0)) (e_L 33 (0, ei_load 0 2 34, 0, 0))))))) (e_T 51 (e_T 41 (e_T 37 (e_T 34 (e_L 34 (2, e_nof, 123, 1)) (e_L 37 (0, ei_load 0 2 38, 0, 0))) (e_T 38 (e_L 38 (2, e_nof, 160, 1)) (e_L 41 (0, ei_load 0 2 42, 0, 0)))) (e_T 45 (e_T 42 (e_L 42 (0, ei_getf eft elay 8 3 45, 0, 0)) (e_L 45 (0, ei_push (0, 11) 47, 0, 0))) (e_T 47 (e_L 47 (0, ei_push (0, 0) 48, 0, 0)) (e_T 48 (e_L 48 (2, e_nof, 21, 3)) (e_L 51 (0, ei_stk ef_pop 52, 0, 0)))))) (e_T 58 (e_T 53 (e_T 52 (e_L 52 (0, ei_load 0 2 53, 0, 0)) (e_L 53 (0, ei_getf eft elay 8 3 56, 0, 0))) (e_T 56 (e_L 56 (0, ei_load 2 0 57, 0, 0)) (e_T 57 (e_L 57 (0, ei_load 0 2 58, 0, 0)) (e_L 58 (0, ei_getf eft elay 8 3 61, 0, 0))))) (e_T 64 (e_T 61 (e_L 61 (0, ei_getf eft elay 1 0 64, 0, 0)) (e_L 64 (2, e_nof, 22, 3))) (e_T 67 (e_L 67 (0, ei_inc 1 1 70, 0, 0)) (e_T 70 (e_L 70 (0, ei_goto 6, 0, 0)) (e_L 73 (1, e_nof, 0, 0))))))))
set_option maxRecDepth 20000 in
set_option maxHeartbeats 4000000 in
theorem te_159_0_ok : ∀ pc, e_EOq eft cls elay eI n_159 pc (te_159_0 pc) :=
  (e_Tok2
  (e_Tok2
  (e_Tok2
  (e_Tok2
  (e_Tok2
  (e_Lok (e_st (I := eI) (er_aload_n (i := 0) (x_dk dn_159_0_ok 0 rfl))))
  (e_Lok (e_ca (I := eI) (q' := n_160) rfl (xr_callV (q' := n_160) (ix := 260) (n := 0) (in_t6 (List.mem_of_getElem? (i := 68) rfl) rfl) good_w (in_t1 (List.mem_of_getElem? (i := 2) rfl) rfl) (in_t6 (List.mem_of_getElem? (i := 65) rfl) rfl) (in_t6 (List.mem_of_getElem? (i := 67) rfl) rfl) (in_s3 (List.mem_of_getElem? (i := 4) rfl)) (by decide +kernel) (by decide +kernel) (by decide +kernel) (x_dk dn_159_0_ok 1 rfl)))))
  (e_Tok2
  (e_Lok (e_st (I := eI) (er_iconst (n := 0) (z := 0) (v := 0) (x_dk dn_159_0_ok 2 rfl) (by decide) (by decide))))
  (e_Lok (e_st (I := eI) (er_istore_n (i := 1) (x_dk dn_159_0_ok 3 rfl) (by decide +kernel))))))
  (e_Tok2
  (e_Tok2
  (e_Lok (e_st (I := eI) (er_iload_n (i := 1) (x_dk dn_159_0_ok 4 rfl))))
  (e_Lok (e_st (I := eI) (er_sipush (n := 4000) (z := 4000) (v := 4000) (x_dk dn_159_0_ok 5 rfl) (by decide) (by decide)))))
  (e_Tok2
  (e_Lok (e_st (I := eI) (er_icmpge (off := 63) (tg := 73) (x_dk dn_159_0_ok 6 rfl) (by decide))))
  (e_Tok2
  (e_Lok (e_st (I := eI) (er_aload_n (i := 0) (x_dk dn_159_0_ok 7 rfl))))
  (e_Lok (e_st (I := eI) (er_getf (ci := 8) (k := 5) (ix := 57) (N := 17) (C := RX8) (T := TX8) rfl in_X8 (by decide) (in_t1 (List.mem_of_getElem? (i := 74) rfl) rfl) (x_dk dn_159_0_ok 8 rfl))))))))
  (e_Tok2
  (e_Tok2
  (e_Tok2
  (e_Lok (e_st (I := eI) (er_bipush (n := 46) (z := 46) (v := 46) (x_dk dn_159_0_ok 9 rfl) (by decide) (by decide))))
  (e_Lok (e_st (I := eI) (er_icmpne (off := 54) (tg := 73) (x_dk dn_159_0_ok 10 rfl) (by decide)))))
  (e_Tok2
  (e_Lok (e_st (I := eI) (er_aload_n (i := 0) (x_dk dn_159_0_ok 11 rfl))))
  (e_Lok (e_st (I := eI) (er_getf (ci := 8) (k := 3) (ix := 21) (N := 17) (C := RX8) (T := TX8) rfl in_X8 (by decide) (in_t1 (List.mem_of_getElem? (i := 71) rfl) rfl) (x_dk dn_159_0_ok 12 rfl))))))
  (e_Tok2
  (e_Tok2
  (e_Lok (e_st (I := eI) (er_bipush (n := 13) (z := 13) (v := 13) (x_dk dn_159_0_ok 13 rfl) (by decide) (by decide))))
  (e_Lok (e_st (I := eI) (er_iconst (n := 0) (z := 0) (v := 0) (x_dk dn_159_0_ok 14 rfl) (by decide) (by decide)))))
  (e_Tok2
  (e_Lok (e_ca (I := eI) (q' := n_21) rfl (xr_callV (q' := n_21) (ix := 198) (n := 2) (in_t6 (List.mem_of_getElem? (i := 47) rfl) rfl) good_w (in_t1 (List.mem_of_getElem? (i := 3) rfl) rfl) (in_t6 (List.mem_of_getElem? (i := 44) rfl) rfl) (in_t6 (List.mem_of_getElem? (i := 45) rfl) rfl) (in_t6 (List.mem_of_getElem? (i := 46) rfl) rfl) (by decide +kernel) (by decide +kernel) (by decide +kernel) (x_dk dn_159_0_ok 15 rfl))))
  (e_Tok2
  (e_Lok (e_st (I := eI) (er_istore_n (i := 2) (x_dk dn_159_0_ok 16 rfl) (by decide +kernel))))
  (e_Lok (e_st (I := eI) (er_aload_n (i := 0) (x_dk dn_159_0_ok 17 rfl)))))))))
  (e_Tok2
  (e_Tok2
  (e_Tok2
  (e_Tok2
  (e_Lok (e_ca (I := eI) (q' := n_123) rfl (xr_callV (q' := n_123) (ix := 54) (n := 0) (in_t5 (List.mem_of_getElem? (i := 80) rfl) rfl) good_w (in_t1 (List.mem_of_getElem? (i := 2) rfl) rfl) (in_t5 (List.mem_of_getElem? (i := 77) rfl) rfl) (in_t5 (List.mem_of_getElem? (i := 79) rfl) rfl) (in_s1 (List.mem_of_getElem? (i := 11) rfl)) (by decide +kernel) (by decide +kernel) (by decide +kernel) (x_dk dn_159_0_ok 18 rfl))))
  (e_Lok (e_st (I := eI) (er_aload_n (i := 0) (x_dk dn_159_0_ok 19 rfl)))))
  (e_Tok2
  (e_Lok (e_ca (I := eI) (q' := n_160) rfl (xr_callV (q' := n_160) (ix := 260) (n := 0) (in_t6 (List.mem_of_getElem? (i := 68) rfl) rfl) good_w (in_t1 (List.mem_of_getElem? (i := 2) rfl) rfl) (in_t6 (List.mem_of_getElem? (i := 65) rfl) rfl) (in_t6 (List.mem_of_getElem? (i := 67) rfl) rfl) (in_s3 (List.mem_of_getElem? (i := 4) rfl)) (by decide +kernel) (by decide +kernel) (by decide +kernel) (x_dk dn_159_0_ok 20 rfl))))
  (e_Lok (e_st (I := eI) (er_aload_n (i := 0) (x_dk dn_159_0_ok 21 rfl))))))
  (e_Tok2
  (e_Tok2
  (e_Lok (e_st (I := eI) (er_getf (ci := 8) (k := 3) (ix := 21) (N := 17) (C := RX8) (T := TX8) rfl in_X8 (by decide) (in_t1 (List.mem_of_getElem? (i := 71) rfl) rfl) (x_dk dn_159_0_ok 22 rfl))))
  (e_Lok (e_st (I := eI) (er_bipush (n := 11) (z := 11) (v := 11) (x_dk dn_159_0_ok 23 rfl) (by decide) (by decide)))))
  (e_Tok2
  (e_Lok (e_st (I := eI) (er_iconst (n := 0) (z := 0) (v := 0) (x_dk dn_159_0_ok 24 rfl) (by decide) (by decide))))
  (e_Tok2
  (e_Lok (e_ca (I := eI) (q' := n_21) rfl (xr_callV (q' := n_21) (ix := 198) (n := 2) (in_t6 (List.mem_of_getElem? (i := 47) rfl) rfl) good_w (in_t1 (List.mem_of_getElem? (i := 3) rfl) rfl) (in_t6 (List.mem_of_getElem? (i := 44) rfl) rfl) (in_t6 (List.mem_of_getElem? (i := 45) rfl) rfl) (in_t6 (List.mem_of_getElem? (i := 46) rfl) rfl) (by decide +kernel) (by decide +kernel) (by decide +kernel) (x_dk dn_159_0_ok 25 rfl))))
  (e_Lok (e_st (I := eI) (er_pop (x_dk dn_159_0_ok 26 rfl))))))))
  (e_Tok2
  (e_Tok2
  (e_Tok2
  (e_Lok (e_st (I := eI) (er_aload_n (i := 0) (x_dk dn_159_0_ok 27 rfl))))
  (e_Lok (e_st (I := eI) (er_getf (ci := 8) (k := 3) (ix := 21) (N := 17) (C := RX8) (T := TX8) rfl in_X8 (by decide) (in_t1 (List.mem_of_getElem? (i := 71) rfl) rfl) (x_dk dn_159_0_ok 28 rfl)))))
  (e_Tok2
  (e_Lok (e_st (I := eI) (er_iload_n (i := 2) (x_dk dn_159_0_ok 29 rfl))))
  (e_Tok2
  (e_Lok (e_st (I := eI) (er_aload_n (i := 0) (x_dk dn_159_0_ok 30 rfl))))
  (e_Lok (e_st (I := eI) (er_getf (ci := 8) (k := 3) (ix := 21) (N := 17) (C := RX8) (T := TX8) rfl in_X8 (by decide) (in_t1 (List.mem_of_getElem? (i := 71) rfl) rfl) (x_dk dn_159_0_ok 31 rfl)))))))
  (e_Tok2
  (e_Tok2
  (e_Lok (e_st (I := eI) (er_getf (ci := 1) (k := 0) (ix := 164) (N := 5) (C := RX1) (T := TX1) rfl in_X1 (by decide) (in_t1 (List.mem_of_getElem? (i := 42) rfl) rfl) (x_dk dn_159_0_ok 32 rfl))))
  (e_Lok (e_ca (I := eI) (q' := n_22) rfl (xr_callV (q' := n_22) (ix := 174) (n := 2) (in_t6 (List.mem_of_getElem? (i := 101) rfl) rfl) good_w (in_t1 (List.mem_of_getElem? (i := 3) rfl) rfl) (in_t6 (List.mem_of_getElem? (i := 98) rfl) rfl) (in_t6 (List.mem_of_getElem? (i := 99) rfl) rfl) (in_t6 (List.mem_of_getElem? (i := 100) rfl) rfl) (by decide +kernel) (by decide +kernel) (by decide +kernel) (x_dk dn_159_0_ok 33 rfl)))))
  (e_Tok2
  (e_Lok (e_st (I := eI) (er_iinc (i := 1) (n := 1) (x_dk dn_159_0_ok 34 rfl) (by decide +kernel) (by decide))))
  (e_Tok2
  (e_Lok (e_st (I := eI) (er_goto (off := (-64)) (tg := 6) (x_dk dn_159_0_ok 35 rfl) (by decide))))
  (e_Lok (e_rt (I := eI) (k := 0) ⟨(x_dk dn_159_0_ok 36 rfl), rfl⟩))))))))
def te_159 : Nat → eE := te_159_0
theorem te_159_ok : ∀ pc, e_EOq eft cls elay eI n_159 pc (te_159 pc) := te_159_0_ok
def dn_160_0 : List (Nat × Instr × Nat) := [(0, .aload_n 0, 1), (1, .getfield 57, 3), (4, .bipush 47, 2), (6, .if_icmp .ne 41, 3), (9, .aload_n 0, 1), (10, .invokevirtual 251, 3), (13, .ifCond .ne 4, 3), (16, .return_, 1), (17, .aload_n 0, 1), (18, .invokevirtual 54, 3), (21, .aload_n 0, 1), (22, .invokevirtual 260, 3), (25, .aload_n 0, 1), (26, .dup, 1), (27, .getfield 42, 3), (30, .iconst 1, 1), (31, .isub, 1), (32, .putfield 42, 3), (35, .aload_n 0, 1), (36, .getfield 21, 3), (39, .bipush 10, 2), (41, .iconst 0, 1), (42, .invokevirtual 198, 3), (45, .pop, 1), (46, .return_, 1), (47, .aload_n 0, 1), (48, .invokevirtual 263, 3), (51, .aload_n 0, 1), (52, .invokevirtual 266, 3), (55, .istore_n 1, 1), (56, .iload_n 1, 1), (57, .bipush 49, 2), (59, .if_icmp .ne 4, 3), (62, .return_, 1), (63, .aload_n 0, 1), (64, .invokevirtual 54, 3), (67, .aload_n 0, 1), (68, .invokevirtual 263, 3), (71, .aload_n 0, 1), (72, .getfield 21, 3), (75, .iload_n 1, 1), (76, .iconst 0, 1), (77, .invokevirtual 198, 3), (80, .pop, 1), (81, .return_, 1)]
set_option maxRecDepth 20000 in
theorem dn_160_0_ok : dn_160_0.all (fun q => decide (decode prog_10_method_44_code q.1 = .ok (q.2.1, q.2.2))) = true := by decide +kernel
def te_160_0 : Nat → eE := (e_T 21 (e_T 9 (e_T 1 (e_T 0 (e_L 0 (0, ei_load 0 2 1, 0, 0)) (e_L 1 (0, ei_getf eft elay 8 5 4, 0, 0))) (e_T 4 (e_L 4 (0, ei_push (0, 47) 6, 0, 0)) (e_T 6 (e_L 6 (0, ei_if2 1 47 9, 0, 0)) (e_L 9 (0, ei_load 0 2 10, 0, 0))))) (e_T 16 (e_T 10 (e_L 10 (2, e_nof, 132, 1)) (e_T 13 (e_L 13 (0, ei_if1 1 17 16, 0, 0)) (e_L 16 (1, e_nof, 0, 0)))) (e_T 17 (e_L 17 (0, ei_load 0 2 18, 0, 0)) (e_T 18 (e_L 18 (2, e_nof, 123, 1)) (e_L 21 (0, ei_load 0 2 22, 0, 0)))))) (e_T 30 (e_T 25 (e_T 22 (e_L 22 (2, e_nof, 160, 1)) (e_L 25 (0, ei_load 0 2 26, 0, 0))) (e_T 26 (e_L 26 (0, ei_stk ef_dup 27, 0, 0)) (e_T 27 (e_L 27 (0, ei_getf eft elay 8 11 30, 0, 0)) (e_L 30 (0, ei_push (0, 1) 31, 0, 0))))) (e_T 35 (e_T 31 (e_L 31 (0, ei_bin eF_sub 32, 0, 0)) (e_T 32 (e_L 32 (0, ei_putf eft elay 8 11 0 35, 0, 0)) (e_L 35 (0, ei_load 0 2 36, 0, 0)))) (e_T 36 (e_L 36 (0, ei_getf eft elay 8 3 39, 0, 0)) (e_T 39 (e_L 39 (0, ei_push (0, 10) 41, 0, 0)) (e_L 41 (0, ei_push (0, 0) 42, 0, 0)))))))
set_option maxRecDepth 20000 in
set_option maxHeartbeats 4000000 in
theorem te_160_0_ok : ∀ pc, e_EOq eft cls elay eI n_160 pc (te_160_0 pc) :=
  (e_Tok2
  (e_Tok2
  (e_Tok2
  (e_Tok2
  (e_Lok (e_st (I := eI) (er_aload_n (i := 0) (x_dk dn_160_0_ok 0 rfl))))
  (e_Lok (e_st (I := eI) (er_getf (ci := 8) (k := 5) (ix := 57) (N := 17) (C := RX8) (T := TX8) rfl in_X8 (by decide) (in_t1 (List.mem_of_getElem? (i := 74) rfl) rfl) (x_dk dn_160_0_ok 1 rfl)))))
  (e_Tok2
  (e_Lok (e_st (I := eI) (er_bipush (n := 47) (z := 47) (v := 47) (x_dk dn_160_0_ok 2 rfl) (by decide) (by decide))))
  (e_Tok2
  (e_Lok (e_st (I := eI) (er_icmpne (off := 41) (tg := 47) (x_dk dn_160_0_ok 3 rfl) (by decide))))
  (e_Lok (e_st (I := eI) (er_aload_n (i := 0) (x_dk dn_160_0_ok 4 rfl)))))))
  (e_Tok2
  (e_Tok2
  (e_Lok (e_ca (I := eI) (q' := n_132) rfl (xr_callV (q' := n_132) (ix := 251) (n := 0) (in_t6 (List.mem_of_getElem? (i := 72) rfl) rfl) good_w (in_t1 (List.mem_of_getElem? (i := 2) rfl) rfl) (in_t6 (List.mem_of_getElem? (i := 69) rfl) rfl) (in_t6 (List.mem_of_getElem? (i := 71) rfl) rfl) (in_s3 (List.mem_of_getElem? (i := 5) rfl)) (by decide +kernel) (by decide +kernel) (by decide +kernel) (x_dk dn_160_0_ok 5 rfl))))
  (e_Tok2
  (e_Lok (e_st (I := eI) (er_ifne (off := 4) (tg := 17) (x_dk dn_160_0_ok 6 rfl) (by decide))))
  (e_Lok (e_rt (I := eI) (k := 0) ⟨(x_dk dn_160_0_ok 7 rfl), rfl⟩))))
  (e_Tok2
  (e_Lok (e_st (I := eI) (er_aload_n (i := 0) (x_dk dn_160_0_ok 8 rfl))))
  (e_Tok2
  (e_Lok (e_ca (I := eI) (q' := n_123) rfl (xr_callV (q' := n_123) (ix := 54) (n := 0) (in_t5 (List.mem_of_getElem? (i := 80) rfl) rfl) good_w (in_t1 (List.mem_of_getElem? (i := 2) rfl) rfl) (in_t5 (List.mem_of_getElem? (i := 77) rfl) rfl) (in_t5 (List.mem_of_getElem? (i := 79) rfl) rfl) (in_s1 (List.mem_of_getElem? (i := 11) rfl)) (by decide +kernel) (by decide +kernel) (by decide +kernel) (x_dk dn_160_0_ok 9 rfl))))
  (e_Lok (e_st (I := eI) (er_aload_n (i := 0) (x_dk dn_160_0_ok 10 rfl))))))))
  (e_Tok2
  (e_Tok2
  (e_Tok2
  (e_Lok (e_ca (I := eI) (q' := n_160) rfl (xr_callV (q' := n_160) (ix := 260) (n := 0) (in_t6 (List.mem_of_getElem? (i := 68) rfl) rfl) good_w (in_t1 (List.mem_of_getElem? (i := 2) rfl) rfl) (in_t6 (List.mem_of_getElem? (i := 65) rfl) rfl) (in_t6 (List.mem_of_getElem? (i := 67) rfl) rfl) (in_s3 (List.mem_of_getElem? (i := 4) rfl)) (by decide +kernel) (by decide +kernel) (by decide +kernel) (x_dk dn_160_0_ok 11 rfl))))
  (e_Lok (e_st (I := eI) (er_aload_n (i := 0) (x_dk dn_160_0_ok 12 rfl)))))
  (e_Tok2
  (e_Lok (e_st (I := eI) (er_dup (x_dk dn_160_0_ok 13 rfl))))
  (e_Tok2
  (e_Lok (e_st (I := eI) (er_getf (ci := 8) (k := 11) (ix := 42) (N := 17) (C := RX8) (T := TX8) rfl in_X8 (by decide) (in_t1 (List.mem_of_getElem? (i := 80) rfl) rfl) (x_dk dn_160_0_ok 14 rfl))))
  (e_Lok (e_st (I := eI) (er_iconst (n := 1) (z := 1) (v := 1) (x_dk dn_160_0_ok 15 rfl) (by decide) (by decide)))))))
  (e_Tok2
  (e_Tok2
  (e_Lok (e_st (I := eI) (er_isub (x_dk dn_160_0_ok 16 rfl))))
  (e_Tok2
  (e_Lok (e_st (I := eI) (er_putf (ci := 8) (k := 11) (ix := 42) (N := 17) (fk := 0) (C := RX8) (T := TX8) (ty0 := tyX8) (ty := .int) rfl in_X8 tyX8_ok nmX8 (by decide) (in_t1 (List.mem_of_getElem? (i := 80) rfl) rfl) rfl rfl x_fit_int (x_dk dn_160_0_ok 17 rfl))))
  (e_Lok (e_st (I := eI) (er_aload_n (i := 0) (x_dk dn_160_0_ok 18 rfl))))))
  (e_Tok2
  (e_Lok (e_st (I := eI) (er_getf (ci := 8) (k := 3) (ix := 21) (N := 17) (C := RX8) (T := TX8) rfl in_X8 (by decide) (in_t1 (List.mem_of_getElem? (i := 71) rfl) rfl) (x_dk dn_160_0_ok 19 rfl))))
  (e_Tok2
  (e_Lok (e_st (I := eI) (er_bipush (n := 10) (z := 10) (v := 10) (x_dk dn_160_0_ok 20 rfl) (by decide) (by decide))))
  (e_Lok (e_st (I := eI) (er_iconst (n := 0) (z := 0) (v := 0) (x_dk dn_160_0_ok 21 rfl) (by decide) (by decide)))))))))
def te_160_22 : Nat → eE := (e_T 59 (e_T 48 (e_T 45 (e_T 42 (e_L 42 (2, e_nof, 21, 3)) (e_L 45 (0, ei_stk ef_pop 46, 0, 0))) (e_T 46 (e_L 46 (1, e_nof, 0, 0)) (e_T 47 (e_L 47 (0, ei_load 0 2 48, 0, 0)) (e_L 48 (2, e_nof, 162, 1))))) (e_T 55 (e_T 51 (e_L 51 (0, ei_load 0 2 52, 0, 0)) (e_T 52 (e_L 52 (2, e_nof, 161, 1)) (e_L 55 (0, ei_stor 1 0 56, 0, 0)))) (e_T 56 (e_L 56 (0, ei_load 1 0 57, 0, 0)) (e_T 57 (e_L 57 (0, ei_push (0, 49) 59, 0, 0)) (e_L 59 (0, ei_if2 1 63 62, 0, 0)))))) (e_T 71 (e_T 64 (e_T 62 (e_L 62 (1, e_nof, 0, 0)) (e_T 63 (e_L 63 (0, ei_load 0 2 64, 0, 0)) (e_L 64 (2, e_nof, 123, 1)))) (e_T 67 (e_L 67 (0, ei_load 0 2 68, 0, 0)) (e_T 68 (e_L 68 (2, e_nof, 162, 1)) (e_L 71 (0, ei_load 0 2 72, 0, 0))))) (e_T 76 (e_T 72 (e_L 72 (0, ei_getf eft elay 8 3 75, 0, 0)) (e_T 75 (e_L 75 (0, ei_load 1 0 76, 0, 0)) (e_L 76 (0, ei_push (0, 0) 77, 0, 0)))) (e_T 77 (e_L 77 (2, e_nof, 21, 3)) (e_T 80 (e_L 80 (0, ei_stk ef_pop 81, 0, 0)) (e_L 81 (1, e_nof, 0, 0)))))))
set_option maxRecDepth 20000 in
set_option maxHeartbeats 4000000 in
theorem te_160_22_ok : ∀ pc, e_EOq eft cls elay eI n_160 pc (te_160_22 pc) :=
  (e_Tok2
  (e_Tok2
  (e_Tok2
  (e_Tok2
  (e_Lok (e_ca (I := eI) (q' := n_21) rfl (xr_callV (q' := n_21) (ix := 198) (n := 2) (in_t6 (List.mem_of_getElem? (i := 47) rfl) rfl) good_w (in_t1 (List.mem_of_getElem? (i := 3) rfl) rfl) (in_t6 (List.mem_of_getElem? (i := 44) rfl) rfl) (in_t6 (List.mem_of_getElem? (i := 45) rfl) rfl) (in_t6 (List.mem_of_getElem? (i := 46) rfl) rfl) (by decide +kernel) (by decide +kernel) (by decide +kernel) (x_dk dn_160_0_ok 22 rfl))))
  (e_Lok (e_st (I := eI) (er_pop (x_dk dn_160_0_ok 23 rfl)))))
  (e_Tok2
  (e_Lok (e_rt (I := eI) (k := 0) ⟨(x_dk dn_160_0_ok 24 rfl), rfl⟩))
  (e_Tok2
  (e_Lok (e_st (I := eI) (er_aload_n (i := 0) (x_dk dn_160_0_ok 25 rfl))))
  (e_Lok (e_ca (I := eI) (q' := n_162) rfl (xr_callV (q' := n_162) (ix := 263) (n := 0) (in_t6 (List.mem_of_getElem? (i := 76) rfl) rfl) good_w (in_t1 (List.mem_of_getElem? (i := 2) rfl) rfl) (in_t6 (List.mem_of_getElem? (i := 73) rfl) rfl) (in_t6 (List.mem_of_getElem? (i := 75) rfl) rfl) (in_s3 (List.mem_of_getElem? (i := 6) rfl)) (by decide +kernel) (by decide +kernel) (by decide +kernel) (x_dk dn_160_0_ok 26 rfl)))))))
  (e_Tok2
  (e_Tok2
  (e_Lok (e_st (I := eI) (er_aload_n (i := 0) (x_dk dn_160_0_ok 27 rfl))))
  (e_Tok2
  (e_Lok (e_ca (I := eI) (q' := n_161) rfl (xr_callV (q' := n_161) (ix := 266) (n := 0) (in_t6 (List.mem_of_getElem? (i := 97) rfl) rfl) good_w (in_t1 (List.mem_of_getElem? (i := 2) rfl) rfl) (in_t6 (List.mem_of_getElem? (i := 94) rfl) rfl) (in_t6 (List.mem_of_getElem? (i := 96) rfl) rfl) (in_s3 (List.mem_of_getElem? (i := 11) rfl)) (by decide +kernel) (by decide +kernel) (by decide +kernel) (x_dk dn_160_0_ok 28 rfl))))
  (e_Lok (e_st (I := eI) (er_istore_n (i := 1) (x_dk dn_160_0_ok 29 rfl) (by decide +kernel))))))
  (e_Tok2
  (e_Lok (e_st (I := eI) (er_iload_n (i := 1) (x_dk dn_160_0_ok 30 rfl))))
  (e_Tok2
  (e_Lok (e_st (I := eI) (er_bipush (n := 49) (z := 49) (v := 49) (x_dk dn_160_0_ok 31 rfl) (by decide) (by decide))))
  (e_Lok (e_st (I := eI) (er_icmpne (off := 4) (tg := 63) (x_dk dn_160_0_ok 32 rfl) (by decide))))))))
  (e_Tok2
  (e_Tok2
  (e_Tok2
  (e_Lok (e_rt (I := eI) (k := 0) ⟨(x_dk dn_160_0_ok 33 rfl), rfl⟩))
  (e_Tok2
  (e_Lok (e_st (I := eI) (er_aload_n (i := 0) (x_dk dn_160_0_ok 34 rfl))))
  (e_Lok (e_ca (I := eI) (q' := n_123) rfl (xr_callV (q' := n_123) (ix := 54) (n := 0) (in_t5 (List.mem_of_getElem? (i := 80) rfl) rfl) good_w (in_t1 (List.mem_of_getElem? (i := 2) rfl) rfl) (in_t5 (List.mem_of_getElem? (i := 77) rfl) rfl) (in_t5 (List.mem_of_getElem? (i := 79) rfl) rfl) (in_s1 (List.mem_of_getElem? (i := 11) rfl)) (by decide +kernel) (by decide +kernel) (by decide +kernel) (x_dk dn_160_0_ok 35 rfl))))))
  (e_Tok2
  (e_Lok (e_st (I := eI) (er_aload_n (i := 0) (x_dk dn_160_0_ok 36 rfl))))
  (e_Tok2
  (e_Lok (e_ca (I := eI) (q' := n_162) rfl (xr_callV (q' := n_162) (ix := 263) (n := 0) (in_t6 (List.mem_of_getElem? (i := 76) rfl) rfl) good_w (in_t1 (List.mem_of_getElem? (i := 2) rfl) rfl) (in_t6 (List.mem_of_getElem? (i := 73) rfl) rfl) (in_t6 (List.mem_of_getElem? (i := 75) rfl) rfl) (in_s3 (List.mem_of_getElem? (i := 6) rfl)) (by decide +kernel) (by decide +kernel) (by decide +kernel) (x_dk dn_160_0_ok 37 rfl))))
  (e_Lok (e_st (I := eI) (er_aload_n (i := 0) (x_dk dn_160_0_ok 38 rfl)))))))
  (e_Tok2
  (e_Tok2
  (e_Lok (e_st (I := eI) (er_getf (ci := 8) (k := 3) (ix := 21) (N := 17) (C := RX8) (T := TX8) rfl in_X8 (by decide) (in_t1 (List.mem_of_getElem? (i := 71) rfl) rfl) (x_dk dn_160_0_ok 39 rfl))))
  (e_Tok2
  (e_Lok (e_st (I := eI) (er_iload_n (i := 1) (x_dk dn_160_0_ok 40 rfl))))
  (e_Lok (e_st (I := eI) (er_iconst (n := 0) (z := 0) (v := 0) (x_dk dn_160_0_ok 41 rfl) (by decide) (by decide))))))
  (e_Tok2
  (e_Lok (e_ca (I := eI) (q' := n_21) rfl (xr_callV (q' := n_21) (ix := 198) (n := 2) (in_t6 (List.mem_of_getElem? (i := 47) rfl) rfl) good_w (in_t1 (List.mem_of_getElem? (i := 3) rfl) rfl) (in_t6 (List.mem_of_getElem? (i := 44) rfl) rfl) (in_t6 (List.mem_of_getElem? (i := 45) rfl) rfl) (in_t6 (List.mem_of_getElem? (i := 46) rfl) rfl) (by decide +kernel) (by decide +kernel) (by decide +kernel) (x_dk dn_160_0_ok 42 rfl))))
  (e_Tok2
  (e_Lok (e_st (I := eI) (er_pop (x_dk dn_160_0_ok 43 rfl))))
  (e_Lok (e_rt (I := eI) (k := 0) ⟨(x_dk dn_160_0_ok 44 rfl), rfl⟩)))))))
def te_160 : Nat → eE := (e_T 41 te_160_0 te_160_22)
theorem te_160_ok : ∀ pc, e_EOq eft cls elay eI n_160 pc (te_160 pc) := (e_Tok2 (te_160_0_ok) (te_160_22_ok))
def dn_161_0 : List (Nat × Instr × Nat) := [(0, .aload_n 0, 1), (1, .getfield 57, 3), (4, .tableswitch 78 5 15 #[63, 69, 75, 78, 78, 78, 78, 78, 60, 66, 72], 60), (64, .bipush 19, 2), (66, .ireturn, 1), (67, .bipush 20, 2), (69, .ireturn, 1), (70, .bipush 21, 2), (72, .ireturn, 1), (73, .bipush 22, 2), (75, .ireturn, 1), (76, .bipush 23, 2), (78, .ireturn, 1), (79, .bipush 24, 2), (81, .ireturn, 1), (82, .bipush 49, 2), (84, .ireturn, 1)]
set_option maxRecDepth 20000 in
theorem dn_161_0_ok : dn_161_0.all (fun q => decide (decode prog_10_method_45_code q.1 = .ok (q.2.1, q.2.2))) = true := by decide +kernel
def te_161_0 : Nat → eE := (e_T 70 (e_T 64 (e_T 1 (e_T 0 (e_L 0 (0, ei_load 0 2 1, 0, 0)) (e_L 1 (0, ei_getf eft elay 8 5 4, 0, 0))) (e_T 4 (e_L 4 (0, ei_sw [((-2147483648), 4, 82), (5, 5, 67), (6, 6, 73), (7, 7, 79), (8, 8, 82), (9, 9, 82), (10, 10, 82), (11, 11, 82), (12, 12, 82), (13, 13, 64), (14, 14, 70), (15, 15, 76), (16, 2147483647, 82)], 0, 0)) (e_L 64 (0, ei_push (0, 19) 66, 0, 0)))) (e_T 67 (e_T 66 (e_L 66 (1, e_nof, 1, 0)) (e_L 67 (0, ei_push (0, 20) 69, 0, 0))) (e_T 69 (e_L 69 (1, e_nof, 1, 0)) (e_L 70 (0, ei_push (0, 21) 72, 0, 0))))) (e_T 76 (e_T 73 (e_T 72 (e_L 72 (1, e_nof, 1, 0)) (e_L 73 (0, ei_push (0, 22) 75, 0, 0))) (e_T 75 (e_L 75 (1, e_nof, 1, 0)) (e_L 76 (0, ei_push (0, 23) 78, 0, 0)))) (e_T 79 (e_T 78 (e_L 78 (1, e_nof, 1, 0)) (e_L 79 (0, ei_push (0, 24) 81, 0, 0))) (e_T 81 (e_L 81 (1, e_nof, 1, 0)) (e_T 82 (e_L 82 (0, ei_push (0, 49) 84, 0, 0)) (e_L 84 (1, e_nof, 1, 0)))))))
set_option maxRecDepth 20000 in
set_option maxHeartbeats 4000000 in
theorem te_161_0_ok : ∀ pc, e_EOq eft cls elay eI n_161 pc (te_161_0 pc) :=
  (e_Tok2
  (e_Tok2
  (e_Tok2
  (e_Tok2
  (e_Lok (e_st (I := eI) (er_aload_n (i := 0) (x_dk dn_161_0_ok 0 rfl))))
  (e_Lok (e_st (I := eI) (er_getf (ci := 8) (k := 5) (ix := 57) (N := 17) (C := RX8) (T := TX8) rfl in_X8 (by decide) (in_t1 (List.mem_of_getElem? (i := 74) rfl) rfl) (x_dk dn_161_0_ok 1 rfl)))))
  (e_Tok2
  (e_Lok (e_st (I := eI) (er_tsw (dflt := 78) (lo := 5) (hi := 15) (offs := #[63, 69, 75, 78, 78, 78, 78, 78, 60, 66, 72]) (len := 60) (n := 11) (x_dk dn_161_0_ok 2 rfl) (by decide) (by decide +kernel))))
  (e_Lok (e_st (I := eI) (er_bipush (n := 19) (z := 19) (v := 19) (x_dk dn_161_0_ok 3 rfl) (by decide) (by decide))))))
  (e_Tok2
  (e_Tok2
  (e_Lok (e_rt (I := eI) (k := 1) ⟨(x_dk dn_161_0_ok 4 rfl), rfl⟩))
  (e_Lok (e_st (I := eI) (er_bipush (n := 20) (z := 20) (v := 20) (x_dk dn_161_0_ok 5 rfl) (by decide) (by decide)))))
  (e_Tok2
  (e_Lok (e_rt (I := eI) (k := 1) ⟨(x_dk dn_161_0_ok 6 rfl), rfl⟩))
  (e_Lok (e_st (I := eI) (er_bipush (n := 21) (z := 21) (v := 21) (x_dk dn_161_0_ok 7 rfl) (by decide) (by decide)))))))
  (e_Tok2
  (e_Tok2
  (e_Tok2
  (e_Lok (e_rt (I := eI) (k := 1) ⟨(x_dk dn_161_0_ok 8 rfl), rfl⟩))
  (e_Lok (e_st (I := eI) (er_bipush (n := 22) (z := 22) (v := 22) (x_dk dn_161_0_ok 9 rfl) (by decide) (by decide)))))
  (e_Tok2
  (e_Lok (e_rt (I := eI) (k := 1) ⟨(x_dk dn_161_0_ok 10 rfl), rfl⟩))
  (e_Lok (e_st (I := eI) (er_bipush (n := 23) (z := 23) (v := 23) (x_dk dn_161_0_ok 11 rfl) (by decide) (by decide))))))
  (e_Tok2
  (e_Tok2
  (e_Lok (e_rt (I := eI) (k := 1) ⟨(x_dk dn_161_0_ok 12 rfl), rfl⟩))
  (e_Lok (e_st (I := eI) (er_bipush (n := 24) (z := 24) (v := 24) (x_dk dn_161_0_ok 13 rfl) (by decide) (by decide)))))
  (e_Tok2
  (e_Lok (e_rt (I := eI) (k := 1) ⟨(x_dk dn_161_0_ok 14 rfl), rfl⟩))
  (e_Tok2
  (e_Lok (e_st (I := eI) (er_bipush (n := 49) (z := 49) (v := 49) (x_dk dn_161_0_ok 15 rfl) (by decide) (by decide))))
  (e_Lok (e_rt (I := eI) (k := 1) ⟨(x_dk dn_161_0_ok 16 rfl), rfl⟩)))))))
def te_161 : Nat → eE := te_161_0
theorem te_161_ok : ∀ pc, e_EOq eft cls elay eI n_161 pc (te_161 pc) := te_161_0_ok
def dn_162_0 : List (Nat × Instr × Nat) := [(0, .aload_n 0, 1), (1, .invokevirtual 269, 3), (4, .iconst 0, 1), (5, .istore_n 1, 1), (6, .iload_n 1, 1), (7, .sipush 4000, 3), (10, .if_icmp .ge 58, 3), (13, .aload_n 0, 1), (14, .getfield 57, 3), (17, .bipush 8, 2), (19, .bipush 9, 2), (21, .invokestatic 201, 3), (24, .ifCond .eq 44, 3), (27, .aload_n 0, 1), (28, .getfield 57, 3), (31, .bipush 8, 2), (33, .if_icmp .ne 8, 3), (36, .bipush 14, 2), (38, .goto 5, 3), (41, .bipush 15, 2), (43, .istore_n 2, 1), (44, .aload_n 0, 1), (45, .invokevirtual 54, 3), (48, .aload_n 0, 1), (49, .invokevirtual 269, 3), (52, .aload_n 0, 1), (53, .getfield 21, 3), (56, .iload_n 2, 1), (57, .iconst 0, 1), (58, .invokevirtual 198, 3), (61, .pop, 1), (62, .iinc 1 1, 3), (65, .goto (-59), 3), (68, .return_, 1)]
set_option maxRecDepth 20000 in
theorem dn_162_0_ok : dn_162_0.all (fun q => decide (decode prog_10_method_46_code q.1 = .ok (q.2.1, q.2.2))) = true := by decide +kernel
def te_162_0 : Nat → eE := (e_T 33 (e_T 13 (e_T 5 (e_T 1 (e_T 0 (e_L 0 (0, ei_load 0 2 1, 0, 0)) (e_L 1 (2, e_nof, 163, 1))) (e_T 4 (e_L 4 (0, ei_push (0, 0) 5, 0, 0)) (e_L 5 (0, ei_stor 1 0 6, 0, 0)))) (e_T 7 (e_T 6 (e_L 6 (0, ei_load 1 0 7, 0, 0)) (e_L 7 (0, ei_push (0, 4000) 10, 0, 0))) (e_T 10 (e_L 10 (0, ei_if2 3 68 13, 0, 0)) (e_L 13 (0, ei_load 0 2 14, 0, 0))))) (e_T 21 (e_T 17 (e_T 14 (e_L 14 (0, ei_getf eft elay 8 5 17, 0, 0)) (e_L 17 (0, ei_push (0, 8) 19, 0, 0))) (e_T 19 (e_L 19 (0, ei_push (0, 9) 21, 0, 0)) (e_L 21 (2, e_nof, 242, 3)))) (e_T 27 (e_T 24 (e_L 24 (0, ei_if1 0 68 27, 0, 0)) (e_L 27 (0, ei_load 0 2 28, 0, 0))) (e_T 28 (e_L 28 (0, ei_getf eft elay 8 5 31, 0, 0)) (e_T 31 (e_L 31 (0, ei_push (0, 8) 33, 0, 0)) (e_L 33 (0, ei_if2 1 41 36, 0, 0))))))) (e_T 49 (e_T 43 (e_T 38 (e_T 36 (e_L 36 (0, ei_push (0, 14) 38, 0, 0)) (e_L 38 (0, ei_goto 43, 0, 0))) (e_T 41 (e_L 41 (0, ei_push (0, 15) 43, 0, 0)) (e_L 43 (0, ei_stor 2 0 44, 0, 0)))) (e_T 45 (e_T 44 (e_L 44 (0, ei_load 0 2 45, 0, 0)) (e_L 45 (2, e_nof, 123, 1))) (e_T 48 (e_L 48 (0, ei_load 0 2 49, 0, 0)) (e_L 49 (2, e_nof, 163, 1))))) (e_T 57 (e_T 53 (e_T 52 (e_L 52 (0, ei_load 0 2 53, 0, 0)) (e_L 53 (0, ei_getf eft elay 8 3 56, 0, 0))) (e_T 56 (e_L 56 (0, ei_load 2 0 57, 0, 0)) (e_L 57 (0, ei_push (0, 0) 58, 0, 0)))) (e_T 61 (e_T 58 (e_L 58 (2, e_nof, 21, 3)) (e_L 61 (0, ei_stk ef_pop 62, 0, 0))) (e_T 62 (e_L 62 (0, ei_inc 1 1 65, 0, 0)) (e_T 65 (e_L 65 (0, ei_goto 6, 0, 0)) (e_L 68 (1, e_nof, 0, 0))))))))
set_option maxRecDepth 20000 in
set_option maxHeartbeats 4000000 in
theorem te_162_0_ok : ∀ pc, e_EOq eft cls elay eI n_162 pc (te_162_0 pc) :=
  (e_Tok2
  (e_Tok2
  (e_Tok2
  (e_Tok2
  (e_Tok2
  (e_Lok (e_st (I := eI) (er_aload_n (i := 0) (x_dk dn_162_0_ok 0 rfl))))
  (e_Lok (e_ca (I := eI) (q' := n_163) rfl (xr_callV (q' := n_163) (ix := 269) (n := 0) (in_t6 (List.mem_of_getElem? (i := 80) rfl) rfl) good_w (in_t1 (List.mem_of_getElem? (i := 2) rfl) rfl) (in_t6 (List.mem_of_getElem? (i := 77) rfl) rfl) (in_t6 (List.mem_of_getElem? (i := 79) rfl) rfl) (in_s3 (List.mem_of_getElem? (i := 7) rfl)) (by decide +kernel) (by decide +kernel) (by decide +kernel) (x_dk dn_162_0_ok 1 rfl)))))
  (e_Tok2
  (e_Lok (e_st (I := eI) (er_iconst (n := 0) (z := 0) (v := 0) (x_dk dn_162_0_ok 2 rfl) (by decide) (by decide))))
  (e_Lok (e_st (I := eI) (er_istore_n (i := 1) (x_dk dn_162_0_ok 3 rfl) (by decide +kernel))))))
  (e_Tok2
  (e_Tok2
  (e_Lok (e_st (I := eI) (er_iload_n (i := 1) (x_dk dn_162_0_ok 4 rfl))))
  (e_Lok (e_st (I := eI) (er_sipush (n := 4000) (z := 4000) (v := 4000) (x_dk dn_162_0_ok 5 rfl) (by decide) (by decide)))))
  (e_Tok2
  (e_Lok (e_st (I := eI) (er_icmpge (off := 58) (tg := 68) (x_dk dn_162_0_ok 6 rfl) (by decide))))
  (e_Lok (e_st (I := eI) (er_aload_n (i := 0) (x_dk dn_162_0_ok 7 rfl)))))))
  (e_Tok2
  (e_Tok2
  (e_Tok2
  (e_Lok (e_st (I := eI) (er_getf (ci := 8) (k := 5) (ix := 57) (N := 17) (C := RX8) (T := TX8) rfl in_X8 (by decide) (in_t1 (List.mem_of_getElem? (i := 74) rfl) rfl) (x_dk dn_162_0_ok 8 rfl))))
  (e_Lok (e_st (I := eI) (er_bipush (n := 8) (z := 8) (v := 8) (x_dk dn_162_0_ok 9 rfl) (by decide) (by decide)))))
  (e_Tok2
  (e_Lok (e_st (I := eI) (er_bipush (n := 9) (z := 9) (v := 9) (x_dk dn_162_0_ok 10 rfl) (by decide) (by decide))))
  (e_Lok (e_ca (I := eI) (q' := n_242) rfl (xr_callSN (q' := n_242) (ix := 201) (n := 3) (host := "RobotCellHouse") (in_t4 (List.mem_of_getElem? (i := 168) rfl) rfl) good_w (in_t1 (List.mem_of_getElem? (i := 1) rfl) rfl) (List.mem_of_getElem? (i := 11) rfl) (in_t4 (List.mem_of_getElem? (i := 167) rfl) rfl) (by decide +kernel) (by decide +kernel) (x_dk dn_162_0_ok 11 rfl))))))
  (e_Tok2
  (e_Tok2
  (e_Lok (e_st (I := eI) (er_ifeq (off := 44) (tg := 68) (x_dk dn_162_0_ok 12 rfl) (by decide))))
  (e_Lok (e_st (I := eI) (er_aload_n (i := 0) (x_dk dn_162_0_ok 13 rfl)))))
  (e_Tok2
  (e_Lok (e_st (I := eI) (er_getf (ci := 8) (k := 5) (ix := 57) (N := 17) (C := RX8) (T := TX8) rfl in_X8 (by decide) (in_t1 (List.mem_of_getElem? (i := 74) rfl) rfl) (x_dk dn_162_0_ok 14 rfl))))
  (e_Tok2
  (e_Lok (e_st (I := eI) (er_bipush (n := 8) (z := 8) (v := 8) (x_dk dn_162_0_ok 15 rfl) (by decide) (by decide))))
  (e_Lok (e_st (I := eI) (er_icmpne (off := 8) (tg := 41) (x_dk dn_162_0_ok 16 rfl) (by decide)))))))))
  (e_Tok2
  (e_Tok2
  (e_Tok2
  (e_Tok2
  (e_Lok (e_st (I := eI) (er_bipush (n := 14) (z := 14) (v := 14) (x_dk dn_162_0_ok 17 rfl) (by decide) (by decide))))
  (e_Lok (e_st (I := eI) (er_goto (off := 5) (tg := 43) (x_dk dn_162_0_ok 18 rfl) (by decide)))))
  (e_Tok2
  (e_Lok (e_st (I := eI) (er_bipush (n := 15) (z := 15) (v := 15) (x_dk dn_162_0_ok 19 rfl) (by decide) (by decide))))
  (e_Lok (e_st (I := eI) (er_istore_n (i := 2) (x_dk dn_162_0_ok 20 rfl) (by decide +kernel))))))
  (e_Tok2
  (e_Tok2
  (e_Lok (e_st (I := eI) (er_aload_n (i := 0) (x_dk dn_162_0_ok 21 rfl))))
  (e_Lok (e_ca (I := eI) (q' := n_123) rfl (xr_callV (q' := n_123) (ix := 54) (n := 0) (in_t5 (List.mem_of_getElem? (i := 80) rfl) rfl) good_w (in_t1 (List.mem_of_getElem? (i := 2) rfl) rfl) (in_t5 (List.mem_of_getElem? (i := 77) rfl) rfl) (in_t5 (List.mem_of_getElem? (i := 79) rfl) rfl) (in_s1 (List.mem_of_getElem? (i := 11) rfl)) (by decide +kernel) (by decide +kernel) (by decide +kernel) (x_dk dn_162_0_ok 22 rfl)))))
  (e_Tok2
  (e_Lok (e_st (I := eI) (er_aload_n (i := 0) (x_dk dn_162_0_ok 23 rfl))))
  (e_Lok (e_ca (I := eI) (q' := n_163) rfl (xr_callV (q' := n_163) (ix := 269) (n := 0) (in_t6 (List.mem_of_getElem? (i := 80) rfl) rfl) good_w (in_t1 (List.mem_of_getElem? (i := 2) rfl) rfl) (in_t6 (List.mem_of_getElem? (i := 77) rfl) rfl) (in_t6 (List.mem_of_getElem? (i := 79) rfl) rfl) (in_s3 (List.mem_of_getElem? (i := 7) rfl)) (by decide +kernel) (by decide +kernel) (by decide +kernel) (x_dk dn_162_0_ok 24 rfl)))))))
  (e_Tok2
  (e_Tok2
  (e_Tok2
  (e_Lok (e_st (I := eI) (er_aload_n (i := 0) (x_dk dn_162_0_ok 25 rfl))))
  (e_Lok (e_st (I := eI) (er_getf (ci := 8) (k := 3) (ix := 21) (N := 17) (C := RX8) (T := TX8) rfl in_X8 (by decide) (in_t1 (List.mem_of_getElem? (i := 71) rfl) rfl) (x_dk dn_162_0_ok 26 rfl)))))
  (e_Tok2
  (e_Lok (e_st (I := eI) (er_iload_n (i := 2) (x_dk dn_162_0_ok 27 rfl))))
  (e_Lok (e_st (I := eI) (er_iconst (n := 0) (z := 0) (v := 0) (x_dk dn_162_0_ok 28 rfl) (by decide) (by decide))))))
  (e_Tok2
  (e_Tok2
  (e_Lok (e_ca (I := eI) (q' := n_21) rfl (xr_callV (q' := n_21) (ix := 198) (n := 2) (in_t6 (List.mem_of_getElem? (i := 47) rfl) rfl) good_w (in_t1 (List.mem_of_getElem? (i := 3) rfl) rfl) (in_t6 (List.mem_of_getElem? (i := 44) rfl) rfl) (in_t6 (List.mem_of_getElem? (i := 45) rfl) rfl) (in_t6 (List.mem_of_getElem? (i := 46) rfl) rfl) (by decide +kernel) (by decide +kernel) (by decide +kernel) (x_dk dn_162_0_ok 29 rfl))))
  (e_Lok (e_st (I := eI) (er_pop (x_dk dn_162_0_ok 30 rfl)))))
  (e_Tok2
  (e_Lok (e_st (I := eI) (er_iinc (i := 1) (n := 1) (x_dk dn_162_0_ok 31 rfl) (by decide +kernel) (by decide))))
  (e_Tok2
  (e_Lok (e_st (I := eI) (er_goto (off := (-59)) (tg := 6) (x_dk dn_162_0_ok 32 rfl) (by decide))))
  (e_Lok (e_rt (I := eI) (k := 0) ⟨(x_dk dn_162_0_ok 33 rfl), rfl⟩))))))))
def te_162 : Nat → eE := te_162_0
theorem te_162_ok : ∀ pc, e_EOq eft cls elay eI n_162 pc (te_162 pc) := te_162_0_ok
def dn_163_0 : List (Nat × Instr × Nat) := [(0, .aload_n 0, 1), (1, .invokevirtual 272, 3), (4, .iconst 0, 1), (5, .istore_n 1, 1), (6, .iload_n 1, 1), (7, .sipush 4000, 3), (10, .if_icmp .ge 52, 3), (13, .aload_n 0, 1), (14, .getfield 57, 3), (17, .bipush 10, 2), (19, .bipush 12, 2), (21, .invokestatic 201, 3), (24, .ifCond .eq 38, 3), (27, .bipush 16, 2), (29, .aload_n 0, 1), (30, .getfield 57, 3), (33, .iadd, 1), (34, .bipush 10, 2), (36, .isub, 1), (37, .istore_n 2, 1), (38, .aload_n 0, 1), (39, .invokevirtual 54, 3), (42, .aload_n 0, 1), (43, .invokevirtual 272, 3), (46, .aload_n 0, 1), (47, .getfield 21, 3), (50, .iload_n 2, 1), (51, .iconst 0, 1), (52, .invokevirtual 198, 3), (55, .pop, 1), (56, .iinc 1 1, 3), (59, .goto (-53), 3), (62, .return_, 1)]
set_option maxRecDepth 20000 in
theorem dn_163_0_ok : dn_163_0.all (fun q => decide (decode prog_10_method_47_code q.1 = .ok (q.2.1, q.2.2))) = true := by decide +kernel
def te_163_0 : Nat → eE := (e_T 30 (e_T 13 (e_T 5 (e_T 1 (e_T 0 (e_L 0 (0, ei_load 0 2 1, 0, 0)) (e_L 1 (2, e_nof, 164, 1))) (e_T 4 (e_L 4 (0, ei_push (0, 0) 5, 0, 0)) (e_L 5 (0, ei_stor 1 0 6, 0, 0)))) (e_T 7 (e_T 6 (e_L 6 (0, ei_load 1 0 7, 0, 0)) (e_L 7 (0, ei_push (0, 4000) 10, 0, 0))) (e_T 10 (e_L 10 (0, ei_if2 3 62 13, 0, 0)) (e_L 13 (0, ei_load 0 2 14, 0, 0))))) (e_T 21 (e_T 17 (e_T 14 (e_L 14 (0, ei_getf eft elay 8 5 17, 0, 0)) (e_L 17 (0, ei_push (0, 10) 19, 0, 0))) (e_T 19 (e_L 19 (0, ei_push (0, 12) 21, 0, 0)) (e_L 21 (2, e_nof, 242, 3)))) (e_T 27 (e_T 24 (e_L 24 (0, ei_if1 0 62 27, 0, 0)) (e_L 27 (0, ei_push (0, 16) 29, 0, 0))) (e_T 29 (e_L 29 (0, ei_load 0 2 30, 0, 0)) (e_L 30 (0, ei_getf eft elay 8 5 33, 0, 0)))))) (e_T 43 (e_T 37 (e_T 34 (e_T 33 (e_L 33 (0, ei_bin eF_add 34, 0, 0)) (e_L 34 (0, ei_push (0, 10) 36, 0, 0))) (e_T 36 (e_L 36 (0, ei_bin eF_sub 37, 0, 0)) (e_L 37 (0, ei_stor 2 0 38, 0, 0)))) (e_T 39 (e_T 38 (e_L 38 (0, ei_load 0 2 39, 0, 0)) (e_L 39 (2, e_nof, 123, 1))) (e_T 42 (e_L 42 (0, ei_load 0 2 43, 0, 0)) (e_L 43 (2, e_nof, 164, 1))))) (e_T 51 (e_T 47 (e_T 46 (e_L 46 (0, ei_load 0 2 47, 0, 0)) (e_L 47 (0, ei_getf eft elay 8 3 50, 0, 0))) (e_T 50 (e_L 50 (0, ei_load 2 0 51, 0, 0)) (e_L 51 (0, ei_push (0, 0) 52, 0, 0)))) (e_T 55 (e_T 52 (e_L 52 (2, e_nof, 21, 3)) (e_L 55 (0, ei_stk ef_pop 56, 0, 0))) (e_T 56 (e_L 56 (0, ei_inc 1 1 59, 0, 0)) (e_T 59 (e_L 59 (0, ei_goto 6, 0, 0)) (e_L 62 (1, e_nof, 0, 0))))))))
set_option maxRecDepth 20000 in
set_option maxHeartbeats 4000000 in
theorem te_163_0_ok : ∀ pc, e_EOq eft cls elay eI n_163 pc (te_163_0 pc) :=
  (e_Tok2
  (e_Tok2
  (e_Tok2
  (e_Tok2
  (e_Tok2
  (e_Lok (e_st (I := eI) (er_aload_n (i := 0) (x_dk dn_163_0_ok 0 rfl))))
  (e_Lok (e_ca (I := eI) (q' := n_164) rfl (xr_callV (q' := n_164) (ix := 272) (n := 0) (in_t6 (List.mem_of_getElem? (i := 84) rfl) rfl) good_w (in_t1 (List.mem_of_getElem? (i := 2) rfl) rfl) (in_t6 (List.mem_of_getElem? (i := 81) rfl) rfl) (in_t6 (List.mem_of_getElem? (i := 83) rfl) rfl) (in_s3 (List.mem_of_getElem? (i := 8) rfl)) (by decide +kernel) (by decide +kernel) (by decide +kernel) (x_dk dn_163_0_ok 1 rfl)))))
  (e_Tok2
  (e_Lok (e_st (I := eI) (er_iconst (n := 0) (z := 0) (v := 0) (x_dk dn_163_0_ok 2 rfl) (by decide) (by decide))))
  (e_Lok (e_st (I := eI) (er_istore_n (i := 1) (x_dk dn_163_0_ok 3 rfl) (by decide +kernel))))))
  (e_Tok2
  (e_Tok2
  (e_Lok (e_st (I := eI) (er_iload_n (i := 1) (x_dk dn_163_0_ok 4 rfl))))
  (e_Lok (e_st (I := eI) (er_sipush (n := 4000) (z := 4000) (v := 4000) (x_dk dn_163_0_ok 5 rfl) (by decide) (by decide)))))
  (e_Tok2
  (e_Lok (e_st (I := eI) (er_icmpge (off := 52) (tg := 62) (x_dk dn_163_0_ok 6 rfl) (by decide))))
  (e_Lok (e_st (I := eI) (er_aload_n (i := 0) (x_dk dn_163_0_ok 7 rfl)))))))
  (e_Tok2
  (e_Tok2
  (e_Tok2
  (e_Lok (e_st (I := eI) (er_getf (ci := 8) (k := 5) (ix := 57) (N := 17) (C := RX8) (T := TX8) rfl in_X8 (by decide) (in_t1 (List.mem_of_getElem? (i := 74) rfl) rfl) (x_dk dn_163_0_ok 8 rfl))))
  (e_Lok (e_st (I := eI) (er_bipush (n := 10) (z := 10) (v := 10) (x_dk dn_163_0_ok 9 rfl) (by decide) (by decide)))))
  (e_Tok2
  (e_Lok (e_st (I := eI) (er_bipush (n := 12) (z := 12) (v := 12) (x_dk dn_163_0_ok 10 rfl) (by decide) (by decide))))
  (e_Lok (e_ca (I := eI) (q' := n_242) rfl (xr_callSN (q' := n_242) (ix := 201) (n := 3) (host := "RobotCellHouse") (in_t4 (List.mem_of_getElem? (i := 168) rfl) rfl) good_w (in_t1 (List.mem_of_getElem? (i := 1) rfl) rfl) (List.mem_of_getElem? (i := 11) rfl) (in_t4 (List.mem_of_getElem? (i := 167) rfl) rfl) (by decide +kernel) (by decide +kernel) (x_dk dn_163_0_ok 11 rfl))))))
  (e_Tok2
  (e_Tok2
  (e_Lok (e_st (I := eI) (er_ifeq (off := 38) (tg := 62) (x_dk dn_163_0_ok 12 rfl) (by decide))))
  (e_Lok (e_st (I := eI) (er_bipush (n := 16) (z := 16) (v := 16) (x_dk dn_163_0_ok 13 rfl) (by decide) (by decide)))))
  (e_Tok2
  (e_Lok (e_st (I := eI) (er_aload_n (i := 0) (x_dk dn_163_0_ok 14 rfl))))
  (e_Lok (e_st (I := eI) (er_getf (ci := 8) (k := 5) (ix := 57) (N := 17) (C := RX8) (T := TX8) rfl in_X8 (by decide) (in_t1 (List.mem_of_getElem? (i := 74) rfl) rfl) (x_dk dn_163_0_ok 15 rfl))))))))
  (e_Tok2
  (e_Tok2
  (e_Tok2
  (e_Tok2
  (e_Lok (e_st (I := eI) (er_iadd (x_dk dn_163_0_ok 16 rfl))))
  (e_Lok (e_st (I := eI) (er_bipush (n := 10) (z := 10) (v := 10) (x_dk dn_163_0_ok 17 rfl) (by decide) (by decide)))))
  (e_Tok2
  (e_Lok (e_st (I := eI) (er_isub (x_dk dn_163_0_ok 18 rfl))))
  (e_Lok (e_st (I := eI) (er_istore_n (i := 2) (x_dk dn_163_0_ok 19 rfl) (by decide +kernel))))))
  (e_Tok2
  (e_Tok2
  (e_Lok (e_st (I := eI) (er_aload_n (i := 0) (x_dk dn_163_0_ok 20 rfl))))
  (e_Lok (e_ca (I := eI) (q' := n_123) rfl (xr_callV (q' := n_123) (ix := 54) (n := 0) (in_t5 (List.mem_of_getElem? (i := 80) rfl) rfl) good_w (in_t1 (List.mem_of_getElem? (i := 2) rfl) rfl) (in_t5 (List.mem_of_getElem? (i := 77) rfl) rfl) (in_t5 (List.mem_of_getElem? (i := 79) rfl) rfl) (in_s1 (List.mem_of_getElem? (i := 11) rfl)) (by decide +kernel) (by decide +kernel) (by decide +kernel) (x_dk dn_163_0_ok 21 rfl)))))
  (e_Tok2
  (e_Lok (e_st (I := eI) (er_aload_n (i := 0) (x_dk dn_163_0_ok 22 rfl))))
  (e_Lok (e_ca (I := eI) (q' := n_164) rfl (xr_callV (q' := n_164) (ix := 272) (n := 0) (in_t6 (List.mem_of_getElem? (i := 84) rfl) rfl) good_w (in_t1 (List.mem_of_getElem? (i := 2) rfl) rfl) (in_t6 (List.mem_of_getElem? (i := 81) rfl) rfl) (in_t6 (List.mem_of_getElem? (i := 83) rfl) rfl) (in_s3 (List.mem_of_getElem? (i := 8) rfl)) (by decide +kernel) (by decide +kernel) (by decide +kernel) (x_dk dn_163_0_ok 23 rfl)))))))
  (e_Tok2
  (e_Tok2
  (e_Tok2
  (e_Lok (e_st (I := eI) (er_aload_n (i := 0) (x_dk dn_163_0_ok 24 rfl))))
  (e_Lok (e_st (I := eI) (er_getf (ci := 8) (k := 3) (ix := 21) (N := 17) (C := RX8) (T := TX8) rfl in_X8 (by decide) (in_t1 (List.mem_of_getElem? (i := 71) rfl) rfl) (x_dk dn_163_0_ok 25 rfl)))))
  (e_Tok2
  (e_Lok (e_st (I := eI) (er_iload_n (i := 2) (x_dk dn_163_0_ok 26 rfl))))
  (e_Lok (e_st (I := eI) (er_iconst (n := 0) (z := 0) (v := 0) (x_dk dn_163_0_ok 27 rfl) (by decide) (by decide))))))
  (e_Tok2
  (e_Tok2
  (e_Lok (e_ca (I := eI) (q' := n_21) rfl (xr_callV (q' := n_21) (ix := 198) (n := 2) (in_t6 (List.mem_of_getElem? (i := 47) rfl) rfl) good_w (in_t1 (List.mem_of_getElem? (i := 3) rfl) rfl) (in_t6 (List.mem_of_getElem? (i := 44) rfl) rfl) (in_t6 (List.mem_of_getElem? (i := 45) rfl) rfl) (in_t6 (List.mem_of_getElem? (i := 46) rfl) rfl) (by decide +kernel) (by decide +kernel) (by decide +kernel) (x_dk dn_163_0_ok 28 rfl))))
  (e_Lok (e_st (I := eI) (er_pop (x_dk dn_163_0_ok 29 rfl)))))
  (e_Tok2
  (e_Lok (e_st (I := eI) (er_iinc (i := 1) (n := 1) (x_dk dn_163_0_ok 30 rfl) (by decide +kernel) (by decide))))
  (e_Tok2
  (e_Lok (e_st (I := eI) (er_goto (off := (-53)) (tg := 6) (x_dk dn_163_0_ok 31 rfl) (by decide))))
  (e_Lok (e_rt (I := eI) (k := 0) ⟨(x_dk dn_163_0_ok 32 rfl), rfl⟩))))))))
def te_163 : Nat → eE := te_163_0
theorem te_163_ok : ∀ pc, e_EOq eft cls elay eI n_163 pc (te_163 pc) := te_163_0_ok
def dn_164_0 : List (Nat × Instr × Nat) := [(0, .aload_n 0, 1), (1, .getfield 57, 3), (4, .bipush 9, 2), (6, .if_icmp .ne 43, 3), (9, .aload_n 0, 1), (10, .invokevirtual 251, 3), (13, .ifCond .ne 4, 3), (16, .return_, 1), (17, .aload_n 0, 1), (18, .invokevirtual 54, 3), (21, .aload_n 0, 1), (22, .invokevirtual 272, 3), (25, .aload_n 0, 1), (26, .dup, 1), (27, .getfield 42, 3), (30, .iconst 1, 1), (31, .isub, 1), (32, .putfield 42, 3), (35, .aload_n 0, 1), (36, .getfield 21, 3), (39, .bipush 9, 2), (41, .iconst 0, 1), (42, .invokevirtual 198, 3), (45, .pop, 1), (46, .goto 147, 3), (49, .aload_n 0, 1), (50, .getfield 57, 3), (53, .iconst 2, 1), (54, .if_icmp .ne 14, 3), (57, .aload_n 0, 1), (58, .invokevirtual 275, 3), (61, .aload_n 0, 1), (62, .invokevirtual 54, 3), (65, .goto 128, 3), (68, .aload_n 0, 1), (69, .getfield 57, 3), (72, .iconst 1, 1), (73, .if_icmp .ne 23, 3), (76, .aload_n 0, 1), (77, .getfield 21, 3), (80, .iconst 2, 1), (81, .aload_n 0, 1), (82, .invokevirtual 248, 3), (85, .invokevirtual 198, 3), (88, .pop, 1), (89, .aload_n 0, 1), (90, .invokevirtual 54, 3), (93, .goto 100, 3), (96, .aload_n 0, 1), (97, .getfield 57, 3), (100, .bipush 48, 2), (102, .if_icmp .eq 12, 3), (105, .aload_n 0, 1), (106, .getfield 57, 3), (109, .bipush 49, 2), (111, .if_icmp .ne 39, 3), (114, .aload_n 0, 1), (115, .getfield 57, 3), (118, .bipush 48, 2), (120, .if_icmp .ne 7, 3), (123, .iconst 3, 1), (124, .goto 4, 3), (127, .iconst 4, 1), (128, .istore_n 1, 1), (129, .aload_n 0, 1), (130, .invokevirtual 54, 3), (133, .aload_n 0, 1), (134, .invokevirtual 278, 3), (137, .aload_n 0, 1), (138, .getfield 21, 3), (141, .iload_n 1, 1), (142, .iconst 0, 1), (143, .invokevirtual 198, 3), (146, .pop, 1), (147, .goto 46, 3), (150, .aload_n 0, 1), (151, .getfield 57, 3), (154, .bipush 50, 2), (156, .bipush 53, 2), (158, .invokestatic 201, 3), (161, .ifCond .eq 28, 3), (164, .aload_n 0, 1), (165, .getfield 21, 3), (168, .iconst 5, 1), (169, .aload_n 0, 1), (170, .getfield 57, 3), (173, .iadd, 1), (174, .bipush 50, 2), (176, .isub, 1), (177, .iconst 0, 1), (178, .invokevirtual 198, 3), (181, .pop, 1), (182, .aload_n 0, 1), (183, .invokevirtual 54, 3), (186, .goto 7, 3), (189, .aload_n 0, 1), (190, .invokevirtual 278, 3), (193, .return_, 1)]
set_option maxRecDepth 20000 in
theorem dn_164_0_ok : dn_164_0.all (fun q => decide (decode prog_10_method_48_code q.1 = .ok (q.2.1, q.2.2))) = true := by decide +kernel
def te_164_0 : Nat → eE := (e_T 22 (e_T 10 (e_T 4 (e_T 0 (e_L 0 (0, ei_load 0 2 1, 0, 0)) (e_T 1 (e_L 1 (0, ei_getf eft elay 8 5 4, 0, 0)) (e_L 4 (0, ei_push (0, 9) 6, 0, 0)))) (e_T 6 (e_L 6 (0, ei_if2 1 49 9, 0, 0)) (e_T 9 (e_L 9 (0, ei_load 0 2 10, 0, 0)) (e_L 10 (2, e_nof, 132, 1))))) (e_T 17 (e_T 13 (e_L 13 (0, ei_if1 1 17 16, 0, 0)) (e_T 16 (e_L 16 (1, e_nof, 0, 0)) (e_L 17 (0, ei_load 0 2 18, 0, 0)))) (e_T 18 (e_L 18 (2, e_nof, 123, 1)) (e_T 21 (e_L 21 (0, ei_load 0 2 22, 0, 0)) (e_L 22 (2, e_nof, 164, 1)))))) (e_T 32 (e_T 27 (e_T 25 (e_L 25 (0, ei_load 0 2 26, 0, 0)) (e_T 26 (e_L 26 (0, ei_stk ef_dup 27, 0, 0)) (e_L 27 (0, ei_getf eft elay 8 11 30, 0, 0)))) (e_T 30 (e_L 30 (0, ei_push (0, 1) 31, 0, 0)) (e_T 31 (e_L 31 (0, ei_bin eF_sub 32, 0, 0)) (e_L 32 (0, ei_putf eft elay 8 11 0 35, 0, 0))))) (e_T 39 (e_T 35 (e_L 35 (0, ei_load 0 2 36, 0, 0)) (e_T 36 (e_L 36 (0, ei_getf eft elay 8 3 39, 0, 0)) (e_L 39 (0, ei_push (0, 9) 41, 0, 0)))) (e_T 41 (e_L 41 (0, ei_push (0, 0) 42, 0, 0)) (e_T 42 (e_L 42 (2, e_nof, 21, 3)) (e_L 45 (0, ei_stk ef_pop 46, 0, 0)))))))
set_option maxRecDepth 20000 in
set_option maxHeartbeats 4000000 in
theorem te_164_0_ok : ∀ pc, e_EOq eft cls elay eI n_164 pc (te_164_0 pc) :=
  (e_Tok2
  (e_Tok2
  (e_Tok2
  (e_Tok2
  (e_Lok (e_st (I := eI) (er_aload_n (i := 0) (x_dk dn_164_0_ok 0 rfl))))
  (e_Tok2
  (e_Lok (e_st (I := eI) (er_getf (ci := 8) (k := 5) (ix := 57) (N := 17) (C := RX8) (T := TX8) rfl in_X8 (by decide) (in_t1 (List.mem_of_getElem? (i := 74) rfl) rfl) (x_dk dn_164_0_ok 1 rfl))))
  (e_Lok (e_st (I := eI) (er_bipush (n := 9) (z := 9) (v := 9) (x_dk dn_164_0_ok 2 rfl) (by decide) (by decide))))))
  (e_Tok2
  (e_Lok (e_st (I := eI) (er_icmpne (off := 43) (tg := 49) (x_dk dn_164_0_ok 3 rfl) (by decide))))
  (e_Tok2
  (e_Lok (e_st (I := eI) (er_aload_n (i := 0) (x_dk dn_164_0_ok 4 rfl))))
  (e_Lok (e_ca (I := eI) (q' := n_132) rfl (xr_callV (q' := n_132) (ix := 251) (n := 0) (in_t6 (List.mem_of_getElem? (i := 72) rfl) rfl) good_w (in_t1 (List.mem_of_getElem? (i := 2) rfl) rfl) (in_t6 (List.mem_of_getElem? (i := 69) rfl) rfl) (in_t6 (List.mem_of_getElem? (i := 71) rfl) rfl) (in_s3 (List.mem_of_getElem? (i := 5) rfl)) (by decide +kernel) (by decide +kernel) (by decide +kernel) (x_dk dn_164_0_ok 5 rfl)))))))
  (e_Tok2
  (e_Tok2
  (e_Lok (e_st (I := eI) (er_ifne (off := 4) (tg := 17) (x_dk dn_164_0_ok 6 rfl) (by decide))))
  (e_Tok2
  (e_Lok (e_rt (I := eI) (k := 0) ⟨(x_dk dn_164_0_ok 7 rfl), rfl⟩))
  (e_Lok (e_st (I := eI) (er_aload_n (i := 0) (x_dk dn_164_0_ok 8 rfl))))))
  (e_Tok2
  (e_Lok (e_ca (I := eI) (q' := n_123) rfl (xr_callV (q' := n_123) (ix := 54) (n := 0) (in_t5 (List.mem_of_getElem? (i := 80) rfl) rfl) good_w (in_t1 (List.mem_of_getElem? (i := 2) rfl) rfl) (in_t5 (List.mem_of_getElem? (i := 77) rfl) rfl) (in_t5 (List.mem_of_getElem? (i := 79) rfl) rfl) (in_s1 (List.mem_of_getElem? (i := 11) rfl)) (by decide +kernel) (by decide +kernel) (by decide +kernel) (x_dk dn_164_0_ok 9 rfl))))
  (e_Tok2
  (e_Lok (e_st (I := eI) (er_aload_n (i := 0) (x_dk dn_164_0_ok 10 rfl))))
  (e_Lok (e_ca (I := eI) (q' := n_164) rfl (xr_callV (q' := n_164) (ix := 272) (n := 0) (in_t6 (List.mem_of_getElem? (i := 84) rfl) rfl) good_w (in_t1 (List.mem_of_getElem? (i := 2) rfl) rfl) (in_t6 (List.mem_of_getElem? (i := 81) rfl) rfl) (in_t6 (List.mem_of_getElem? (i := 83) rfl) rfl) (in_s3 (List.mem_of_getElem? (i := 8) rfl)) (by decide +kernel) (by decide +kernel) (by decide +kernel) (x_dk dn_164_0_ok 11 rfl))))))))
  (e_Tok2
  (e_Tok2
  (e_Tok2
  (e_Lok (e_st (I := eI) (er_aload_n (i := 0) (x_dk dn_164_0_ok 12 rfl))))
  (e_Tok2
  (e_Lok (e_st (I := eI) (er_dup (x_dk dn_164_0_ok 13 rfl))))
  (e_Lok (e_st (I := eI) (er_getf (ci := 8) (k := 11) (ix := 42) (N := 17) (C := RX8) (T := TX8) rfl in_X8 (by decide) (in_t1 (List.mem_of_getElem? (i := 80) rfl) rfl) (x_dk dn_164_0_ok 14 rfl))))))
  (e_Tok2
  (e_Lok (e_st (I := eI) (er_iconst (n := 1) (z := 1) (v := 1) (x_dk dn_164_0_ok 15 rfl) (by decide) (by decide))))
  (e_Tok2
  (e_Lok (e_st (I := eI) (er_isub (x_dk dn_164_0_ok 16 rfl))))
  (e_Lok (e_st (I := eI) (er_putf (ci := 8) (k := 11) (ix := 42) (N := 17) (fk := 0) (C := RX8) (T := TX8) (ty0 := tyX8) (ty := .int) rfl in_X8 tyX8_ok nmX8 (by decide) (in_t1 (List.mem_of_getElem? (i := 80) rfl) rfl) rfl rfl x_fit_int (x_dk dn_164_0_ok 17 rfl)))))))
  (e_Tok2
  (e_Tok2
  (e_Lok (e_st (I := eI) (er_aload_n (i := 0) (x_dk dn_164_0_ok 18 rfl))))
  (e_Tok2
  (e_Lok (e_st (I := eI) (er_getf (ci := 8) (k := 3) (ix := 21) (N := 17) (C := RX8) (T := TX8) rfl in_X8 (by decide) (in_t1 (List.mem_of_getElem? (i := 71) rfl) rfl) (x_dk dn_164_0_ok 19 rfl))))
  (e_Lok (e_st (I := eI) (er_bipush (n := 9) (z := 9) (v := 9) (x_dk dn_164_0_ok 20 rfl) (by decide) (by decide))))))
  (e_Tok2
  (e_Lok (e_st (I := eI) (er_iconst (n := 0) (z := 0) (v := 0) (x_dk dn_164_0_ok 21 rfl) (by decide) (by decide))))
  (e_Tok2
  (e_Lok (e_ca (I := eI) (q' := n_21) rfl (xr_callV (q' := n_21) (ix := 198) (n := 2) (in_t6 (List.mem_of_getElem? (i := 47) rfl) rfl) good_w (in_t1 (List.mem_of_getElem? (i := 3) rfl) rfl) (in_t6 (List.mem_of_getElem? (i := 44) rfl) rfl) (in_t6 (List.mem_of_getElem? (i := 45) rfl) rfl) (in_t6 (List.mem_of_getElem? (i := 46) rfl) rfl) (by decide +kernel) (by decide +kernel) (by decide +kernel) (x_dk dn_164_0_ok 22 rfl))))
  (e_Lok (e_st (I := eI) (er_pop (x_dk dn_164_0_ok 23 rfl)))))))))
def te_164_24 : Nat → eE := (e_T 69 (e_T 57 (e_T 50 (e_T 46 (e_L 46 (0, ei_goto 193, 0, 0)) (e_T 49 (e_L 49 (0, ei_load 0 2 50, 0, 0)) (e_L 50 (0, ei_getf eft elay 8 5 53, 0, 0)))) (e_T 53 (e_L 53 (0, ei_push (0, 2) 54, 0, 0)) (e_T 54 (e_L 54 (0, ei_if2 1 68 57, 0, 0)) (e_L 57 (0, ei_load 0 2 58, 0, 0))))) (e_T 62 (e_T 58 (e_L 58 (2, e_nof, 166, 1)) (e_T 61 (e_L 61 (0, ei_load 0 2 62, 0, 0)) (e_L 62 (2, e_nof, 123, 1)))) (e_T 65 (e_L 65 (0, ei_goto 193, 0, 0)) (e_T 68 (e_L 68 (0, ei_load 0 2 69, 0, 0)) (e_L 69 (0, ei_getf eft elay 8 5 72, 0, 0)))))) (e_T 81 (e_T 76 (e_T 72 (e_L 72 (0, ei_push (0, 1) 73, 0, 0)) (e_T 73 (e_L 73 (0, ei_if2 1 96 76, 0, 0)) (e_L 76 (0, ei_load 0 2 77, 0, 0)))) (e_T 77 (e_L 77 (0, ei_getf eft elay 8 3 80, 0, 0)) (e_T 80 (e_L 80 (0, ei_push (0, 2) 81, 0, 0)) (e_L 81 (0, ei_load 0 2 82, 0, 0))))) (e_T 88 (e_T 82 (e_L 82 (2, e_nof, 137, 1)) (e_T 85 (e_L 85 (2, e_nof, 21, 3)) (e_L 88 (0, ei_stk ef_pop 89, 0, 0)))) (e_T 90 (e_T 89 (e_L 89 (0, ei_load 0 2 90, 0, 0)) (e_L 90 (2, e_nof, 123, 1))) (e_T 93 (e_L 93 (0, ei_goto 193, 0, 0)) (e_L 96 (0, ei_load 0 2 97, 0, 0)))))))
set_option maxRecDepth 20000 in
set_option maxHeartbeats 4000000 in
theorem te_164_24_ok : ∀ pc, e_EOq eft cls elay eI n_164 pc (te_164_24 pc) :=
  (e_Tok2
  (e_Tok2
  (e_Tok2
  (e_Tok2
  (e_Lok (e_st (I := eI) (er_goto (off := 147) (tg := 193) (x_dk dn_164_0_ok 24 rfl) (by decide))))
  (e_Tok2
  (e_Lok (e_st (I := eI) (er_aload_n (i := 0) (x_dk dn_164_0_ok 25 rfl))))
  (e_Lok (e_st (I := eI) (er_getf (ci := 8) (k := 5) (ix := 57) (N := 17) (C := RX8) (T := TX8) rfl in_X8 (by decide) (in_t1 (List.mem_of_getElem? (i := 74) rfl) rfl) (x_dk dn_164_0_ok 26 rfl))))))
  (e_Tok2
  (e_Lok (e_st (I := eI) (er_iconst (n := 2) (z := 2) (v := 2) (x_dk dn_164_0_ok 27 rfl) (by decide) (by decide))))
  (e_Tok2
  (e_Lok (e_st (I := eI) (er_icmpne (off := 14) (tg := 68) (x_dk dn_164_0_ok 28 rfl) (by decide))))
  (e_Lok (e_st (I := eI) (er_aload_n (i := 0) (x_dk dn_164_0_ok 29 rfl)))))))
  (e_Tok2
  (e_Tok2
  (e_Lok (e_ca (I := eI) (q' := n_166) rfl (xr_callV (q' := n_166) (ix := 275) (n := 0) (in_t6 (List.mem_of_getElem? (i := 88) rfl) rfl) good_w (in_t1 (List.mem_of_getElem? (i := 2) rfl) rfl) (in_t6 (List.mem_of_getElem? (i := 85) rfl) rfl) (in_t6 (List.mem_of_getElem? (i := 87) rfl) rfl) (in_s3 (List.mem_of_getElem? (i := 9) rfl)) (by decide +kernel) (by decide +kernel) (by decide +kernel) (x_dk dn_164_0_ok 30 rfl))))
  (e_Tok2
  (e_Lok (e_st (I := eI) (er_aload_n (i := 0) (x_dk dn_164_0_ok 31 rfl))))
  (e_Lok (e_ca (I := eI) (q' := n_123) rfl (xr_callV (q' := n_123) (ix := 54) (n := 0) (in_t5 (List.mem_of_getElem? (i := 80) rfl) rfl) good_w (in_t1 (List.mem_of_getElem? (i := 2) rfl) rfl) (in_t5 (List.mem_of_getElem? (i := 77) rfl) rfl) (in_t5 (List.mem_of_getElem? (i := 79) rfl) rfl) (in_s1 (List.mem_of_getElem? (i := 11) rfl)) (by decide +kernel) (by decide +kernel) (by decide +kernel) (x_dk dn_164_0_ok 32 rfl))))))
  (e_Tok2
  (e_Lok (e_st (I := eI) (er_goto (off := 128) (tg := 193) (x_dk dn_164_0_ok 33 rfl) (by decide))))
  (e_Tok2
  (e_Lok (e_st (I := eI) (er_aload_n (i := 0) (x_dk dn_164_0_ok 34 rfl))))
  (e_Lok (e_st (I := eI) (er_getf (ci := 8) (k := 5) (ix := 57) (N := 17) (C := RX8) (T := TX8) rfl in_X8 (by decide) (in_t1 (List.mem_of_getElem? (i := 74) rfl) rfl) (x_dk dn_164_0_ok 35 rfl))))))))
  (e_Tok2
  (e_Tok2
  (e_Tok2
  (e_Lok (e_st (I := eI) (er_iconst (n := 1) (z := 1) (v := 1) (x_dk dn_164_0_ok 36 rfl) (by decide) (by decide))))
  (e_Tok2
  (e_Lok (e_st (I := eI) (er_icmpne (off := 23) (tg := 96) (x_dk dn_164_0_ok 37 rfl) (by decide))))
  (e_Lok (e_st (I := eI) (er_aload_n (i := 0) (x_dk dn_164_0_ok 38 rfl))))))
  (e_Tok2
  (e_Lok (e_st (I := eI) (er_getf (ci := 8) (k := 3) (ix := 21) (N := 17) (C := RX8) (T := TX8) rfl in_X8 (by decide) (in_t1 (List.mem_of_getElem? (i := 71) rfl) rfl) (x_dk dn_164_0_ok 39 rfl))))
  (e_Tok2
  (e_Lok (e_st (I := eI) (er_iconst (n := 2) (z := 2) (v := 2) (x_dk dn_164_0_ok 40 rfl) (by decide) (by decide))))
  (e_Lok (e_st (I := eI) (er_aload_n (i := 0) (x_dk dn_164_0_ok 41 rfl)))))))
  (e_Tok2
  (e_Tok2
  (e_Lok (e_ca (I := eI) (q' := n_137) rfl (xr_callV (q' := n_137) (ix := 248) (n := 0) (in_t6 (List.mem_of_getElem? (i := 55) rfl) rfl) good_w (in_t1 (List.mem_of_getElem? (i := 2) rfl) rfl) (in_t6 (List.mem_of_getElem? (i := 52) rfl) rfl) (in_t6 (List.mem_of_getElem? (i := 54) rfl) rfl) (in_s3 (List.mem_of_getElem? (i := 1) rfl)) (by decide +kernel) (by decide +kernel) (by decide +kernel) (x_dk dn_164_0_ok 42 rfl))))
  (e_Tok2
  (e_Lok (e_ca (I := eI) (q' := n_21) rfl (xr_callV (q' := n_21) (ix := 198) (n := 2) (in_t6 (List.mem_of_getElem? (i := 47) rfl) rfl) good_w (in_t1 (List.mem_of_getElem? (i := 3) rfl) rfl) (in_t6 (List.mem_of_getElem? (i := 44) rfl) rfl) (in_t6 (List.mem_of_getElem? (i := 45) rfl) rfl) (in_t6 (List.mem_of_getElem? (i := 46) rfl) rfl) (by decide +kernel) (by decide +kernel) (by decide +kernel) (x_dk dn_164_0_ok 43 rfl))))
  (e_Lok (e_st (I := eI) (er_pop (x_dk dn_164_0_ok 44 rfl))))))
  (e_Tok2
  (e_Tok2
  (e_Lok (e_st (I := eI) (er_aload_n (i := 0) (x_dk dn_164_0_ok 45 rfl))))
  (e_Lok (e_ca (I := eI) (q' := n_123) rfl (xr_callV (q' := n_123) (ix := 54) (n := 0) (in_t5 (List.mem_of_getElem? (i := 80) rfl) rfl) good_w (in_t1 (List.mem_of_getElem? (i := 2) rfl) rfl) (in_t5 (List.mem_of_getElem? (i := 77) rfl) rfl) (in_t5 (List.mem_of_getElem? (i := 79) rfl) rfl) (in_s1 (List.mem_of_getElem? (i := 11) rfl)) (by decide +kernel) (by decide +kernel) (by decide +kernel) (x_dk dn_164_0_ok 46 rfl)))))
  (e_Tok2
  (e_Lok (e_st (I := eI) (er_goto (off := 100) (tg := 193) (x_dk dn_164_0_ok 47 rfl) (by decide))))
  (e_Lok (e_st (I := eI) (er_aload_n (i := 0) (x_dk dn_164_0_ok 48 rfl)))))))))
def te_164_49 : Nat → eE := (e_T 123 (e_T 109 (e_T 102 (e_T 97 (e_L 97 (0, ei_getf eft elay 8 5 100, 0, 0)) (e_T 100 (e_L 100 (0, ei_push (0, 48) 102, 0, 0)) (e_L 102 (0, ei_if2 0 114 105, 0, 0)))) (e_T 105 (e_L 105 (0, ei_load 0 2 106, 0, 0)) (e_T 106 (e_L 106 (0, ei_getf eft elay 8 5 109, 0, 0)) (e_L 109 (0, ei_push (0, 49) 111, 0, 0))))) (e_T 115 (e_T 111 (e_L 111 (0, ei_if2 1 150 114, 0, 0)) (e_T 114 (e_L 114 (0, ei_load 0 2 115, 0, 0)) (e_L 115 (0, ei_getf eft elay 8 5 118, 0, 0)))) (e_T 118 (e_L 118 (0, ei_push (0, 48) 120, 0, 0)) (e_T 120 (e_L 120 (0, ei_if2 1 127 123, 0, 0)) (e_L 123 (0, ei_push (0, 3) 124, 0, 0)))))) (e_T 133 (e_T 128 (e_T 124 (e_L 124 (0, ei_goto 128, 0, 0)) (e_T 127 (e_L 127 (0, ei_push (0, 4) 128, 0, 0)) (e_L 128 (0, ei_stor 1 0 129, 0, 0)))) (e_T 129 (e_L 129 (0, ei_load 0 2 130, 0, 0)) (e_T 130 (e_L 130 (2, e_nof, 123, 1)) (e_L 133 (0, ei_load 0 2 134, 0, 0))))) (e_T 138 (e_T 134 (e_L 134 (2, e_nof, 165, 1)) (e_T 137 (e_L 137 (0, ei_load 0 2 138, 0, 0)) (e_L 138 (0, ei_getf eft elay 8 3 141, 0, 0)))) (e_T 141 (e_L 141 (0, ei_load 1 0 142, 0, 0)) (e_T 142 (e_L 142 (0, ei_push (0, 0) 143, 0, 0)) (e_L 143 (2, e_nof, 21, 3)))))))
set_option maxRecDepth 20000 in
set_option maxHeartbeats 4000000 in
theorem te_164_49_ok : ∀ pc, e_EOq eft cls elay eI n_164 pc (te_164_49 pc) :=
  (e_Tok2
  (e_Tok2
  (e_Tok2
  (e_Tok2
  (e_Lok (e_st (I := eI) (er_getf (ci := 8) (k := 5) (ix := 57) (N := 17) (C := RX8) (T := TX8) rfl in_X8 (by decide) (in_t1 (List.mem_of_getElem? (i := 74) rfl) rfl) (x_dk dn_164_0_ok 49 rfl))))
  (e_Tok2
  (e_Lok (e_st (I := eI) (er_bipush (n := 48) (z := 48) (v := 48) (x_dk dn_164_0_ok 50 rfl) (by decide) (by decide))))
  (e_Lok (e_st (I := eI) (er_icmpeq (off := 12) (tg := 114) (x_dk dn_164_0_ok 51 rfl) (by decide))))))
  (e_Tok2
  (e_Lok (e_st (I := eI) (er_aload_n (i := 0) (x_dk dn_164_0_ok 52 rfl))))
  (e_Tok2
  (e_Lok (e_st (I := eI) (er_getf (ci := 8) (k := 5) (ix := 57) (N := 17) (C := RX8) (T := TX8) rfl in_X8 (by decide) (in_t1 (List.mem_of_getElem? (i := 74) rfl) rfl) (x_dk dn_164_0_ok 53 rfl))))
  (e_Lok (e_st (I := eI) (er_bipush (n := 49) (z := 49) (v := 49) (x_dk dn_164_0_ok 54 rfl) (by decide) (by decide)))))))
  (e_Tok2
  (e_Tok2
  (e_Lok (e_st (I := eI) (er_icmpne (off := 39) (tg := 150) (x_dk dn_164_0_ok 55 rfl) (by decide))))
  (e_Tok2
  (e_Lok (e_st (I := eI) (er_aload_n (i := 0) (x_dk dn_164_0_ok 56 rfl))))
  (e_Lok (e_st (I := eI) (er_getf (ci := 8) (k := 5) (ix := 57) (N := 17) (C := RX8) (T := TX8) rfl in_X8 (by decide) (in_t1 (List.mem_of_getElem? (i := 74) rfl) rfl) (x_dk dn_164_0_ok 57 rfl))))))
  (e_Tok2
  (e_Lok (e_st (I := eI) (er_bipush (n := 48) (z := 48) (v := 48) (x_dk dn_164_0_ok 58 rfl) (by decide) (by decide))))
  (e_Tok2
  (e_Lok (e_st (I := eI) (er_icmpne (off := 7) (tg := 127) (x_dk dn_164_0_ok 59 rfl) (by decide))))
  (e_Lok (e_st (I := eI) (er_iconst (n := 3) (z := 3) (v := 3) (x_dk dn_164_0_ok 60 rfl) (by decide) (by decide))))))))
  (e_Tok2
  (e_Tok2
  (e_Tok2
  (e_Lok (e_st (I := eI) (er_goto (off := 4) (tg := 128) (x_dk dn_164_0_ok 61 rfl) (by decide))))
  (e_Tok2
  (e_Lok (e_st (I := eI) (er_iconst (n := 4) (z := 4) (v := 4) (x_dk dn_164_0_ok 62 rfl) (by decide) (by decide))))
  (e_Lok (e_st (I := eI) (er_istore_n (i := 1) (x_dk dn_164_0_ok 63 rfl) (by decide +kernel))))))
  (e_Tok2
  (e_Lok (e_st (I := eI) (er_aload_n (i := 0) (x_dk dn_164_0_ok 64 rfl))))
  (e_Tok2
  (e_Lok (e_ca (I := eI) (q' := n_123) rfl (xr_callV (q' := n_123) (ix := 54) (n := 0) (in_t5 (List.mem_of_getElem? (i := 80) rfl) rfl) good_w (in_t1 (List.mem_of_getElem? (i := 2) rfl) rfl) (in_t5 (List.mem_of_getElem? (i := 77) rfl) rfl) (in_t5 (List.mem_of_getElem? (i := 79) rfl) rfl) (in_s1 (List.mem_of_getElem? (i := 11) rfl)) (by decide +kernel) (by decide +kernel) (by decide +kernel) (x_dk dn_164_0_ok 65 rfl))))
  (e_Lok (e_st (I := eI) (er_aload_n (i := 0) (x_dk dn_164_0_ok 66 rfl)))))))
  (e_Tok2
  (e_Tok2
  (e_Lok (e_ca (I := eI) (q' := n_165) rfl (xr_callV (q' := n_165) (ix := 278) (n := 0) (in_t6 (List.mem_of_getElem? (i := 93) rfl) rfl) good_w (in_t1 (List.mem_of_getElem? (i := 2) rfl) rfl) (in_t6 (List.mem_of_getElem? (i := 90) rfl) rfl) (in_t6 (List.mem_of_getElem? (i := 92) rfl) rfl) (in_s3 (List.mem_of_getElem? (i := 10) rfl)) (by decide +kernel) (by decide +kernel) (by decide +kernel) (x_dk dn_164_0_ok 67 rfl))))
  (e_Tok2
  (e_Lok (e_st (I := eI) (er_aload_n (i := 0) (x_dk dn_164_0_ok 68 rfl))))
  (e_Lok (e_st (I := eI) (er_getf (ci := 8) (k := 3) (ix := 21) (N := 17) (C := RX8) (T := TX8) rfl in_X8 (by decide) (in_t1 (List.mem_of_getElem? (i := 71) rfl) rfl) (x_dk dn_164_0_ok 69 rfl))))))
  (e_Tok2
  (e_Lok (e_st (I := eI) (er_iload_n (i := 1) (x_dk dn_164_0_ok 70 rfl))))
  (e_Tok2
  (e_Lok (e_st (I := eI) (er_iconst (n := 0) (z := 0) (v := 0) (x_dk dn_164_0_ok 71 rfl) (by decide) (by decide))))
  (e_Lok (e_ca (I := eI) (q' := n_21) rfl (xr_callV (q' := n_21) (ix := 198) (n := 2) (in_t6 (List.mem_of_getElem? (i := 47) rfl) rfl) good_w (in_t1 (List.mem_of_getElem? (i := 3) rfl) rfl) (in_t6 (List.mem_of_getElem? (i := 44) rfl) rfl) (in_t6 (List.mem_of_getElem? (i := 45) rfl) rfl) (in_t6 (List.mem_of_getElem? (i := 46) rfl) rfl) (by decide +kernel) (by decide +kernel) (by decide +kernel) (x_dk dn_164_0_ok 72 rfl)))))))))
def te_164_73 : Nat → eE := (e_T 169 (e_T 156 (e_T 150 (e_T 146 (e_L 146 (0, ei_stk ef_pop 147, 0, 0)) (e_T 147 (e_L 147 (0, ei_goto 193, 0, 0)) (e_L 150 (0, ei_load 0 2 151, 0, 0)))) (e_T 151 (e_L 151 (0, ei_getf eft elay 8 5 154, 0, 0)) (e_T 154 (e_L 154 (0, ei_push (0, 50) 156, 0, 0)) (e_L 156 (0, ei_push (0, 53) 158, 0, 0))))) (e_T 164 (e_T 158 (e_L 158 (2, e_nof, 242, 3)) (e_T 161 (e_L 161 (0, ei_if1 0 189 164, 0, 0)) (e_L 164 (0, ei_load 0 2 165, 0, 0)))) (e_T 165 (e_L 165 (0, ei_getf eft elay 8 3 168, 0, 0)) (e_T 168 (e_L 168 (0, ei_push (0, 5) 169, 0, 0)) (e_L 169 (0, ei_load 0 2 170, 0, 0)))))) (e_T 178 (e_T 174 (e_T 170 (e_L 170 (0, ei_getf eft elay 8 5 173, 0, 0)) (e_T 173 (e_L 173 (0, ei_bin eF_add 174, 0, 0)) (e_L 174 (0, ei_push (0, 50) 176, 0, 0)))) (e_T 176 (e_L 176 (0, ei_bin eF_sub 177, 0, 0)) (e_T 177 (e_L 177 (0, ei_push (0, 0) 178, 0, 0)) (e_L 178 (2, e_nof, 21, 3))))) (e_T 183 (e_T 181 (e_L 181 (0, ei_stk ef_pop 182, 0, 0)) (e_T 182 (e_L 182 (0, ei_load 0 2 183, 0, 0)) (e_L 183 (2, e_nof, 123, 1)))) (e_T 189 (e_T 186 (e_L 186 (0, ei_goto 193, 0, 0)) (e_L 189 (0, ei_load 0 2 190, 0, 0))) (e_T 190 (e_L 190 (2, e_nof, 165, 1)) (e_L 193 (1, e_nof, 0, 0)))))))
set_option maxRecDepth 20000 in
set_option maxHeartbeats 4000000 in
theorem te_164_73_ok : ∀ pc, e_EOq eft cls elay eI n_164 pc (te_164_73 pc) :=
  (e_Tok2
  (e_Tok2
  (e_Tok2
  (e_Tok2
  (e_Lok (e_st (I := eI) (er_pop (x_dk dn_164_0_ok 73 rfl))))
  (e_Tok2
  (e_Lok (e_st (I := eI) (er_goto (off := 46) (tg := 193) (x_dk dn_164_0_ok 74 rfl) (by decide))))
  (e_Lok (e_st (I := eI) (er_aload_n (i := 0) (x_dk dn_164_0_ok 75 rfl))))))
  (e_Tok2
  (e_Lok (e_st (I := eI) (er_getf (ci := 8) (k := 5) (ix := 57) (N := 17) (C := RX8) (T := TX8) rfl in_X8 (by decide) (in_t1 (List.mem_of_getElem? (i := 74) rfl) rfl) (x_dk dn_164_0_ok 76 rfl))))
  (e_Tok2
  (e_Lok (e_st (I := eI) (er_bipush (n := 50) (z := 50) (v := 50) (x_dk dn_164_0_ok 77 rfl) (by decide) (by decide))))
  (e_Lok (e_st (I := eI) (er_bipush (n := 53) (z := 53) (v := 53) (x_dk dn_164_0_ok 78 rfl) (by decide) (by decide)))))))
  (e_Tok2
  (e_Tok2
  (e_Lok (e_ca (I := eI) (q' := n_242) rfl (xr_callSN (q' := n_242) (ix := 201) (n := 3) (host := "RobotCellHouse") (in_t4 (List.mem_of_getElem? (i := 168) rfl) rfl) good_w (in_t1 (List.mem_of_getElem? (i := 1) rfl) rfl) (List.mem_of_getElem? (i := 11) rfl) (in_t4 (List.mem_of_getElem? (i := 167) rfl) rfl) (by decide +kernel) (by decide +kernel) (x_dk dn_164_0_ok 79 rfl))))
  (e_Tok2
  (e_Lok (e_st (I := eI) (er_ifeq (off := 28) (tg := 189) (x_dk dn_164_0_ok 80 rfl) (by decide))))
  (e_Lok (e_st (I := eI) (er_aload_n (i := 0) (x_dk dn_164_0_ok 81 rfl))))))
  (e_Tok2
  (e_Lok (e_st (I := eI) (er_getf (ci := 8) (k := 3) (ix := 21) (N := 17) (C := RX8) (T := TX8) rfl in_X8 (by decide) (in_t1 (List.mem_of_getElem? (i := 71) rfl) rfl) (x_dk dn_164_0_ok 82 rfl))))
  (e_Tok2
  (e_Lok (e_st (I := eI) (er_iconst (n := 5) (z := 5) (v := 5) (x_dk dn_164_0_ok 83 rfl) (by decide) (by decide))))
  (e_Lok (e_st (I := eI) (er_aload_n (i := 0) (x_dk dn_164_0_ok 84 rfl))))))))
  (e_Tok2
  (e_Tok2
  (e_Tok2
  (e_Lok (e_st (I := eI) (er_getf (ci := 8) (k := 5) (ix := 57) (N := 17) (C := RX8) (T := TX8) rfl in_X8 (by decide) (in_t1 (List.mem_of_getElem? (i := 74) rfl) rfl) (x_dk dn_164_0_ok 85 rfl))))
  (e_Tok2
  (e_Lok (e_st (I := eI) (er_iadd (x_dk dn_164_0_ok 86 rfl))))
  (e_Lok (e_st (I := eI) (er_bipush (n := 50) (z := 50) (v := 50) (x_dk dn_164_0_ok 87 rfl) (by decide) (by decide))))))
  (e_Tok2
  (e_Lok (e_st (I := eI) (er_isub (x_dk dn_164_0_ok 88 rfl))))
  (e_Tok2
  (e_Lok (e_st (I := eI) (er_iconst (n := 0) (z := 0) (v := 0) (x_dk dn_164_0_ok 89 rfl) (by decide) (by decide))))
  (e_Lok (e_ca (I := eI) (q' := n_21) rfl (xr_callV (q' := n_21) (ix := 198) (n := 2) (in_t6 (List.mem_of_getElem? (i := 47) rfl) rfl) good_w (in_t1 (List.mem_of_getElem? (i := 3) rfl) rfl) (in_t6 (List.mem_of_getElem? (i := 44) rfl) rfl) (in_t6 (List.mem_of_getElem? (i := 45) rfl) rfl) (in_t6 (List.mem_of_getElem? (i := 46) rfl) rfl) (by decide +kernel) (by decide +kernel) (by decide +kernel) (x_dk dn_164_0_ok 90 rfl)))))))
  (e_Tok2
  (e_Tok2
  (e_Lok (e_st (I := eI) (er_pop (x_dk dn_164_0_ok 91 rfl))))
  (e_Tok2
  (e_Lok (e_st (I := eI) (er_aload_n (i := 0) (x_dk dn_164_0_ok 92 rfl))))
  (e_Lok (e_ca (I := eI) (q' := n_123) rfl (xr_callV (q' := n_123) (ix := 54) (n := 0) (in_t5 (List.mem_of_getElem? (i := 80) rfl) rfl) good_w (in_t1 (List.mem_of_getElem? (i := 2) rfl) rfl) (in_t5 (List.mem_of_getElem? (i := 77) rfl) rfl) (in_t5 (List.mem_of_getElem? (i := 79) rfl) rfl) (in_s1 (List.mem_of_getElem? (i := 11) rfl)) (by decide +kernel) (by decide +kernel) (by decide +kernel) (x_dk dn_164_0_ok 93 rfl))))))
  (e_Tok2
  (e_Tok2
  (e_Lok (e_st (I := eI) (er_goto (off := 7) (tg := 193) (x_dk dn_164_0_ok 94 rfl) (by decide))))
  (e_Lok (e_st (I := eI) (er_aload_n (i := 0) (x_dk dn_164_0_ok 95 rfl)))))
  (e_Tok2
  (e_Lok (e_ca (I := eI) (q' := n_165) rfl (xr_callV (q' := n_165) (ix := 278) (n := 0) (in_t6 (List.mem_of_getElem? (i := 93) rfl) rfl) good_w (in_t1 (List.mem_of_getElem? (i := 2) rfl) rfl) (in_t6 (List.mem_of_getElem? (i := 90) rfl) rfl) (in_t6 (List.mem_of_getElem? (i := 92) rfl) rfl) (in_s3 (List.mem_of_getElem? (i := 10) rfl)) (by decide +kernel) (by decide +kernel) (by decide +kernel) (x_dk dn_164_0_ok 96 rfl))))
  (e_Lok (e_rt (I := eI) (k := 0) ⟨(x_dk dn_164_0_ok 97 rfl), rfl⟩)))))))
def te_164 : Nat → eE := (e_T 96 (e_T 45 te_164_0 te_164_24) (e_T 143 te_164_49 te_164_73))
theorem te_164_ok : ∀ pc, e_EOq eft cls elay eI n_164 pc (te_164 pc) := (e_Tok2 ((e_Tok2 (te_164_0_ok) (te_164_24_ok))) ((e_Tok2 (te_164_49_ok) (te_164_73_ok))))
end
