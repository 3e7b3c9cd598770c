noncomputable section
def dn_52_0 : List (Nat × Instr × Nat) := [(0, .aload_n 0, 1), (1, .getfield 133, 3), (4, .aload_n 0, 1), (5, .getfield 48, 3), (8, .arraylength, 1), (9, .if_icmp .lt 4, 3), (12, .return_, 1), (13, .aload_n 0, 1), (14, .getfield 48, 3), (17, .aload_n 0, 1), (18, .getfield 133, 3), (21, .iload_n 1, 1), (22, .iastore, 1), (23, .aload_n 0, 1), (24, .dup, 1), (25, .getfield 133, 3), (28, .iconst 1, 1), (29, .iadd, 1), (30, .putfield 133, 3), (33, .return_, 1)]
set_option maxRecDepth 20000 in
theorem dn_52_0_ok : dn_52_0.all (fun q => decide (decode prog_5_method_19_code q.1 = .ok (q.2.1, q.2.2))) = true := by decide +kernel
def te_52_0 : Nat → eE := (e_T 17 (e_T 8 (e_T 1 (e_T 0 (e_L 0 (0, ei_load 0 2 1, 0, 0)) (e_L 1 (0, ei_getf eft elay 3 8 4, 0, 0))) (e_T 4 (e_L 4 (0, ei_load 0 2 5, 0, 0)) (e_T 5 (e_L 5 (0, ei_getf eft elay 3 6 8, 0, 0)) (e_L 8 (0, ei_alen elay 9, 0, 0))))) (e_T 12 (e_T 9 (e_L 9 (0, ei_if2 2 13 12, 0, 0)) (e_L 12 (1, e_nof, 0, 0))) (e_T 13 (e_L 13 (0, ei_load 0 2 14, 0, 0)) (e_T 14 (e_L 14 (0, ei_getf eft elay 3 6 17, 0, 0)) (e_L 17 (0, ei_load 0 2 18, 0, 0)))))) (e_T 24 (e_T 21 (e_T 18 (e_L 18 (0, ei_getf eft elay 3 8 21, 0, 0)) (e_L 21 (0, ei_load 1 0 22, 0, 0))) (e_T 22 (e_L 22 (0, ei_ast elay false 23, 0, 0)) (e_T 23 (e_L 23 (0, ei_load 0 2 24, 0, 0)) (e_L 24 (0, ei_stk ef_dup 25, 0, 0))))) (e_T 28 (e_T 25 (e_L 25 (0, ei_getf eft elay 3 8 28, 0, 0)) (e_L 28 (0, ei_push (0, 1) 29, 0, 0))) (e_T 29 (e_L 29 (0, ei_bin eF_add 30, 0, 0)) (e_T 30 (e_L 30 (0, ei_putf eft elay 3 8 0 33, 0, 0)) (e_L 33 (1, e_nof, 0, 0)))))))
set_option maxRecDepth 20000 in
set_option maxHeartbeats 4000000 in
theorem te_52_0_ok : ∀ pc, e_EOq eft cls elay eI n_52 pc (te_52_0 pc) :=
  (e_Tok2
  (e_Tok2
  (e_Tok2
  (e_Tok2
  (e_Lok (e_st (I := eI) (er_aload_n (i := 0) (x_dk dn_52_0_ok 0 rfl))))
  (e_Lok (e_st (I := eI) (er_getf (ci := 3) (k := 8) (ix := 133) (N := 12) (C := RX3) (T := TX3) rfl in_X3 (by decide) (in_t3 (List.mem_of_getElem? (i := 102) rfl) rfl) (x_dk dn_52_0_ok 1 rfl)))))
  (e_Tok2
  (e_Lok (e_st (I := eI) (er_aload_n (i := 0) (x_dk dn_52_0_ok 2 rfl))))
  (e_Tok2
  (e_Lok (e_st (I := eI) (er_getf (ci := 3) (k := 6) (ix := 48) (N := 12) (C := RX3) (T := TX3) rfl in_X3 (by decide) (in_t3 (List.mem_of_getElem? (i := 100) rfl) rfl) (x_dk dn_52_0_ok 3 rfl))))
  (e_Lok (e_st (I := eI) (er_alen (x_dk dn_52_0_ok 4 rfl)))))))
  (e_Tok2
  (e_Tok2
  (e_Lok (e_st (I := eI) (er_icmplt (off := 4) (tg := 13) (x_dk dn_52_0_ok 5 rfl) (by decide))))
  (e_Lok (e_rt (I := eI) (k := 0) ⟨(x_dk dn_52_0_ok 6 rfl), rfl⟩)))
  (e_Tok2
  (e_Lok (e_st (I := eI) (er_aload_n (i := 0) (x_dk dn_52_0_ok 7 rfl))))
  (e_Tok2
  (e_Lok (e_st (I := eI) (er_getf (ci := 3) (k := 6) (ix := 48) (N := 12) (C := RX3) (T := TX3) rfl in_X3 (by decide) (in_t3 (List.mem_of_getElem? (i := 100) rfl) rfl) (x_dk dn_52_0_ok 8 rfl))))
  (e_Lok (e_st (I := eI) (er_aload_n (i := 0) (x_dk dn_52_0_ok 9 rfl))))))))
  (e_Tok2
  (e_Tok2
  (e_Tok2
  (e_Lok (e_st (I := eI) (er_getf (ci := 3) (k := 8) (ix := 133) (N := 12) (C := RX3) (T := TX3) rfl in_X3 (by decide) (in_t3 (List.mem_of_getElem? (i := 102) rfl) rfl) (x_dk dn_52_0_ok 10 rfl))))
  (e_Lok (e_st (I := eI) (er_iload_n (i := 1) (x_dk dn_52_0_ok 11 rfl)))))
  (e_Tok2
  (e_Lok (e_st (I := eI) (er_iastore (x_dk dn_52_0_ok 12 rfl))))
  (e_Tok2
  (e_Lok (e_st (I := eI) (er_aload_n (i := 0) (x_dk dn_52_0_ok 13 rfl))))
  (e_Lok (e_st (I := eI) (er_dup (x_dk dn_52_0_ok 14 rfl)))))))
  (e_Tok2
  (e_Tok2
  (e_Lok (e_st (I := eI) (er_getf (ci := 3) (k := 8) (ix := 133) (N := 12) (C := RX3) (T := TX3) rfl in_X3 (by decide) (in_t3 (List.mem_of_getElem? (i := 102) rfl) rfl) (x_dk dn_52_0_ok 15 rfl))))
  (e_Lok (e_st (I := eI) (er_iconst (n := 1) (z := 1) (v := 1) (x_dk dn_52_0_ok 16 rfl) (by decide) (by decide)))))
  (e_Tok2
  (e_Lok (e_st (I := eI) (er_iadd (x_dk dn_52_0_ok 17 rfl))))
  (e_Tok2
  (e_Lok (e_st (I := eI) (er_putf (ci := 3) (k := 8) (ix := 133) (N := 12) (fk := 0) (C := RX3) (T := TX3) (ty0 := tyX3) (ty := .int) rfl in_X3 tyX3_ok nmX3 (by decide) (in_t3 (List.mem_of_getElem? (i := 102) rfl) rfl) rfl rfl x_fit_int (x_dk dn_52_0_ok 18 rfl))))
  (e_Lok (e_rt (I := eI) (k := 0) ⟨(x_dk dn_52_0_ok 19 rfl), rfl⟩)))))))
def te_52 : Nat → eE := te_52_0
theorem te_52_ok : ∀ pc, e_EOq eft cls elay eI n_52 pc (te_52 pc) := te_52_0_ok
def dn_53_0 : List (Nat × Instr × Nat) := [(0, .aload_n 0, 1), (1, .getfield 133, 3), (4, .iconst 1, 1), (5, .if_icmp .ge 5, 3), (8, .iconst 0, 1), (9, .ireturn, 1), (10, .aload_n 0, 1), (11, .dup, 1), (12, .getfield 133, 3), (15, .iconst 1, 1), (16, .isub, 1), (17, .putfield 133, 3), (20, .aload_n 0, 1), (21, .getfield 48, 3), (24, .aload_n 0, 1), (25, .getfield 133, 3), (28, .iaload, 1), (29, .ireturn, 1)]
set_option maxRecDepth 20000 in
theorem dn_53_0_ok : dn_53_0.all (fun q => decide (decode prog_5_method_20_code q.1 = .ok (q.2.1, q.2.2))) = true := by decide +kernel
def te_53_0 : Nat → eE := (e_T 12 (e_T 5 (e_T 1 (e_T 0 (e_L 0 (0, ei_load 0 2 1, 0, 0)) (e_L 1 (0, ei_getf eft elay 3 8 4, 0, 0))) (e_T 4 (e_L 4 (0, ei_push (0, 1) 5, 0, 0)) (e_L 5 (0, ei_if2 3 10 8, 0, 0)))) (e_T 9 (e_T 8 (e_L 8 (0, ei_push (0, 0) 9, 0, 0)) (e_L 9 (1, e_nof, 1, 0))) (e_T 10 (e_L 10 (0, ei_load 0 2 11, 0, 0)) (e_T 11 (e_L 11 (0, ei_stk ef_dup 12, 0, 0)) (e_L 12 (0, ei_getf eft elay 3 8 15, 0, 0)))))) (e_T 20 (e_T 16 (e_T 15 (e_L 15 (0, ei_push (0, 1) 16, 0, 0)) (e_L 16 (0, ei_bin eF_sub 17, 0, 0))) (e_T 17 (e_L 17 (0, ei_putf eft elay 3 8 0 20, 0, 0)) (e_L 20 (0, ei_load 0 2 21, 0, 0)))) (e_T 24 (e_T 21 (e_L 21 (0, ei_getf eft elay 3 6 24, 0, 0)) (e_L 24 (0, ei_load 0 2 25, 0, 0))) (e_T 25 (e_L 25 (0, ei_getf eft elay 3 8 28, 0, 0)) (e_T 28 (e_L 28 (0, ei_ald elay false 29, 0, 0)) (e_L 29 (1, e_nof, 1, 0)))))))
set_option maxRecDepth 20000 in
set_option maxHeartbeats 4000000 in
theorem te_53_0_ok : ∀ pc, e_EOq eft cls elay eI n_53 pc (te_53_0 pc) :=
  (e_Tok2
  (e_Tok2
  (e_Tok2
  (e_Tok2
  (e_Lok (e_st (I := eI) (er_aload_n (i := 0) (x_dk dn_53_0_ok 0 rfl))))
  (e_Lok (e_st (I := eI) (er_getf (ci := 3) (k := 8) (ix := 133) (N := 12) (C := RX3) (T := TX3) rfl in_X3 (by decide) (in_t3 (List.mem_of_getElem? (i := 102) rfl) rfl) (x_dk dn_53_0_ok 1 rfl)))))
  (e_Tok2
  (e_Lok (e_st (I := eI) (er_iconst (n := 1) (z := 1) (v := 1) (x_dk dn_53_0_ok 2 rfl) (by decide) (by decide))))
  (e_Lok (e_st (I := eI) (er_icmpge (off := 5) (tg := 10) (x_dk dn_53_0_ok 3 rfl) (by decide))))))
  (e_Tok2
  (e_Tok2
  (e_Lok (e_st (I := eI) (er_iconst (n := 0) (z := 0) (v := 0) (x_dk dn_53_0_ok 4 rfl) (by decide) (by decide))))
  (e_Lok (e_rt (I := eI) (k := 1) ⟨(x_dk dn_53_0_ok 5 rfl), rfl⟩)))
  (e_Tok2
  (e_Lok (e_st (I := eI) (er_aload_n (i := 0) (x_dk dn_53_0_ok 6 rfl))))
  (e_Tok2
  (e_Lok (e_st (I := eI) (er_dup (x_dk dn_53_0_ok 7 rfl))))
  (e_Lok (e_st (I := eI) (er_getf (ci := 3) (k := 8) (ix := 133) (N := 12) (C := RX3) (T := TX3) rfl in_X3 (by decide) (in_t3 (List.mem_of_getElem? (i := 102) rfl) rfl) (x_dk dn_53_0_ok 8 rfl))))))))
  (e_Tok2
  (e_Tok2
  (e_Tok2
  (e_Lok (e_st (I := eI) (er_iconst (n := 1) (z := 1) (v := 1) (x_dk dn_53_0_ok 9 rfl) (by decide) (by decide))))
  (e_Lok (e_st (I := eI) (er_isub (x_dk dn_53_0_ok 10 rfl)))))
  (e_Tok2
  (e_Lok (e_st (I := eI) (er_putf (ci := 3) (k := 8) (ix := 133) (N := 12) (fk := 0) (C := RX3) (T := TX3) (ty0 := tyX3) (ty := .int) rfl in_X3 tyX3_ok nmX3 (by decide) (in_t3 (List.mem_of_getElem? (i := 102) rfl) rfl) rfl rfl x_fit_int (x_dk dn_53_0_ok 11 rfl))))
  (e_Lok (e_st (I := eI) (er_aload_n (i := 0) (x_dk dn_53_0_ok 12 rfl))))))
  (e_Tok2
  (e_Tok2
  (e_Lok (e_st (I := eI) (er_getf (ci := 3) (k := 6) (ix := 48) (N := 12) (C := RX3) (T := TX3) rfl in_X3 (by decide) (in_t3 (List.mem_of_getElem? (i := 100) rfl) rfl) (x_dk dn_53_0_ok 13 rfl))))
  (e_Lok (e_st (I := eI) (er_aload_n (i := 0) (x_dk dn_53_0_ok 14 rfl)))))
  (e_Tok2
  (e_Lok (e_st (I := eI) (er_getf (ci := 3) (k := 8) (ix := 133) (N := 12) (C := RX3) (T := TX3) rfl in_X3 (by decide) (in_t3 (List.mem_of_getElem? (i := 102) rfl) rfl) (x_dk dn_53_0_ok 15 rfl))))
  (e_Tok2
  (e_Lok (e_st (I := eI) (er_iaload (x_dk dn_53_0_ok 16 rfl))))
  (e_Lok (e_rt (I := eI) (k := 1) ⟨(x_dk dn_53_0_ok 17 rfl), rfl⟩)))))))
def te_53 : Nat → eE := te_53_0
theorem te_53_ok : ∀ pc, e_EOq eft cls elay eI n_53 pc (te_53 pc) := te_53_0_ok
def dn_242_0 : List (Nat × Instr × Nat) := [(0, .iload_n 1, 1), (1, .iload_n 0, 1), (2, .if_icmp .gt 12, 3), (5, .iload_n 0, 1), (6, .iload_n 2, 1), (7, .if_icmp .gt 7, 3), (10, .iconst 1, 1), (11, .goto 4, 3), (14, .iconst 0, 1), (15, .ireturn, 1)]
set_option maxRecDepth 20000 in
theorem dn_242_0_ok : dn_242_0.all (fun q => decide (decode prog_1_method_54_code q.1 = .ok (q.2.1, q.2.2))) = true := by decide +kernel
def te_242_0 : Nat → eE := (e_T 6 (e_T 1 (e_T 0 (e_L 0 (0, ei_load 1 0 1, 0, 0)) (e_L 1 (0, ei_load 0 0 2, 0, 0))) (e_T 2 (e_L 2 (0, ei_if2 4 14 5, 0, 0)) (e_T 5 (e_L 5 (0, ei_load 0 0 6, 0, 0)) (e_L 6 (0, ei_load 2 0 7, 0, 0))))) (e_T 10 (e_T 7 (e_L 7 (0, ei_if2 4 14 10, 0, 0)) (e_L 10 (0, ei_push (0, 1) 11, 0, 0))) (e_T 11 (e_L 11 (0, ei_goto 15, 0, 0)) (e_T 14 (e_L 14 (0, ei_push (0, 0) 15, 0, 0)) (e_L 15 (1, e_nof, 4, 0))))))
set_option maxRecDepth 20000 in
set_option maxHeartbeats 4000000 in
theorem te_242_0_ok : ∀ pc, e_EOq eft cls elay eI n_242 pc (te_242_0 pc) :=
  (e_Tok2
  (e_Tok2
  (e_Tok2
  (e_Lok (e_st (I := eI) (er_iload_n (i := 1) (x_dk dn_242_0_ok 0 rfl))))
  (e_Lok (e_st (I := eI) (er_iload_n (i := 0) (x_dk dn_242_0_ok 1 rfl)))))
  (e_Tok2
  (e_Lok (e_st (I := eI) (er_icmpgt (off := 12) (tg := 14) (x_dk dn_242_0_ok 2 rfl) (by decide))))
  (e_Tok2
  (e_Lok (e_st (I := eI) (er_iload_n (i := 0) (x_dk dn_242_0_ok 3 rfl))))
  (e_Lok (e_st (I := eI) (er_iload_n (i := 2) (x_dk dn_242_0_ok 4 rfl)))))))
  (e_Tok2
  (e_Tok2
  (e_Lok (e_st (I := eI) (er_icmpgt (off := 7) (tg := 14) (x_dk dn_242_0_ok 5 rfl) (by decide))))
  (e_Lok (e_st (I := eI) (er_iconst (n := 1) (z := 1) (v := 1) (x_dk dn_242_0_ok 6 rfl) (by decide) (by decide)))))
  (e_Tok2
  (e_Lok (e_st (I := eI) (er_goto (off := 4) (tg := 15) (x_dk dn_242_0_ok 7 rfl) (by decide))))
  (e_Tok2
  (e_Lok (e_st (I := eI) (er_iconst (n := 0) (z := 0) (v := 0) (x_dk dn_242_0_ok 8 rfl) (by decide) (by decide))))
  (e_Lok (e_rt (I := eI) (k := 4) ⟨(x_dk dn_242_0_ok 9 rfl), rfl⟩))))))
def te_242 : Nat → eE := te_242_0
theorem te_242_ok : ∀ pc, e_EOq eft cls elay eI n_242 pc (te_242 pc) := te_242_0_ok
def dn_246_0 : List (Nat × Instr × Nat) := [(0, .iload_n 1, 1), (1, .iconst 0, 1), (2, .aload_n 0, 1), (3, .getfield 94, 3), (6, .iconst 1, 1), (7, .isub, 1), (8, .invokestatic 82, 3), (11, .ireturn, 1)]
set_option maxRecDepth 20000 in
theorem dn_246_0_ok : dn_246_0.all (fun q => decide (decode prog_1_method_58_code q.1 = .ok (q.2.1, q.2.2))) = true := by decide +kernel
def te_246_0 : Nat → eE := (e_T 3 (e_T 1 (e_T 0 (e_L 0 (0, ei_load 1 0 1, 0, 0)) (e_L 1 (0, ei_push (0, 0) 2, 0, 0))) (e_T 2 (e_L 2 (0, ei_load 0 2 3, 0, 0)) (e_L 3 (0, ei_getf eft elay 11 11 6, 0, 0)))) (e_T 7 (e_T 6 (e_L 6 (0, ei_push (0, 1) 7, 0, 0)) (e_L 7 (0, ei_bin eF_sub 8, 0, 0))) (e_T 8 (e_L 8 (2, e_nof, 242, 3)) (e_L 11 (1, e_nof, 4, 0)))))
set_option maxRecDepth 20000 in
set_option maxHeartbeats 4000000 in
theorem te_246_0_ok : ∀ pc, e_EOq eft cls elay eI n_246 pc (te_246_0 pc) :=
  (e_Tok2
  (e_Tok2
  (e_Tok2
  (e_Lok (e_st (I := eI) (er_iload_n (i := 1) (x_dk dn_246_0_ok 0 rfl))))
  (e_Lok (e_st (I := eI) (er_iconst (n := 0) (z := 0) (v := 0) (x_dk dn_246_0_ok 1 rfl) (by decide) (by decide)))))
  (e_Tok2
  (e_Lok (e_st (I := eI) (er_aload_n (i := 0) (x_dk dn_246_0_ok 2 rfl))))
  (e_Lok (e_st (I := eI) (er_getf (ci := 11) (k := 11) (ix := 94) (N := 15) (C := RX11) (T := TX11) rfl in_X11 (by decide) (in_t4 (List.mem_of_getElem? (i := 119) rfl) rfl) (x_dk dn_246_0_ok 3 rfl))))))
  (e_Tok2
  (e_Tok2
  (e_Lok (e_st (I := eI) (er_iconst (n := 1) (z := 1) (v := 1) (x_dk dn_246_0_ok 4 rfl) (by decide) (by decide))))
  (e_Lok (e_st (I := eI) (er_isub (x_dk dn_246_0_ok 5 rfl)))))
  (e_Tok2
  (e_Lok (e_ca (I := eI) (q' := n_242) rfl (xr_callS (q' := n_242) (ix := 82) (n := 3) (in_t4 (List.mem_of_getElem? (i := 168) rfl) rfl) good_w (in_t1 (List.mem_of_getElem? (i := 1) rfl) rfl) (in_t4 (List.mem_of_getElem? (i := 166) rfl) rfl) (in_t4 (List.mem_of_getElem? (i := 167) rfl) rfl) (by decide +kernel) (by decide +kernel) (x_dk dn_246_0_ok 6 rfl))))
  (e_Lok (e_rt (I := eI) (k := 4) ⟨(x_dk dn_246_0_ok 7 rfl), rfl⟩)))))
def te_246 : Nat → eE := te_246_0
theorem te_246_ok : ∀ pc, e_EOq eft cls elay eI n_246 pc (te_246 pc) := te_246_0_ok
def dn_266_0 : List (Nat × Instr × Nat) := [(0, .lload_n 0, 1), (1, .lload_n 2, 1), (2, .lcmp, 1), (3, .ifCond .lt 14, 3), (6, .lload_n 0, 1), (7, .lload 4, 2), (9, .lcmp, 1), (10, .ifCond .gt 7, 3), (13, .iconst 1, 1), (14, .goto 4, 3), (17, .iconst 0, 1), (18, .ireturn, 1)]
set_option maxRecDepth 20000 in
theorem dn_266_0_ok : dn_266_0.all (fun q => decide (decode prog_14_method_2_code q.1 = .ok (q.2.1, q.2.2))) = true := by decide +kernel
def te_266_0 : Nat → eE := (e_T 7 (e_T 2 (e_T 0 (e_L 0 (0, ei_load 0 1 1, 0, 0)) (e_T 1 (e_L 1 (0, ei_load 2 1 2, 0, 0)) (e_L 2 (0, ei_binL eG_cmp 3, 0, 0)))) (e_T 3 (e_L 3 (0, ei_if1 2 17 6, 0, 0)) (e_T 6 (e_L 6 (0, ei_load 0 1 7, 0, 0)) (e_L 7 (0, ei_load 4 1 9, 0, 0))))) (e_T 13 (e_T 9 (e_L 9 (0, ei_binL eG_cmp 10, 0, 0)) (e_T 10 (e_L 10 (0, ei_if1 4 17 13, 0, 0)) (e_L 13 (0, ei_push (0, 1) 14, 0, 0)))) (e_T 14 (e_L 14 (0, ei_goto 18, 0, 0)) (e_T 17 (e_L 17 (0, ei_push (0, 0) 18, 0, 0)) (e_L 18 (1, e_nof, 4, 0))))))
set_option maxRecDepth 20000 in
set_option maxHeartbeats 4000000 in
theorem te_266_0_ok : ∀ pc, e_EOq eft cls elay eI n_266 pc (te_266_0 pc) :=
  (e_Tok2
  (e_Tok2
  (e_Tok2
  (e_Lok (e_st (I := eI) (er_lload_n (i := 0) (x_dk dn_266_0_ok 0 rfl))))
  (e_Tok2
  (e_Lok (e_st (I := eI) (er_lload_n (i := 2) (x_dk dn_266_0_ok 1 rfl))))
  (e_Lok (e_st (I := eI) (er_lcmp (x_dk dn_266_0_ok 2 rfl))))))
  (e_Tok2
  (e_Lok (e_st (I := eI) (er_iflt (off := 14) (tg := 17) (x_dk dn_266_0_ok 3 rfl) (by decide))))
  (e_Tok2
  (e_Lok (e_st (I := eI) (er_lload_n (i := 0) (x_dk dn_266_0_ok 4 rfl))))
  (e_Lok (e_st (I := eI) (er_lload (i := 4) (x_dk dn_266_0_ok 5 rfl)))))))
  (e_Tok2
  (e_Tok2
  (e_Lok (e_st (I := eI) (er_lcmp (x_dk dn_266_0_ok 6 rfl))))
  (e_Tok2
  (e_Lok (e_st (I := eI) (er_ifgt (off := 7) (tg := 17) (x_dk dn_266_0_ok 7 rfl) (by decide))))
  (e_Lok (e_st (I := eI) (er_iconst (n := 1) (z := 1) (v := 1) (x_dk dn_266_0_ok 8 rfl) (by decide) (by decide))))))
  (e_Tok2
  (e_Lok (e_st (I := eI) (er_goto (off := 4) (tg := 18) (x_dk dn_266_0_ok 9 rfl) (by decide))))
  (e_Tok2
  (e_Lok (e_st (I := eI) (er_iconst (n := 0) (z := 0) (v := 0) (x_dk dn_266_0_ok 10 rfl) (by decide) (by decide))))
  (e_Lok (e_rt (I := eI) (k := 4) ⟨(x_dk dn_266_0_ok 11 rfl), rfl⟩))))))
def te_266 : Nat → eE := te_266_0
theorem te_266_ok : ∀ pc, e_EOq eft cls elay eI n_266 pc (te_266 pc) := te_266_0_ok
def dn_268_0 : List (Nat × Instr × Nat) := [(0, .bipush 16, 2), (2, .bipush 36, 2), (4, .iload_n 0, 1), (5, .imul, 1), (6, .iadd, 1), (7, .ireturn, 1)]
set_option maxRecDepth 20000 in
theorem dn_268_0_ok : dn_268_0.all (fun q => decide (decode prog_14_method_4_code q.1 = .ok (q.2.1, q.2.2))) = true := by decide +kernel
def te_268_0 : Nat → eE := (e_T 4 (e_T 0 (e_L 0 (0, ei_push (0, 16) 2, 0, 0)) (e_T 2 (e_L 2 (0, ei_push (0, 36) 4, 0, 0)) (e_L 4 (0, ei_load 0 0 5, 0, 0)))) (e_T 5 (e_L 5 (0, ei_bin eF_mul 6, 0, 0)) (e_T 6 (e_L 6 (0, ei_bin eF_add 7, 0, 0)) (e_L 7 (1, e_nof, 1, 0)))))
set_option maxRecDepth 20000 in
set_option maxHeartbeats 4000000 in
theorem te_268_0_ok : ∀ pc, e_EOq eft cls elay eI n_268 pc (te_268_0 pc) :=
  (e_Tok2
  (e_Tok2
  (e_Lok (e_st (I := eI) (er_bipush (n := 16) (z := 16) (v := 16) (x_dk dn_268_0_ok 0 rfl) (by decide) (by decide))))
  (e_Tok2
  (e_Lok (e_st (I := eI) (er_bipush (n := 36) (z := 36) (v := 36) (x_dk dn_268_0_ok 1 rfl) (by decide) (by decide))))
  (e_Lok (e_st (I := eI) (er_iload_n (i := 0) (x_dk dn_268_0_ok 2 rfl))))))
  (e_Tok2
  (e_Lok (e_st (I := eI) (er_imul (x_dk dn_268_0_ok 3 rfl))))
  (e_Tok2
  (e_Lok (e_st (I := eI) (er_iadd (x_dk dn_268_0_ok 4 rfl))))
  (e_Lok (e_rt (I := eI) (k := 1) ⟨(x_dk dn_268_0_ok 5 rfl), rfl⟩)))))
def te_268 : Nat → eE := te_268_0
theorem te_268_ok : ∀ pc, e_EOq eft cls elay eI n_268 pc (te_268 pc) := te_268_0_ok
def dn_269_0 : List (Nat × Instr × Nat) := [(0, .sipush 416, 3), (3, .sipush 1260, 3), (6, .iload_n 0, 1), (7, .imul, 1), (8, .iadd, 1), (9, .ireturn, 1)]
set_option maxRecDepth 20000 in
theorem dn_269_0_ok : dn_269_0.all (fun q => decide (decode prog_14_method_5_code q.1 = .ok (q.2.1, q.2.2))) = true := by decide +kernel
def te_269_0 : Nat → eE := (e_T 6 (e_T 0 (e_L 0 (0, ei_push (0, 416) 3, 0, 0)) (e_T 3 (e_L 3 (0, ei_push (0, 1260) 6, 0, 0)) (e_L 6 (0, ei_load 0 0 7, 0, 0)))) (e_T 7 (e_L 7 (0, ei_bin eF_mul 8, 0, 0)) (e_T 8 (e_L 8 (0, ei_bin eF_add 9, 0, 0)) (e_L 9 (1, e_nof, 1, 0)))))
set_option maxRecDepth 20000 in
set_option maxHeartbeats 4000000 in
theorem te_269_0_ok : ∀ pc, e_EOq eft cls elay eI n_269 pc (te_269_0 pc) :=
  (e_Tok2
  (e_Tok2
  (e_Lok (e_st (I := eI) (er_sipush (n := 416) (z := 416) (v := 416) (x_dk dn_269_0_ok 0 rfl) (by decide) (by decide))))
  (e_Tok2
  (e_Lok (e_st (I := eI) (er_sipush (n := 1260) (z := 1260) (v := 1260) (x_dk dn_269_0_ok 1 rfl) (by decide) (by decide))))
  (e_Lok (e_st (I := eI) (er_iload_n (i := 0) (x_dk dn_269_0_ok 2 rfl))))))
  (e_Tok2
  (e_Lok (e_st (I := eI) (er_imul (x_dk dn_269_0_ok 3 rfl))))
  (e_Tok2
  (e_Lok (e_st (I := eI) (er_iadd (x_dk dn_269_0_ok 4 rfl))))
  (e_Lok (e_rt (I := eI) (k := 1) ⟨(x_dk dn_269_0_ok 5 rfl), rfl⟩)))))
def te_269 : Nat → eE := te_269_0
theorem te_269_ok : ∀ pc, e_EOq eft cls elay eI n_269 pc (te_269 pc) := te_269_0_ok
def dn_270_0 : List (Nat × Instr × Nat) := [(0, .iload_n 1, 1), (1, .i2l, 1), (2, .lconst 0, 1), (3, .aload_n 0, 1), (4, .getfield 269, 3), (7, .iconst 1, 1), (8, .isub, 1), (9, .i2l, 1), (10, .invokestatic 301, 3), (13, .ireturn, 1)]
set_option maxRecDepth 20000 in
theorem dn_270_0_ok : dn_270_0.all (fun q => decide (decode prog_14_method_6_code q.1 = .ok (q.2.1, q.2.2))) = true := by decide +kernel
def te_270_0 : Nat → eE := (e_T 4 (e_T 1 (e_T 0 (e_L 0 (0, ei_load 1 0 1, 0, 0)) (e_L 1 (0, ei_un (fun x => (4, x)) 2, 0, 0))) (e_T 2 (e_L 2 (0, ei_push (4, 0) 3, 0, 0)) (e_T 3 (e_L 3 (0, ei_load 0 2 4, 0, 0)) (e_L 4 (0, ei_getf eft elay 12 10 7, 0, 0))))) (e_T 8 (e_T 7 (e_L 7 (0, ei_push (0, 1) 8, 0, 0)) (e_L 8 (0, ei_bin eF_sub 9, 0, 0))) (e_T 9 (e_L 9 (0, ei_un (fun x => (4, x)) 10, 0, 0)) (e_T 10 (e_L 10 (2, e_nof, 266, 3)) (e_L 13 (1, e_nof, 4, 0))))))
set_option maxRecDepth 20000 in
set_option maxHeartbeats 4000000 in
theorem te_270_0_ok : ∀ pc, e_EOq eft cls elay eI n_270 pc (te_270_0 pc) :=
  (e_Tok2
  (e_Tok2
  (e_Tok2
  (e_Lok (e_st (I := eI) (er_iload_n (i := 1) (x_dk dn_270_0_ok 0 rfl))))
  (e_Lok (e_st (I := eI) (er_i2l (x_dk dn_270_0_ok 1 rfl)))))
  (e_Tok2
  (e_Lok (e_st (I := eI) (er_lconst (n := 0) (z := 0) (v := 0) (x_dk dn_270_0_ok 2 rfl) (by decide) (by decide))))
  (e_Tok2
  (e_Lok (e_st (I := eI) (er_aload_n (i := 0) (x_dk dn_270_0_ok 3 rfl))))
  (e_Lok (e_st (I := eI) (er_getf (ci := 12) (k := 10) (ix := 269) (N := 119) (C := RX12) (T := TX12) rfl in_X12 (by decide) (in_t9 (List.mem_of_getElem? (i := 125) rfl) rfl) (x_dk dn_270_0_ok 4 rfl)))))))
  (e_Tok2
  (e_Tok2
  (e_Lok (e_st (I := eI) (er_iconst (n := 1) (z := 1) (v := 1) (x_dk dn_270_0_ok 5 rfl) (by decide) (by decide))))
  (e_Lok (e_st (I := eI) (er_isub (x_dk dn_270_0_ok 6 rfl)))))
  (e_Tok2
  (e_Lok (e_st (I := eI) (er_i2l (x_dk dn_270_0_ok 7 rfl))))
  (e_Tok2
  (e_Lok (e_ca (I := eI) (q' := n_266) rfl (xr_callS (q' := n_266) (ix := 301) (n := 3) (in_t11 (List.mem_of_getElem? (i := 7) rfl) rfl) good_w (in_t1 (List.mem_of_getElem? (i := 14) rfl) rfl) (in_t11 (List.mem_of_getElem? (i := 5) rfl) rfl) (in_t11 (List.mem_of_getElem? (i := 6) rfl) rfl) (by decide +kernel) (by decide +kernel) (x_dk dn_270_0_ok 8 rfl))))
  (e_Lok (e_rt (I := eI) (k := 4) ⟨(x_dk dn_270_0_ok 9 rfl), rfl⟩))))))
def te_270 : Nat → eE := te_270_0
theorem te_270_ok : ∀ pc, e_EOq eft cls elay eI n_270 pc (te_270 pc) := te_270_0_ok
def dn_319_0 : List (Nat × Instr × Nat) := [(0, .aload_n 0, 1), (1, .getfield 8, 3), (4, .iconst 5, 1), (5, .iaload, 1), (6, .sipush 2000, 3), (9, .if_icmp .ge 60, 3), (12, .sipush 25060, 3), (15, .iconst 4, 1), (16, .aload_n 0, 1), (17, .getfield 8, 3), (20, .iconst 5, 1), (21, .iaload, 1), (22, .imul, 1), (23, .iadd, 1), (24, .istore 4, 2), (26, .aload_n 0, 1), (27, .getfield 8, 3), (30, .iload 4, 2), (32, .aload_n 0, 1), (33, .getfield 8, 3), (36, .iconst 0, 1), (37, .iaload, 1), (38, .iastore, 1), (39, .aload_n 0, 1), (40, .getfield 8, 3), (43, .iload 4, 2), (45, .iconst 1, 1), (46, .iadd, 1), (47, .iload_n 1, 1), (48, .iastore, 1), (49, .aload_n 0, 1), (50, .getfield 8, 3), (53, .iload 4, 2), (55, .iconst 2, 1), (56, .iadd, 1), (57, .iload_n 2, 1), (58, .iastore, 1), (59, .aload_n 0, 1), (60, .getfield 8, 3), (63, .iload 4, 2), (65, .iconst 3, 1), (66, .iadd, 1), (67, .iload_n 3, 1), (68, .iastore, 1), (69, .aload_n 0, 1), (70, .getfield 8, 3), (73, .iconst 5, 1), (74, .dup2, 1), (75, .iaload, 1), (76, .iconst 1, 1), (77, .iadd, 1), (78, .iastore, 1), (79, .return_, 1)]
set_option maxRecDepth 20000 in
theorem dn_319_0_ok : dn_319_0.all (fun q => decide (decode prog_14_method_55_code q.1 = .ok (q.2.1, q.2.2))) = true := by decide +kernel
def te_319_0 : Nat → eE := (e_T 22 (e_T 9 (e_T 4 (e_T 0 (e_L 0 (0, ei_load 0 2 1, 0, 0)) (e_T 1 (e_L 1 (0, ei_getf eft elay 12 0 4, 0, 0)) (e_L 4 (0, ei_push (0, 5) 5, 0, 0)))) (e_T 5 (e_L 5 (0, ei_ald elay false 6, 0, 0)) (e_T 6 (e_L 6 (0, ei_push (0, 2000) 9, 0, 0)) (e_L 9 (0, ei_if2 3 69 12, 0, 0))))) (e_T 16 (e_T 12 (e_L 12 (0, ei_push (0, 25060) 15, 0, 0)) (e_T 15 (e_L 15 (0, ei_push (0, 4) 16, 0, 0)) (e_L 16 (0, ei_load 0 2 17, 0, 0)))) (e_T 20 (e_T 17 (e_L 17 (0, ei_getf eft elay 12 0 20, 0, 0)) (e_L 20 (0, ei_push (0, 5) 21, 0, 0))) (e_T 21 (e_L 21 (0, ei_ald elay false 22, 0, 0)) (e_L 22 (0, ei_bin eF_mul 23, 0, 0)))))) (e_T 32 (e_T 26 (e_T 23 (e_L 23 (0, ei_bin eF_add 24, 0, 0)) (e_T 24 (e_L 24 (0, ei_stor 4 0 26, 0, 0)) (e_L 26 (0, ei_load 0 2 27, 0, 0)))) (e_T 27 (e_L 27 (0, ei_getf eft elay 12 0 30, 0, 0)) (e_T 30 (e_L 30 (0, ei_load 4 0 32, 0, 0)) (e_L 32 (0, ei_load 0 2 33, 0, 0))))) (e_T 37 (e_T 33 (e_L 33 (0, ei_getf eft elay 12 0 36, 0, 0)) (e_T 36 (e_L 36 (0, ei_push (0, 0) 37, 0, 0)) (e_L 37 (0, ei_ald elay false 38, 0, 0)))) (e_T 39 (e_T 38 (e_L 38 (0, ei_ast elay false 39, 0, 0)) (e_L 39 (0, ei_load 0 2 40, 0, 0))) (e_T 40 (e_L 40 (0, ei_getf eft elay 12 0 43, 0, 0)) (e_L 43 (0, ei_load 4 0 45, 0, 0)))))))
set_option maxRecDepth 20000 in
set_option maxHeartbeats 4000000 in
theorem te_319_0_ok : ∀ pc, e_EOq eft cls elay eI n_319 pc (te_319_0 pc) :=
  (e_Tok2
  (e_Tok2
  (e_Tok2
  (e_Tok2
  (e_Lok (e_st (I := eI) (er_aload_n (i := 0) (x_dk dn_319_0_ok 0 rfl))))
  (e_Tok2
  (e_Lok (e_st (I := eI) (er_getf (ci := 12) (k := 0) (ix := 8) (N := 119) (C := RX12) (T := TX12) rfl in_X12 (by decide) (in_t9 (List.mem_of_getElem? (i := 115) rfl) rfl) (x_dk dn_319_0_ok 1 rfl))))
  (e_Lok (e_st (I := eI) (er_iconst (n := 5) (z := 5) (v := 5) (x_dk dn_319_0_ok 2 rfl) (by decide) (by decide))))))
  (e_Tok2
  (e_Lok (e_st (I := eI) (er_iaload (x_dk dn_319_0_ok 3 rfl))))
  (e_Tok2
  (e_Lok (e_st (I := eI) (er_sipush (n := 2000) (z := 2000) (v := 2000) (x_dk dn_319_0_ok 4 rfl) (by decide) (by decide))))
  (e_Lok (e_st (I := eI) (er_icmpge (off := 60) (tg := 69) (x_dk dn_319_0_ok 5 rfl) (by decide)))))))
  (e_Tok2
  (e_Tok2
  (e_Lok (e_st (I := eI) (er_sipush (n := 25060) (z := 25060) (v := 25060) (x_dk dn_319_0_ok 6 rfl) (by decide) (by decide))))
  (e_Tok2
  (e_Lok (e_st (I := eI) (er_iconst (n := 4) (z := 4) (v := 4) (x_dk dn_319_0_ok 7 rfl) (by decide) (by decide))))
  (e_Lok (e_st (I := eI) (er_aload_n (i := 0) (x_dk dn_319_0_ok 8 rfl))))))
  (e_Tok2
  (e_Tok2
  (e_Lok (e_st (I := eI) (er_getf (ci := 12) (k := 0) (ix := 8) (N := 119) (C := RX12) (T := TX12) rfl in_X12 (by decide) (in_t9 (List.mem_of_getElem? (i := 115) rfl) rfl) (x_dk dn_319_0_ok 9 rfl))))
  (e_Lok (e_st (I := eI) (er_iconst (n := 5) (z := 5) (v := 5) (x_dk dn_319_0_ok 10 rfl) (by decide) (by decide)))))
  (e_Tok2
  (e_Lok (e_st (I := eI) (er_iaload (x_dk dn_319_0_ok 11 rfl))))
  (e_Lok (e_st (I := eI) (er_imul (x_dk dn_319_0_ok 12 rfl))))))))
  (e_Tok2
  (e_Tok2
  (e_Tok2
  (e_Lok (e_st (I := eI) (er_iadd (x_dk dn_319_0_ok 13 rfl))))
  (e_Tok2
  (e_Lok (e_st (I := eI) (er_istore (i := 4) (x_dk dn_319_0_ok 14 rfl) (by decide +kernel))))
  (e_Lok (e_st (I := eI) (er_aload_n (i := 0) (x_dk dn_319_0_ok 15 rfl))))))
  (e_Tok2
  (e_Lok (e_st (I := eI) (er_getf (ci := 12) (k := 0) (ix := 8) (N := 119) (C := RX12) (T := TX12) rfl in_X12 (by decide) (in_t9 (List.mem_of_getElem? (i := 115) rfl) rfl) (x_dk dn_319_0_ok 16 rfl))))
  (e_Tok2
  (e_Lok (e_st (I := eI) (er_iload (i := 4) (x_dk dn_319_0_ok 17 rfl))))
  (e_Lok (e_st (I := eI) (er_aload_n (i := 0) (x_dk dn_319_0_ok 18 rfl)))))))
  (e_Tok2
  (e_Tok2
  (e_Lok (e_st (I := eI) (er_getf (ci := 12) (k := 0) (ix := 8) (N := 119) (C := RX12) (T := TX12) rfl in_X12 (by decide) (in_t9 (List.mem_of_getElem? (i := 115) rfl) rfl) (x_dk dn_319_0_ok 19 rfl))))
  (e_Tok2
  (e_Lok (e_st (I := eI) (er_iconst (n := 0) (z := 0) (v := 0) (x_dk dn_319_0_ok 20 rfl) (by decide) (by decide))))
  (e_Lok (e_st (I := eI) (er_iaload (x_dk dn_319_0_ok 21 rfl))))))
  (e_Tok2
  (e_Tok2
  (e_Lok (e_st (I := eI) (er_iastore (x_dk dn_319_0_ok 22 rfl))))
  (e_Lok (e_st (I := eI) (er_aload_n (i := 0) (x_dk dn_319_0_ok 23 rfl)))))
  (e_Tok2
  (e_Lok (e_st (I := eI) (er_getf (ci := 12) (k := 0) (ix := 8) (N := 119) (C := RX12) (T := TX12) rfl in_X12 (by decide) (in_t9 (List.mem_of_getElem? (i := 115) rfl) rfl) (x_dk dn_319_0_ok 24 rfl))))
  (e_Lok (e_st (I := eI) (er_iload (i := 4) (x_dk dn_319_0_ok 25 rfl)))))))))
def te_319_26 : Nat → eE := (e_T 60 (e_T 50 (e_T 47 (e_T 45 (e_L 45 (0, ei_push (0, 1) 46, 0, 0)) (e_T 46 (e_L 46 (0, ei_bin eF_add 47, 0, 0)) (e_L 47 (0, ei_load 1 0 48, 0, 0)))) (e_T 48 (e_L 48 (0, ei_ast elay false 49, 0, 0)) (e_T 49 (e_L 49 (0, ei_load 0 2 50, 0, 0)) (e_L 50 (0, ei_getf eft elay 12 0 53, 0, 0))))) (e_T 56 (e_T 53 (e_L 53 (0, ei_load 4 0 55, 0, 0)) (e_T 55 (e_L 55 (0, ei_push (0, 2) 56, 0, 0)) (e_L 56 (0, ei_bin eF_add 57, 0, 0)))) (e_T 58 (e_T 57 (e_L 57 (0, ei_load 2 0 58, 0, 0)) (e_L 58 (0, ei_ast elay false 59, 0, 0))) (e_T 59 (e_L 59 (0, ei_load 0 2 60, 0, 0)) (e_L 60 (0, ei_getf eft elay 12 0 63, 0, 0)))))) (e_T 70 (e_T 66 (e_T 63 (e_L 63 (0, ei_load 4 0 65, 0, 0)) (e_T 65 (e_L 65 (0, ei_push (0, 3) 66, 0, 0)) (e_L 66 (0, ei_bin eF_add 67, 0, 0)))) (e_T 68 (e_T 67 (e_L 67 (0, ei_load 3 0 68, 0, 0)) (e_L 68 (0, ei_ast elay false 69, 0, 0))) (e_T 69 (e_L 69 (0, ei_load 0 2 70, 0, 0)) (e_L 70 (0, ei_getf eft elay 12 0 73, 0, 0))))) (e_T 75 (e_T 73 (e_L 73 (0, ei_push (0, 5) 74, 0, 0)) (e_T 74 (e_L 74 (0, ei_stk ef_dup2 75, 0, 0)) (e_L 75 (0, ei_ald elay false 76, 0, 0)))) (e_T 77 (e_T 76 (e_L 76 (0, ei_push (0, 1) 77, 0, 0)) (e_L 77 (0, ei_bin eF_add 78, 0, 0))) (e_T 78 (e_L 78 (0, ei_ast elay false 79, 0, 0)) (e_L 79 (1, e_nof, 0, 0)))))))
set_option maxRecDepth 20000 in
set_option maxHeartbeats 4000000 in
theorem te_319_26_ok : ∀ pc, e_EOq eft cls elay eI n_319 pc (te_319_26 pc) :=
  (e_Tok2
  (e_Tok2
  (e_Tok2
  (e_Tok2
  (e_Lok (e_st (I := eI) (er_iconst (n := 1) (z := 1) (v := 1) (x_dk dn_319_0_ok 26 rfl) (by decide) (by decide))))
  (e_Tok2
  (e_Lok (e_st (I := eI) (er_iadd (x_dk dn_319_0_ok 27 rfl))))
  (e_Lok (e_st (I := eI) (er_iload_n (i := 1) (x_dk dn_319_0_ok 28 rfl))))))
  (e_Tok2
  (e_Lok (e_st (I := eI) (er_iastore (x_dk dn_319_0_ok 29 rfl))))
  (e_Tok2
  (e_Lok (e_st (I := eI) (er_aload_n (i := 0) (x_dk dn_319_0_ok 30 rfl))))
  (e_Lok (e_st (I := eI) (er_getf (ci := 12) (k := 0) (ix := 8) (N := 119) (C := RX12) (T := TX12) rfl in_X12 (by decide) (in_t9 (List.mem_of_getElem? (i := 115) rfl) rfl) (x_dk dn_319_0_ok 31 rfl)))))))
  (e_Tok2
  (e_Tok2
  (e_Lok (e_st (I := eI) (er_iload (i := 4) (x_dk dn_319_0_ok 32 rfl))))
  (e_Tok2
  (e_Lok (e_st (I := eI) (er_iconst (n := 2) (z := 2) (v := 2) (x_dk dn_319_0_ok 33 rfl) (by decide) (by decide))))
  (e_Lok (e_st (I := eI) (er_iadd (x_dk dn_319_0_ok 34 rfl))))))
  (e_Tok2
  (e_Tok2
  (e_Lok (e_st (I := eI) (er_iload_n (i := 2) (x_dk dn_319_0_ok 35 rfl))))
  (e_Lok (e_st (I := eI) (er_iastore (x_dk dn_319_0_ok 36 rfl)))))
  (e_Tok2
  (e_Lok (e_st (I := eI) (er_aload_n (i := 0) (x_dk dn_319_0_ok 37 rfl))))
  (e_Lok (e_st (I := eI) (er_getf (ci := 12) (k := 0) (ix := 8) (N := 119) (C := RX12) (T := TX12) rfl in_X12 (by decide) (in_t9 (List.mem_of_getElem? (i := 115) rfl) rfl) (x_dk dn_319_0_ok 38 rfl))))))))
  (e_Tok2
  (e_Tok2
  (e_Tok2
  (e_Lok (e_st (I := eI) (er_iload (i := 4) (x_dk dn_319_0_ok 39 rfl))))
  (e_Tok2
  (e_Lok (e_st (I := eI) (er_iconst (n := 3) (z := 3) (v := 3) (x_dk dn_319_0_ok 40 rfl) (by decide) (by decide))))
  (e_Lok (e_st (I := eI) (er_iadd (x_dk dn_319_0_ok 41 rfl))))))
  (e_Tok2
  (e_Tok2
  (e_Lok (e_st (I := eI) (er_iload_n (i := 3) (x_dk dn_319_0_ok 42 rfl))))
  (e_Lok (e_st (I := eI) (er_iastore (x_dk dn_319_0_ok 43 rfl)))))
  (e_Tok2
  (e_Lok (e_st (I := eI) (er_aload_n (i := 0) (x_dk dn_319_0_ok 44 rfl))))
  (e_Lok (e_st (I := eI) (er_getf (ci := 12) (k := 0) (ix := 8) (N := 119) (C := RX12) (T := TX12) rfl in_X12 (by decide) (in_t9 (List.mem_of_getElem? (i := 115) rfl) rfl) (x_dk dn_319_0_ok 45 rfl)))))))
  (e_Tok2
  (e_Tok2
  (e_Lok (e_st (I := eI) (er_iconst (n := 5) (z := 5) (v := 5) (x_dk dn_319_0_ok 46 rfl) (by decide) (by decide))))
  (e_Tok2
  (e_Lok (e_st (I := eI) (er_dup2 (x_dk dn_319_0_ok 47 rfl))))
  (e_Lok (e_st (I := eI) (er_iaload (x_dk dn_319_0_ok 48 rfl))))))
  (e_Tok2
  (e_Tok2
  (e_Lok (e_st (I := eI) (er_iconst (n := 1) (z := 1) (v := 1) (x_dk dn_319_0_ok 49 rfl) (by decide) (by decide))))
  (e_Lok (e_st (I := eI) (er_iadd (x_dk dn_319_0_ok 50 rfl)))))
  (e_Tok2
  (e_Lok (e_st (I := eI) (er_iastore (x_dk dn_319_0_ok 51 rfl))))
  (e_Lok (e_rt (I := eI) (k := 0) ⟨(x_dk dn_319_0_ok 52 rfl), rfl⟩)))))))
def te_319 : Nat → eE := (e_T 43 te_319_0 te_319_26)
theorem te_319_ok : ∀ pc, e_EOq eft cls elay eI n_319 pc (te_319 pc) := (e_Tok2 (te_319_0_ok) (te_319_26_ok))
def dn_320_0 : List (Nat × Instr × Nat) := [(0, .iconst 0, 1), (1, .istore_n 2, 1), (2, .iload_n 1, 1), (3, .istore_n 3, 1), (4, .aload_n 0, 1), (5, .getfield 8, 3), (8, .sipush 224, 3), (11, .iload_n 3, 1), (12, .iadd, 1), (13, .iaload, 1), (14, .ifCond .ne 32, 3), (17, .aload_n 0, 1), (18, .getfield 140, 3), (21, .iload_n 3, 1), (22, .iaload, 1), (23, .ifCond .lt 23, 3), (26, .aload_n 0, 1), (27, .getfield 164, 3), (30, .iload_n 2, 1), (31, .iload_n 3, 1), (32, .iastore, 1), (33, .iinc 2 1, 3), (36, .aload_n 0, 1), (37, .getfield 140, 3), (40, .iload_n 3, 1), (41, .iaload, 1), (42, .istore_n 3, 1), (43, .goto (-39), 3), (46, .aload_n 0, 1), (47, .getfield 8, 3), (50, .sipush 224, 3), (53, .iload_n 3, 1), (54, .iadd, 1), (55, .iaload, 1), (56, .iconst 1, 1), (57, .if_icmp .ne 16, 3), (60, .aload_n 0, 1), (61, .getfield 8, 3), (64, .sipush 288, 3), (67, .iload_n 3, 1), (68, .iadd, 1), (69, .iaload, 1), (70, .goto 13, 3), (73, .aload_n 0, 1), (74, .getfield 8, 3), (77, .sipush 160, 3), (80, .iload_n 3, 1), (81, .iadd, 1), (82, .iaload, 1), (83, .istore 4, 2), (85, .iload_n 2, 1), (86, .iconst 1, 1), (87, .isub, 1), (88, .istore 5, 2), (90, .iload 5, 2), (92, .ifCond .lt 41, 3), (95, .aload_n 0, 1), (96, .getfield 143, 3), (99, .aload_n 0, 1), (100, .getfield 164, 3), (103, .iload 5, 2), (105, .iaload, 1), (106, .baload, 1), (107, .ifCond .ne 8, 3), (110, .iload 4, 2), (112, .goto 13, 3), (115, .iload 4, 2), (117, .ifCond .ne 7, 3), (120, .iconst 1, 1), (121, .goto 4, 3), (124, .iconst 0, 1), (125, .istore 4, 2), (127, .iinc 5 (-1), 3), (130, .goto (-40), 3), (133, .iload 4, 2), (135, .ireturn, 1)]
set_option maxRecDepth 20000 in
theorem dn_320_0_ok : dn_320_0.all (fun q => decide (decode prog_14_method_56_code q.1 = .ok (q.2.1, q.2.2))) = true := by decide +kernel
def te_320_0 : Nat → eE := (e_T 30 (e_T 12 (e_T 3 (e_T 1 (e_T 0 (e_L 0 (0, ei_push (0, 0) 1, 0, 0)) (e_L 1 (0, ei_stor 2 0 2, 0, 0))) (e_T 2 (e_L 2 (0, ei_load 1 0 3, 0, 0)) (e_L 3 (0, ei_stor 3 0 4, 0, 0)))) (e_T 5 (e_T 4 (e_L 4 (0, ei_load 0 2 5, 0, 0)) (e_L 5 (0, ei_getf eft elay 12 0 8, 0, 0))) (e_T 8 (e_L 8 (0, ei_push (0, 224) 11, 0, 0)) (e_T 11 (e_L 11 (0, ei_load 3 0 12, 0, 0)) (e_L 12 (0, ei_bin eF_add 13, 0, 0)))))) (e_T 21 (e_T 14 (e_T 13 (e_L 13 (0, ei_ald elay false 14, 0, 0)) (e_L 14 (0, ei_if1 1 46 17, 0, 0))) (e_T 17 (e_L 17 (0, ei_load 0 2 18, 0, 0)) (e_T 18 (e_L 18 (0, ei_getf eft elay 12 52 21, 0, 0)) (e_L 21 (0, ei_load 3 0 22, 0, 0))))) (e_T 23 (e_T 22 (e_L 22 (0, ei_ald elay false 23, 0, 0)) (e_L 23 (0, ei_if1 2 46 26, 0, 0))) (e_T 26 (e_L 26 (0, ei_load 0 2 27, 0, 0)) (e_T 27 (e_L 27 (0, ei_getf eft elay 12 63 30, 0, 0)) (e_L 30 (0, ei_load 2 0 31, 0, 0))))))) (e_T 43 (e_T 36 (e_T 32 (e_T 31 (e_L 31 (0, ei_load 3 0 32, 0, 0)) (e_L 32 (0, ei_ast elay false 33, 0, 0))) (e_T 33 (e_L 33 (0, ei_inc 2 1 36, 0, 0)) (e_L 36 (0, ei_load 0 2 37, 0, 0)))) (e_T 40 (e_T 37 (e_L 37 (0, ei_getf eft elay 12 52 40, 0, 0)) (e_L 40 (0, ei_load 3 0 41, 0, 0))) (e_T 41 (e_L 41 (0, ei_ald elay false 42, 0, 0)) (e_T 42 (e_L 42 (0, ei_stor 3 0 43, 0, 0)) (e_L 43 (0, ei_goto 4, 0, 0)))))) (e_T 54 (e_T 47 (e_T 46 (e_L 46 (0, ei_load 0 2 47, 0, 0)) (e_L 47 (0, ei_getf eft elay 12 0 50, 0, 0))) (e_T 50 (e_L 50 (0, ei_push (0, 224) 53, 0, 0)) (e_T 53 (e_L 53 (0, ei_load 3 0 54, 0, 0)) (e_L 54 (0, ei_bin eF_add 55, 0, 0))))) (e_T 56 (e_T 55 (e_L 55 (0, ei_ald elay false 56, 0, 0)) (e_L 56 (0, ei_push (0, 1) 57, 0, 0))) (e_T 57 (e_L 57 (0, ei_if2 1 73 60, 0, 0)) (e_T 60 (e_L 60 (0, ei_load 0 2 61, 0, 0)) (e_L 61 (0, ei_getf eft elay 12 0 64, 0, 0))))))))
set_option maxRecDepth 20000 in
set_option maxHeartbeats 4000000 in
theorem te_320_0_ok : ∀ pc, e_EOq eft cls elay eI n_320 pc (te_320_0 pc) :=
  (e_Tok2
  (e_Tok2
  (e_Tok2
  (e_Tok2
  (e_Tok2
  (e_Lok (e_st (I := eI) (er_iconst (n := 0) (z := 0) (v := 0) (x_dk dn_320_0_ok 0 rfl) (by decide) (by decide))))
  (e_Lok (e_st (I := eI) (er_istore_n (i := 2) (x_dk dn_320_0_ok 1 rfl) (by decide +kernel)))))
  (e_Tok2
  (e_Lok (e_st (I := eI) (er_iload_n (i := 1) (x_dk dn_320_0_ok 2 rfl))))
  (e_Lok (e_st (I := eI) (er_istore_n (i := 3) (x_dk dn_320_0_ok 3 rfl) (by decide +kernel))))))
  (e_Tok2
  (e_Tok2
  (e_Lok (e_st (I := eI) (er_aload_n (i := 0) (x_dk dn_320_0_ok 4 rfl))))
  (e_Lok (e_st (I := eI) (er_getf (ci := 12) (k := 0) (ix := 8) (N := 119) (C := RX12) (T := TX12) rfl in_X12 (by decide) (in_t9 (List.mem_of_getElem? (i := 115) rfl) rfl) (x_dk dn_320_0_ok 5 rfl)))))
  (e_Tok2
  (e_Lok (e_st (I := eI) (er_sipush (n := 224) (z := 224) (v := 224) (x_dk dn_320_0_ok 6 rfl) (by decide) (by decide))))
  (e_Tok2
  (e_Lok (e_st (I := eI) (er_iload_n (i := 3) (x_dk dn_320_0_ok 7 rfl))))
  (e_Lok (e_st (I := eI) (er_iadd (x_dk dn_320_0_ok 8 rfl))))))))
  (e_Tok2
  (e_Tok2
  (e_Tok2
  (e_Lok (e_st (I := eI) (er_iaload (x_dk dn_320_0_ok 9 rfl))))
  (e_Lok (e_st (I := eI) (er_ifne (off := 32) (tg := 46) (x_dk dn_320_0_ok 10 rfl) (by decide)))))
  (e_Tok2
  (e_Lok (e_st (I := eI) (er_aload_n (i := 0) (x_dk dn_320_0_ok 11 rfl))))
  (e_Tok2
  (e_Lok (e_st (I := eI) (er_getf (ci := 12) (k := 52) (ix := 140) (N := 119) (C := RX12) (T := TX12) rfl in_X12 (by decide) (in_t9 (List.mem_of_getElem? (i := 167) rfl) rfl) (x_dk dn_320_0_ok 12 rfl))))
  (e_Lok (e_st (I := eI) (er_iload_n (i := 3) (x_dk dn_320_0_ok 13 rfl)))))))
  (e_Tok2
  (e_Tok2
  (e_Lok (e_st (I := eI) (er_iaload (x_dk dn_320_0_ok 14 rfl))))
  (e_Lok (e_st (I := eI) (er_iflt (off := 23) (tg := 46) (x_dk dn_320_0_ok 15 rfl) (by decide)))))
  (e_Tok2
  (e_Lok (e_st (I := eI) (er_aload_n (i := 0) (x_dk dn_320_0_ok 16 rfl))))
  (e_Tok2
  (e_Lok (e_st (I := eI) (er_getf (ci := 12) (k := 63) (ix := 164) (N := 119) (C := RX12) (T := TX12) rfl in_X12 (by decide) (in_t9 (List.mem_of_getElem? (i := 178) rfl) rfl) (x_dk dn_320_0_ok 17 rfl))))
  (e_Lok (e_st (I := eI) (er_iload_n (i := 2) (x_dk dn_320_0_ok 18 rfl)))))))))
  (e_Tok2
  (e_Tok2
  (e_Tok2
  (e_Tok2
  (e_Lok (e_st (I := eI) (er_iload_n (i := 3) (x_dk dn_320_0_ok 19 rfl))))
  (e_Lok (e_st (I := eI) (er_iastore (x_dk dn_320_0_ok 20 rfl)))))
  (e_Tok2
  (e_Lok (e_st (I := eI) (er_iinc (i := 2) (n := 1) (x_dk dn_320_0_ok 21 rfl) (by decide +kernel) (by decide))))
  (e_Lok (e_st (I := eI) (er_aload_n (i := 0) (x_dk dn_320_0_ok 22 rfl))))))
  (e_Tok2
  (e_Tok2
  (e_Lok (e_st (I := eI) (er_getf (ci := 12) (k := 52) (ix := 140) (N := 119) (C := RX12) (T := TX12) rfl in_X12 (by decide) (in_t9 (List.mem_of_getElem? (i := 167) rfl) rfl) (x_dk dn_320_0_ok 23 rfl))))
  (e_Lok (e_st (I := eI) (er_iload_n (i := 3) (x_dk dn_320_0_ok 24 rfl)))))
  (e_Tok2
  (e_Lok (e_st (I := eI) (er_iaload (x_dk dn_320_0_ok 25 rfl))))
  (e_Tok2
  (e_Lok (e_st (I := eI) (er_istore_n (i := 3) (x_dk dn_320_0_ok 26 rfl) (by decide +kernel))))
  (e_Lok (e_st (I := eI) (er_goto (off := (-39)) (tg := 4) (x_dk dn_320_0_ok 27 rfl) (by decide))))))))
  (e_Tok2
  (e_Tok2
  (e_Tok2
  (e_Lok (e_st (I := eI) (er_aload_n (i := 0) (x_dk dn_320_0_ok 28 rfl))))
  (e_Lok (e_st (I := eI) (er_getf (ci := 12) (k := 0) (ix := 8) (N := 119) (C := RX12) (T := TX12) rfl in_X12 (by decide) (in_t9 (List.mem_of_getElem? (i := 115) rfl) rfl) (x_dk dn_320_0_ok 29 rfl)))))
  (e_Tok2
  (e_Lok (e_st (I := eI) (er_sipush (n := 224) (z := 224) (v := 224) (x_dk dn_320_0_ok 30 rfl) (by decide) (by decide))))
  (e_Tok2
  (e_Lok (e_st (I := eI) (er_iload_n (i := 3) (x_dk dn_320_0_ok 31 rfl))))
  (e_Lok (e_st (I := eI) (er_iadd (x_dk dn_320_0_ok 32 rfl)))))))
  (e_Tok2
  (e_Tok2
  (e_Lok (e_st (I := eI) (er_iaload (x_dk dn_320_0_ok 33 rfl))))
  (e_Lok (e_st (I := eI) (er_iconst (n := 1) (z := 1) (v := 1) (x_dk dn_320_0_ok 34 rfl) (by decide) (by decide)))))
  (e_Tok2
  (e_Lok (e_st (I := eI) (er_icmpne (off := 16) (tg := 73) (x_dk dn_320_0_ok 35 rfl) (by decide))))
  (e_Tok2
  (e_Lok (e_st (I := eI) (er_aload_n (i := 0) (x_dk dn_320_0_ok 36 rfl))))
  (e_Lok (e_st (I := eI) (er_getf (ci := 12) (k := 0) (ix := 8) (N := 119) (C := RX12) (T := TX12) rfl in_X12 (by decide) (in_t9 (List.mem_of_getElem? (i := 115) rfl) rfl) (x_dk dn_320_0_ok 37 rfl))))))))))
def te_320_38 : Nat → eE := (e_T 95 (e_T 80 (e_T 69 (e_T 67 (e_T 64 (e_L 64 (0, ei_push (0, 288) 67, 0, 0)) (e_L 67 (0, ei_load 3 0 68, 0, 0))) (e_T 68 (e_L 68 (0, ei_bin eF_add 69, 0, 0)) (e_L 69 (0, ei_ald elay false 70, 0, 0)))) (e_T 73 (e_T 70 (e_L 70 (0, ei_goto 83, 0, 0)) (e_L 73 (0, ei_load 0 2 74, 0, 0))) (e_T 74 (e_L 74 (0, ei_getf eft elay 12 0 77, 0, 0)) (e_T 77 (e_L 77 (0, ei_push (0, 160) 80, 0, 0)) (e_L 80 (0, ei_load 3 0 81, 0, 0)))))) (e_T 86 (e_T 82 (e_T 81 (e_L 81 (0, ei_bin eF_add 82, 0, 0)) (e_L 82 (0, ei_ald elay false 83, 0, 0))) (e_T 83 (e_L 83 (0, ei_stor 4 0 85, 0, 0)) (e_T 85 (e_L 85 (0, ei_load 2 0 86, 0, 0)) (e_L 86 (0, ei_push (0, 1) 87, 0, 0))))) (e_T 88 (e_T 87 (e_L 87 (0, ei_bin eF_sub 88, 0, 0)) (e_L 88 (0, ei_stor 5 0 90, 0, 0))) (e_T 90 (e_L 90 (0, ei_load 5 0 92, 0, 0)) (e_T 92 (e_L 92 (0, ei_if1 2 133 95, 0, 0)) (e_L 95 (0, ei_load 0 2 96, 0, 0))))))) (e_T 112 (e_T 103 (e_T 99 (e_T 96 (e_L 96 (0, ei_getf eft elay 12 53 99, 0, 0)) (e_L 99 (0, ei_load 0 2 100, 0, 0))) (e_T 100 (e_L 100 (0, ei_getf eft elay 12 63 103, 0, 0)) (e_L 103 (0, ei_load 5 0 105, 0, 0)))) (e_T 106 (e_T 105 (e_L 105 (0, ei_ald elay false 106, 0, 0)) (e_L 106 (0, ei_ald elay true 107, 0, 0))) (e_T 107 (e_L 107 (0, ei_if1 1 115 110, 0, 0)) (e_T 110 (e_L 110 (0, ei_load 4 0 112, 0, 0)) (e_L 112 (0, ei_goto 125, 0, 0)))))) (e_T 124 (e_T 117 (e_T 115 (e_L 115 (0, ei_load 4 0 117, 0, 0)) (e_L 117 (0, ei_if1 1 124 120, 0, 0))) (e_T 120 (e_L 120 (0, ei_push (0, 1) 121, 0, 0)) (e_T 121 (e_L 121 (0, ei_goto 125, 0, 0)) (e_L 124 (0, ei_push (0, 0) 125, 0, 0))))) (e_T 127 (e_T 125 (e_L 125 (0, ei_stor 4 0 127, 0, 0)) (e_L 127 (0, ei_inc 5 (-1) 130, 0, 0))) (e_T 130 (e_L 130 (0, ei_goto 90, 0, 0)) (e_T 133 (e_L 133 (0, ei_load 4 0 135, 0, 0)) (e_L 135 (1, e_nof, 1, 0))))))))
set_option maxRecDepth 20000 in
set_option maxHeartbeats 4000000 in
theorem te_320_38_ok : ∀ pc, e_EOq eft cls elay eI n_320 pc (te_320_38 pc) :=
  (e_Tok2
  (e_Tok2
  (e_Tok2
  (e_Tok2
  (e_Tok2
  (e_Lok (e_st (I := eI) (er_sipush (n := 288) (z := 288) (v := 288) (x_dk dn_320_0_ok 38 rfl) (by decide) (by decide))))
  (e_Lok (e_st (I := eI) (er_iload_n (i := 3) (x_dk dn_320_0_ok 39 rfl)))))
  (e_Tok2
  (e_Lok (e_st (I := eI) (er_iadd (x_dk dn_320_0_ok 40 rfl))))
  (e_Lok (e_st (I := eI) (er_iaload (x_dk dn_320_0_ok 41 rfl))))))
  (e_Tok2
  (e_Tok2
  (e_Lok (e_st (I := eI) (er_goto (off := 13) (tg := 83) (x_dk dn_320_0_ok 42 rfl) (by decide))))
  (e_Lok (e_st (I := eI) (er_aload_n (i := 0) (x_dk dn_320_0_ok 43 rfl)))))
  (e_Tok2
  (e_Lok (e_st (I := eI) (er_getf (ci := 12) (k := 0) (ix := 8) (N := 119) (C := RX12) (T := TX12) rfl in_X12 (by decide) (in_t9 (List.mem_of_getElem? (i := 115) rfl) rfl) (x_dk dn_320_0_ok 44 rfl))))
  (e_Tok2
  (e_Lok (e_st (I := eI) (er_sipush (n := 160) (z := 160) (v := 160) (x_dk dn_320_0_ok 45 rfl) (by decide) (by decide))))
  (e_Lok (e_st (I := eI) (er_iload_n (i := 3) (x_dk dn_320_0_ok 46 rfl))))))))
  (e_Tok2
  (e_Tok2
  (e_Tok2
  (e_Lok (e_st (I := eI) (er_iadd (x_dk dn_320_0_ok 47 rfl))))
  (e_Lok (e_st (I := eI) (er_iaload (x_dk dn_320_0_ok 48 rfl)))))
  (e_Tok2
  (e_Lok (e_st (I := eI) (er_istore (i := 4) (x_dk dn_320_0_ok 49 rfl) (by decide +kernel))))
  (e_Tok2
  (e_Lok (e_st (I := eI) (er_iload_n (i := 2) (x_dk dn_320_0_ok 50 rfl))))
  (e_Lok (e_st (I := eI) (er_iconst (n := 1) (z := 1) (v := 1) (x_dk dn_320_0_ok 51 rfl) (by decide) (by decide)))))))
  (e_Tok2
  (e_Tok2
  (e_Lok (e_st (I := eI) (er_isub (x_dk dn_320_0_ok 52 rfl))))
  (e_Lok (e_st (I := eI) (er_istore (i := 5) (x_dk dn_320_0_ok 53 rfl) (by decide +kernel)))))
  (e_Tok2
  (e_Lok (e_st (I := eI) (er_iload (i := 5) (x_dk dn_320_0_ok 54 rfl))))
  (e_Tok2
  (e_Lok (e_st (I := eI) (er_iflt (off := 41) (tg := 133) (x_dk dn_320_0_ok 55 rfl) (by decide))))
  (e_Lok (e_st (I := eI) (er_aload_n (i := 0) (x_dk dn_320_0_ok 56 rfl)))))))))
  (e_Tok2
  (e_Tok2
  (e_Tok2
  (e_Tok2
  (e_Lok (e_st (I := eI) (er_getf (ci := 12) (k := 53) (ix := 143) (N := 119) (C := RX12) (T := TX12) rfl in_X12 (by decide) (in_t9 (List.mem_of_getElem? (i := 168) rfl) rfl) (x_dk dn_320_0_ok 57 rfl))))
  (e_Lok (e_st (I := eI) (er_aload_n (i := 0) (x_dk dn_320_0_ok 58 rfl)))))
  (e_Tok2
  (e_Lok (e_st (I := eI) (er_getf (ci := 12) (k := 63) (ix := 164) (N := 119) (C := RX12) (T := TX12) rfl in_X12 (by decide) (in_t9 (List.mem_of_getElem? (i := 178) rfl) rfl) (x_dk dn_320_0_ok 59 rfl))))
  (e_Lok (e_st (I := eI) (er_iload (i := 5) (x_dk dn_320_0_ok 60 rfl))))))
  (e_Tok2
  (e_Tok2
  (e_Lok (e_st (I := eI) (er_iaload (x_dk dn_320_0_ok 61 rfl))))
  (e_Lok (e_st (I := eI) (er_baload (x_dk dn_320_0_ok 62 rfl)))))
  (e_Tok2
  (e_Lok (e_st (I := eI) (er_ifne (off := 8) (tg := 115) (x_dk dn_320_0_ok 63 rfl) (by decide))))
  (e_Tok2
  (e_Lok (e_st (I := eI) (er_iload (i := 4) (x_dk dn_320_0_ok 64 rfl))))
  (e_Lok (e_st (I := eI) (er_goto (off := 13) (tg := 125) (x_dk dn_320_0_ok 65 rfl) (by decide))))))))
  (e_Tok2
  (e_Tok2
  (e_Tok2
  (e_Lok (e_st (I := eI) (er_iload (i := 4) (x_dk dn_320_0_ok 66 rfl))))
  (e_Lok (e_st (I := eI) (er_ifne (off := 7) (tg := 124) (x_dk dn_320_0_ok 67 rfl) (by decide)))))
  (e_Tok2
  (e_Lok (e_st (I := eI) (er_iconst (n := 1) (z := 1) (v := 1) (x_dk dn_320_0_ok 68 rfl) (by decide) (by decide))))
  (e_Tok2
  (e_Lok (e_st (I := eI) (er_goto (off := 4) (tg := 125) (x_dk dn_320_0_ok 69 rfl) (by decide))))
  (e_Lok (e_st (I := eI) (er_iconst (n := 0) (z := 0) (v := 0) (x_dk dn_320_0_ok 70 rfl) (by decide) (by decide)))))))
  (e_Tok2
  (e_Tok2
  (e_Lok (e_st (I := eI) (er_istore (i := 4) (x_dk dn_320_0_ok 71 rfl) (by decide +kernel))))
  (e_Lok (e_st (I := eI) (er_iinc (i := 5) (n := (-1)) (x_dk dn_320_0_ok 72 rfl) (by decide +kernel) (by decide)))))
  (e_Tok2
  (e_Lok (e_st (I := eI) (er_goto (off := (-40)) (tg := 90) (x_dk dn_320_0_ok 73 rfl) (by decide))))
  (e_Tok2
  (e_Lok (e_st (I := eI) (er_iload (i := 4) (x_dk dn_320_0_ok 74 rfl))))
  (e_Lok (e_rt (I := eI) (k := 1) ⟨(x_dk dn_320_0_ok 75 rfl), rfl⟩))))))))
def te_320 : Nat → eE := (e_T 61 te_320_0 te_320_38)
theorem te_320_ok : ∀ pc, e_EOq eft cls elay eI n_320 pc (te_320 pc) := (e_Tok2 (te_320_0_ok) (te_320_38_ok))
def dn_321_0 : List (Nat × Instr × Nat) := [(0, .iconst 0, 1), (1, .istore_n 1, 1), (2, .iload_n 1, 1), (3, .bipush 64, 2), (5, .if_icmp .ge 28, 3), (8, .aload_n 0, 1), (9, .getfield 167, 3), (12, .iload_n 1, 1), (13, .aload_n 0, 1), (14, .iload_n 1, 1), (15, .invokevirtual 464, 3), (18, .ifCond .ne 7, 3), (21, .iconst 1, 1), (22, .goto 4, 3), (25, .iconst 0, 1), (26, .bastore, 1), (27, .iinc 1 1, 3), (30, .goto (-28), 3), (33, .return_, 1)]
set_option maxRecDepth 20000 in
theorem dn_321_0_ok : dn_321_0.all (fun q => decide (decode prog_14_method_57_code q.1 = .ok (q.2.1, q.2.2))) = true := by decide +kernel
def te_321_0 : Nat → eE := (e_T 13 (e_T 3 (e_T 1 (e_T 0 (e_L 0 (0, ei_push (0, 0) 1, 0, 0)) (e_L 1 (0, ei_stor 1 0 2, 0, 0))) (e_T 2 (e_L 2 (0, ei_load 1 0 3, 0, 0)) (e_L 3 (0, ei_push (0, 64) 5, 0, 0)))) (e_T 8 (e_T 5 (e_L 5 (0, ei_if2 3 33 8, 0, 0)) (e_L 8 (0, ei_load 0 2 9, 0, 0))) (e_T 9 (e_L 9 (0, ei_getf eft elay 12 64 12, 0, 0)) (e_T 12 (e_L 12 (0, ei_load 1 0 13, 0, 0)) (e_L 13 (0, ei_load 0 2 14, 0, 0)))))) (e_T 22 (e_T 15 (e_T 14 (e_L 14 (0, ei_load 1 0 15, 0, 0)) (e_L 15 (2, e_nof, 320, 2))) (e_T 18 (e_L 18 (0, ei_if1 1 25 21, 0, 0)) (e_T 21 (e_L 21 (0, ei_push (0, 1) 22, 0, 0)) (e_L 22 (0, ei_goto 26, 0, 0))))) (e_T 26 (e_T 25 (e_L 25 (0, ei_push (0, 0) 26, 0, 0)) (e_L 26 (0, ei_ast elay true 27, 0, 0))) (e_T 27 (e_L 27 (0, ei_inc 1 1 30, 0, 0)) (e_T 30 (e_L 30 (0, ei_goto 2, 0, 0)) (e_L 33 (1, e_nof, 0, 0)))))))
set_option maxRecDepth 20000 in
set_option maxHeartbeats 4000000 in
theorem te_321_0_ok : ∀ pc, e_EOq eft cls elay eI n_321 pc (te_321_0 pc) :=
  (e_Tok2
  (e_Tok2
  (e_Tok2
  (e_Tok2
  (e_Lok (e_st (I := eI) (er_iconst (n := 0) (z := 0) (v := 0) (x_dk dn_321_0_ok 0 rfl) (by decide) (by decide))))
  (e_Lok (e_st (I := eI) (er_istore_n (i := 1) (x_dk dn_321_0_ok 1 rfl) (by decide +kernel)))))
  (e_Tok2
  (e_Lok (e_st (I := eI) (er_iload_n (i := 1) (x_dk dn_321_0_ok 2 rfl))))
  (e_Lok (e_st (I := eI) (er_bipush (n := 64) (z := 64) (v := 64) (x_dk dn_321_0_ok 3 rfl) (by decide) (by decide))))))
  (e_Tok2
  (e_Tok2
  (e_Lok (e_st (I := eI) (er_icmpge (off := 28) (tg := 33) (x_dk dn_321_0_ok 4 rfl) (by decide))))
  (e_Lok (e_st (I := eI) (er_aload_n (i := 0) (x_dk dn_321_0_ok 5 rfl)))))
  (e_Tok2
  (e_Lok (e_st (I := eI) (er_getf (ci := 12) (k := 64) (ix := 167) (N := 119) (C := RX12) (T := TX12) rfl in_X12 (by decide) (in_t9 (List.mem_of_getElem? (i := 179) rfl) rfl) (x_dk dn_321_0_ok 6 rfl))))
  (e_Tok2
  (e_Lok (e_st (I := eI) (er_iload_n (i := 1) (x_dk dn_321_0_ok 7 rfl))))
  (e_Lok (e_st (I := eI) (er_aload_n (i := 0) (x_dk dn_321_0_ok 8 rfl))))))))
  (e_Tok2
  (e_Tok2
  (e_Tok2
  (e_Lok (e_st (I := eI) (er_iload_n (i := 1) (x_dk dn_321_0_ok 9 rfl))))
  (e_Lok (e_ca (I := eI) (q' := n_320) rfl (xr_callV (q' := n_320) (ix := 464) (n := 1) (in_t13 (List.mem_of_getElem? (i := 53) rfl) rfl) good_w (in_t1 (List.mem_of_getElem? (i := 14) rfl) rfl) (in_t13 (List.mem_of_getElem? (i := 50) rfl) rfl) (in_t13 (List.mem_of_getElem? (i := 52) rfl) rfl) (in_s13 (List.mem_of_getElem? (i := 10) rfl)) (by decide +kernel) (by decide +kernel) (by decide +kernel) (x_dk dn_321_0_ok 10 rfl)))))
  (e_Tok2
  (e_Lok (e_st (I := eI) (er_ifne (off := 7) (tg := 25) (x_dk dn_321_0_ok 11 rfl) (by decide))))
  (e_Tok2
  (e_Lok (e_st (I := eI) (er_iconst (n := 1) (z := 1) (v := 1) (x_dk dn_321_0_ok 12 rfl) (by decide) (by decide))))
  (e_Lok (e_st (I := eI) (er_goto (off := 4) (tg := 26) (x_dk dn_321_0_ok 13 rfl) (by decide)))))))
  (e_Tok2
  (e_Tok2
  (e_Lok (e_st (I := eI) (er_iconst (n := 0) (z := 0) (v := 0) (x_dk dn_321_0_ok 14 rfl) (by decide) (by decide))))
  (e_Lok (e_st (I := eI) (er_bastore (x_dk dn_321_0_ok 15 rfl)))))
  (e_Tok2
  (e_Lok (e_st (I := eI) (er_iinc (i := 1) (n := 1) (x_dk dn_321_0_ok 16 rfl) (by decide +kernel) (by decide))))
  (e_Tok2
  (e_Lok (e_st (I := eI) (er_goto (off := (-28)) (tg := 2) (x_dk dn_321_0_ok 17 rfl) (by decide))))
  (e_Lok (e_rt (I := eI) (k := 0) ⟨(x_dk dn_321_0_ok 18 rfl), rfl⟩)))))))
def te_321 : Nat → eE := te_321_0
theorem te_321_ok : ∀ pc, e_EOq eft cls elay eI n_321 pc (te_321 pc) := te_321_0_ok
def dn_322_0 : List (Nat × Instr × Nat) := [(0, .iconst 0, 1), (1, .istore_n 1, 1), (2, .iload_n 1, 1), (3, .bipush 64, 2), (5, .if_icmp .ge 44, 3), (8, .aload_n 0, 1), (9, .getfield 8, 3), (12, .sipush 352, 3), (15, .iload_n 1, 1), (16, .iadd, 1), (17, .dup2, 1), (18, .iaload, 1), (19, .aload_n 0, 1), (20, .getfield 167, 3), (23, .iload_n 1, 1), (24, .baload, 1), (25, .ifCond .eq 15, 3), (28, .aload_n 0, 1), (29, .iload_n 1, 1), (30, .invokevirtual 464, 3), (33, .ifCond .eq 7, 3), (36, .iconst 1, 1), (37, .goto 4, 3), (40, .iconst 0, 1), (41, .iadd, 1), (42, .iastore, 1), (43, .iinc 1 1, 3), (46, .goto (-44), 3), (49, .return_, 1)]
set_option maxRecDepth 20000 in
theorem dn_322_0_ok : dn_322_0.all (fun q => decide (decode prog_14_method_58_code q.1 = .ok (q.2.1, q.2.2))) = true := by decide +kernel
def te_322_0 : Nat → eE := (e_T 20 (e_T 9 (e_T 2 (e_T 0 (e_L 0 (0, ei_push (0, 0) 1, 0, 0)) (e_T 1 (e_L 1 (0, ei_stor 1 0 2, 0, 0)) (e_L 2 (0, ei_load 1 0 3, 0, 0)))) (e_T 5 (e_T 3 (e_L 3 (0, ei_push (0, 64) 5, 0, 0)) (e_L 5 (0, ei_if2 3 49 8, 0, 0))) (e_T 8 (e_L 8 (0, ei_load 0 2 9, 0, 0)) (e_L 9 (0, ei_getf eft elay 12 0 12, 0, 0))))) (e_T 16 (e_T 12 (e_L 12 (0, ei_push (0, 352) 15, 0, 0)) (e_T 15 (e_L 15 (0, ei_load 1 0 16, 0, 0)) (e_L 16 (0, ei_bin eF_add 17, 0, 0)))) (e_T 18 (e_T 17 (e_L 17 (0, ei_stk ef_dup2 18, 0, 0)) (e_L 18 (0, ei_ald elay false 19, 0, 0))) (e_T 19 (e_L 19 (0, ei_load 0 2 20, 0, 0)) (e_L 20 (0, ei_getf eft elay 12 64 23, 0, 0)))))) (e_T 33 (e_T 25 (e_T 23 (e_L 23 (0, ei_load 1 0 24, 0, 0)) (e_T 24 (e_L 24 (0, ei_ald elay true 25, 0, 0)) (e_L 25 (0, ei_if1 0 40 28, 0, 0)))) (e_T 29 (e_T 28 (e_L 28 (0, ei_load 0 2 29, 0, 0)) (e_L 29 (0, ei_load 1 0 30, 0, 0))) (e_T 30 (e_L 30 (2, e_nof, 320, 2)) (e_L 33 (0, ei_if1 0 40 36, 0, 0))))) (e_T 41 (e_T 37 (e_T 36 (e_L 36 (0, ei_push (0, 1) 37, 0, 0)) (e_L 37 (0, ei_goto 41, 0, 0))) (e_T 40 (e_L 40 (0, ei_push (0, 0) 41, 0, 0)) (e_L 41 (0, ei_bin eF_add 42, 0, 0)))) (e_T 43 (e_T 42 (e_L 42 (0, ei_ast elay false 43, 0, 0)) (e_L 43 (0, ei_inc 1 1 46, 0, 0))) (e_T 46 (e_L 46 (0, ei_goto 2, 0, 0)) (e_L 49 (1, e_nof, 0, 0)))))))
set_option maxRecDepth 20000 in
set_option maxHeartbeats 4000000 in
theorem te_322_0_ok : ∀ pc, e_EOq eft cls elay eI n_322 pc (te_322_0 pc) :=
  (e_Tok2
  (e_Tok2
  (e_Tok2
  (e_Tok2
  (e_Lok (e_st (I := eI) (er_iconst (n := 0) (z := 0) (v := 0) (x_dk dn_322_0_ok 0 rfl) (by decide) (by decide))))
  (e_Tok2
  (e_Lok (e_st (I := eI) (er_istore_n (i := 1) (x_dk dn_322_0_ok 1 rfl) (by decide +kernel))))
  (e_Lok (e_st (I := eI) (er_iload_n (i := 1) (x_dk dn_322_0_ok 2 rfl))))))
  (e_Tok2
  (e_Tok2
  (e_Lok (e_st (I := eI) (er_bipush (n := 64) (z := 64) (v := 64) (x_dk dn_322_0_ok 3 rfl) (by decide) (by decide))))
  (e_Lok (e_st (I := eI) (er_icmpge (off := 44) (tg := 49) (x_dk dn_322_0_ok 4 rfl) (by decide)))))
  (e_Tok2
  (e_Lok (e_st (I := eI) (er_aload_n (i := 0) (x_dk dn_322_0_ok 5 rfl))))
  (e_Lok (e_st (I := eI) (er_getf (ci := 12) (k := 0) (ix := 8) (N := 119) (C := RX12) (T := TX12) rfl in_X12 (by decide) (in_t9 (List.mem_of_getElem? (i := 115) rfl) rfl) (x_dk dn_322_0_ok 6 rfl)))))))
  (e_Tok2
  (e_Tok2
  (e_Lok (e_st (I := eI) (er_sipush (n := 352) (z := 352) (v := 352) (x_dk dn_322_0_ok 7 rfl) (by decide) (by decide))))
  (e_Tok2
  (e_Lok (e_st (I := eI) (er_iload_n (i := 1) (x_dk dn_322_0_ok 8 rfl))))
  (e_Lok (e_st (I := eI) (er_iadd (x_dk dn_322_0_ok 9 rfl))))))
  (e_Tok2
  (e_Tok2
  (e_Lok (e_st (I := eI) (er_dup2 (x_dk dn_322_0_ok 10 rfl))))
  (e_Lok (e_st (I := eI) (er_iaload (x_dk dn_322_0_ok 11 rfl)))))
  (e_Tok2
  (e_Lok (e_st (I := eI) (er_aload_n (i := 0) (x_dk dn_322_0_ok 12 rfl))))
  (e_Lok (e_st (I := eI) (er_getf (ci := 12) (k := 64) (ix := 167) (N := 119) (C := RX12) (T := TX12) rfl in_X12 (by decide) (in_t9 (List.mem_of_getElem? (i := 179) rfl) rfl) (x_dk dn_322_0_ok 13 rfl))))))))
  (e_Tok2
  (e_Tok2
  (e_Tok2
  (e_Lok (e_st (I := eI) (er_iload_n (i := 1) (x_dk dn_322_0_ok 14 rfl))))
  (e_Tok2
  (e_Lok (e_st (I := eI) (er_baload (x_dk dn_322_0_ok 15 rfl))))
  (e_Lok (e_st (I := eI) (er_ifeq (off := 15) (tg := 40) (x_dk dn_322_0_ok 16 rfl) (by decide))))))
  (e_Tok2
  (e_Tok2
  (e_Lok (e_st (I := eI) (er_aload_n (i := 0) (x_dk dn_322_0_ok 17 rfl))))
  (e_Lok (e_st (I := eI) (er_iload_n (i := 1) (x_dk dn_322_0_ok 18 rfl)))))
  (e_Tok2
  (e_Lok (e_ca (I := eI) (q' := n_320) rfl (xr_callV (q' := n_320) (ix := 464) (n := 1) (in_t13 (List.mem_of_getElem? (i := 53) rfl) rfl) good_w (in_t1 (List.mem_of_getElem? (i := 14) rfl) rfl) (in_t13 (List.mem_of_getElem? (i := 50) rfl) rfl) (in_t13 (List.mem_of_getElem? (i := 52) rfl) rfl) (in_s13 (List.mem_of_getElem? (i := 10) rfl)) (by decide +kernel) (by decide +kernel) (by decide +kernel) (x_dk dn_322_0_ok 19 rfl))))
  (e_Lok (e_st (I := eI) (er_ifeq (off := 7) (tg := 40) (x_dk dn_322_0_ok 20 rfl) (by decide)))))))
  (e_Tok2
  (e_Tok2
  (e_Tok2
  (e_Lok (e_st (I := eI) (er_iconst (n := 1) (z := 1) (v := 1) (x_dk dn_322_0_ok 21 rfl) (by decide) (by decide))))
  (e_Lok (e_st (I := eI) (er_goto (off := 4) (tg := 41) (x_dk dn_322_0_ok 22 rfl) (by decide)))))
  (e_Tok2
  (e_Lok (e_st (I := eI) (er_iconst (n := 0) (z := 0) (v := 0) (x_dk dn_322_0_ok 23 rfl) (by decide) (by decide))))
  (e_Lok (e_st (I := eI) (er_iadd (x_dk dn_322_0_ok 24 rfl))))))
  (e_Tok2
  (e_Tok2
  (e_Lok (e_st (I := eI) (er_iastore (x_dk dn_322_0_ok 25 rfl))))
  (e_Lok (e_st (I := eI) (er_iinc (i := 1) (n := 1) (x_dk dn_322_0_ok 26 rfl) (by decide +kernel) (by decide)))))
  (e_Tok2
  (e_Lok (e_st (I := eI) (er_goto (off := (-44)) (tg := 2) (x_dk dn_322_0_ok 27 rfl) (by decide))))
  (e_Lok (e_rt (I := eI) (k := 0) ⟨(x_dk dn_322_0_ok 28 rfl), rfl⟩)))))))
def te_322 : Nat → eE := te_322_0
theorem te_322_ok : ∀ pc, e_EOq eft cls elay eI n_322 pc (te_322 pc) := te_322_0_ok
def dn_323_0 : List (Nat × Instr × Nat) := [(0, .aload_n 0, 1), (1, .getfield 8, 3), (4, .sipush 160, 3), (7, .iload_n 1, 1), (8, .iadd, 1), (9, .iaload, 1), (10, .iload_n 2, 1), (11, .if_icmp .eq 22, 3), (14, .aload_n 0, 1), (15, .invokevirtual 467, 3), (18, .aload_n 0, 1), (19, .getfield 8, 3), (22, .sipush 160, 3), (25, .iload_n 1, 1), (26, .iadd, 1), (27, .iload_n 2, 1), (28, .iastore, 1), (29, .aload_n 0, 1), (30, .invokevirtual 470, 3), (33, .return_, 1)]
set_option maxRecDepth 20000 in
theorem dn_323_0_ok : dn_323_0.all (fun q => decide (decode prog_14_method_59_code q.1 = .ok (q.2.1, q.2.2))) = true := by decide +kernel
def te_323_0 : Nat → eE := (e_T 15 (e_T 8 (e_T 1 (e_T 0 (e_L 0 (0, ei_load 0 2 1, 0, 0)) (e_L 1 (0, ei_getf eft elay 12 0 4, 0, 0))) (e_T 4 (e_L 4 (0, ei_push (0, 160) 7, 0, 0)) (e_T 7 (e_L 7 (0, ei_load 1 0 8, 0, 0)) (e_L 8 (0, ei_bin eF_add 9, 0, 0))))) (e_T 10 (e_T 9 (e_L 9 (0, ei_ald elay false 10, 0, 0)) (e_L 10 (0, ei_load 2 0 11, 0, 0))) (e_T 11 (e_L 11 (0, ei_if2 0 33 14, 0, 0)) (e_T 14 (e_L 14 (0, ei_load 0 2 15, 0, 0)) (e_L 15 (2, e_nof, 321, 1)))))) (e_T 26 (e_T 19 (e_T 18 (e_L 18 (0, ei_load 0 2 19, 0, 0)) (e_L 19 (0, ei_getf eft elay 12 0 22, 0, 0))) (e_T 22 (e_L 22 (0, ei_push (0, 160) 25, 0, 0)) (e_T 25 (e_L 25 (0, ei_load 1 0 26, 0, 0)) (e_L 26 (0, ei_bin eF_add 27, 0, 0))))) (e_T 28 (e_T 27 (e_L 27 (0, ei_load 2 0 28, 0, 0)) (e_L 28 (0, ei_ast elay false 29, 0, 0))) (e_T 29 (e_L 29 (0, ei_load 0 2 30, 0, 0)) (e_T 30 (e_L 30 (2, e_nof, 322, 1)) (e_L 33 (1, e_nof, 0, 0)))))))
set_option maxRecDepth 20000 in
set_option maxHeartbeats 4000000 in
theorem te_323_0_ok : ∀ pc, e_EOq eft cls elay eI n_323 pc (te_323_0 pc) :=
  (e_Tok2
  (e_Tok2
  (e_Tok2
  (e_Tok2
  (e_Lok (e_st (I := eI) (er_aload_n (i := 0) (x_dk dn_323_0_ok 0 rfl))))
  (e_Lok (e_st (I := eI) (er_getf (ci := 12) (k := 0) (ix := 8) (N := 119) (C := RX12) (T := TX12) rfl in_X12 (by decide) (in_t9 (List.mem_of_getElem? (i := 115) rfl) rfl) (x_dk dn_323_0_ok 1 rfl)))))
  (e_Tok2
  (e_Lok (e_st (I := eI) (er_sipush (n := 160) (z := 160) (v := 160) (x_dk dn_323_0_ok 2 rfl) (by decide) (by decide))))
  (e_Tok2
  (e_Lok (e_st (I := eI) (er_iload_n (i := 1) (x_dk dn_323_0_ok 3 rfl))))
  (e_Lok (e_st (I := eI) (er_iadd (x_dk dn_323_0_ok 4 rfl)))))))
  (e_Tok2
  (e_Tok2
  (e_Lok (e_st (I := eI) (er_iaload (x_dk dn_323_0_ok 5 rfl))))
  (e_Lok (e_st (I := eI) (er_iload_n (i := 2) (x_dk dn_323_0_ok 6 rfl)))))
  (e_Tok2
  (e_Lok (e_st (I := eI) (er_icmpeq (off := 22) (tg := 33) (x_dk dn_323_0_ok 7 rfl) (by decide))))
  (e_Tok2
  (e_Lok (e_st (I := eI) (er_aload_n (i := 0) (x_dk dn_323_0_ok 8 rfl))))
  (e_Lok (e_ca (I := eI) (q' := n_321) rfl (xr_callV (q' := n_321) (ix := 467) (n := 0) (in_t13 (List.mem_of_getElem? (i := 80) rfl) rfl) good_w (in_t1 (List.mem_of_getElem? (i := 14) rfl) rfl) (in_t13 (List.mem_of_getElem? (i := 77) rfl) rfl) (in_t13 (List.mem_of_getElem? (i := 79) rfl) rfl) (in_s14 (List.mem_of_getElem? (i := 0) rfl)) (by decide +kernel) (by decide +kernel) (by decide +kernel) (x_dk dn_323_0_ok 9 rfl))))))))
  (e_Tok2
  (e_Tok2
  (e_Tok2
  (e_Lok (e_st (I := eI) (er_aload_n (i := 0) (x_dk dn_323_0_ok 10 rfl))))
  (e_Lok (e_st (I := eI) (er_getf (ci := 12) (k := 0) (ix := 8) (N := 119) (C := RX12) (T := TX12) rfl in_X12 (by decide) (in_t9 (List.mem_of_getElem? (i := 115) rfl) rfl) (x_dk dn_323_0_ok 11 rfl)))))
  (e_Tok2
  (e_Lok (e_st (I := eI) (er_sipush (n := 160) (z := 160) (v := 160) (x_dk dn_323_0_ok 12 rfl) (by decide) (by decide))))
  (e_Tok2
  (e_Lok (e_st (I := eI) (er_iload_n (i := 1) (x_dk dn_323_0_ok 13 rfl))))
  (e_Lok (e_st (I := eI) (er_iadd (x_dk dn_323_0_ok 14 rfl)))))))
  (e_Tok2
  (e_Tok2
  (e_Lok (e_st (I := eI) (er_iload_n (i := 2) (x_dk dn_323_0_ok 15 rfl))))
  (e_Lok (e_st (I := eI) (er_iastore (x_dk dn_323_0_ok 16 rfl)))))
  (e_Tok2
  (e_Lok (e_st (I := eI) (er_aload_n (i := 0) (x_dk dn_323_0_ok 17 rfl))))
  (e_Tok2
  (e_Lok (e_ca (I := eI) (q' := n_322) rfl (xr_callV (q' := n_322) (ix := 470) (n := 0) (in_t13 (List.mem_of_getElem? (i := 84) rfl) rfl) good_w (in_t1 (List.mem_of_getElem? (i := 14) rfl) rfl) (in_t13 (List.mem_of_getElem? (i := 81) rfl) rfl) (in_t13 (List.mem_of_getElem? (i := 83) rfl) rfl) (in_s14 (List.mem_of_getElem? (i := 1) rfl)) (by decide +kernel) (by decide +kernel) (by decide +kernel) (x_dk dn_323_0_ok 18 rfl))))
  (e_Lok (e_rt (I := eI) (k := 0) ⟨(x_dk dn_323_0_ok 19 rfl), rfl⟩)))))))
def te_323 : Nat → eE := te_323_0
theorem te_323_ok : ∀ pc, e_EOq eft cls elay eI n_323 pc (te_323 pc) := te_323_0_ok
def dn_362_0 : List (Nat × Instr × Nat) := [(0, .aload_n 0, 1), (1, .getfield 651, 3), (4, .bipush 20, 2), (6, .iadd, 1), (7, .iconst 2, 1), (8, .aload_n 0, 1), (9, .getfield 8, 3), (12, .aload_n 0, 1), (13, .getfield 651, 3), (16, .bipush 12, 2), (18, .iadd, 1), (19, .iaload, 1), (20, .iconst 1, 1), (21, .isub, 1), (22, .imul, 1), (23, .iadd, 1), (24, .ireturn, 1)]
set_option maxRecDepth 20000 in
theorem dn_362_0_ok : dn_362_0.all (fun q => decide (decode prog_14_method_98_code q.1 = .ok (q.2.1, q.2.2))) = true := by decide +kernel
def te_362_0 : Nat → eE := (e_T 12 (e_T 6 (e_T 1 (e_T 0 (e_L 0 (0, ei_load 0 2 1, 0, 0)) (e_L 1 (0, ei_getf eft elay 12 97 4, 0, 0))) (e_T 4 (e_L 4 (0, ei_push (0, 20) 6, 0, 0)) (e_L 6 (0, ei_bin eF_add 7, 0, 0)))) (e_T 8 (e_T 7 (e_L 7 (0, ei_push (0, 2) 8, 0, 0)) (e_L 8 (0, ei_load 0 2 9, 0, 0))) (e_T 9 (e_L 9 (0, ei_getf eft elay 12 0 12, 0, 0)) (e_L 12 (0, ei_load 0 2 13, 0, 0))))) (e_T 19 (e_T 16 (e_T 13 (e_L 13 (0, ei_getf eft elay 12 97 16, 0, 0)) (e_L 16 (0, ei_push (0, 12) 18, 0, 0))) (e_T 18 (e_L 18 (0, ei_bin eF_add 19, 0, 0)) (e_L 19 (0, ei_ald elay false 20, 0, 0)))) (e_T 21 (e_T 20 (e_L 20 (0, ei_push (0, 1) 21, 0, 0)) (e_L 21 (0, ei_bin eF_sub 22, 0, 0))) (e_T 22 (e_L 22 (0, ei_bin eF_mul 23, 0, 0)) (e_T 23 (e_L 23 (0, ei_bin eF_add 24, 0, 0)) (e_L 24 (1, e_nof, 1, 0)))))))
set_option maxRecDepth 20000 in
set_option maxHeartbeats 4000000 in
theorem te_362_0_ok : ∀ pc, e_EOq eft cls elay eI n_362 pc (te_362_0 pc) :=
  (e_Tok2
  (e_Tok2
  (e_Tok2
  (e_Tok2
  (e_Lok (e_st (I := eI) (er_aload_n (i := 0) (x_dk dn_362_0_ok 0 rfl))))
  (e_Lok (e_st (I := eI) (er_getf (ci := 12) (k := 97) (ix := 651) (N := 119) (C := RX12) (T := TX12) rfl in_X12 (by decide) (in_t9 (List.mem_of_getElem? (i := 212) rfl) rfl) (x_dk dn_362_0_ok 1 rfl)))))
  (e_Tok2
  (e_Lok (e_st (I := eI) (er_bipush (n := 20) (z := 20) (v := 20) (x_dk dn_362_0_ok 2 rfl) (by decide) (by decide))))
  (e_Lok (e_st (I := eI) (er_iadd (x_dk dn_362_0_ok 3 rfl))))))
  (e_Tok2
  (e_Tok2
  (e_Lok (e_st (I := eI) (er_iconst (n := 2) (z := 2) (v := 2) (x_dk dn_362_0_ok 4 rfl) (by decide) (by decide))))
  (e_Lok (e_st (I := eI) (er_aload_n (i := 0) (x_dk dn_362_0_ok 5 rfl)))))
  (e_Tok2
  (e_Lok (e_st (I := eI) (er_getf (ci := 12) (k := 0) (ix := 8) (N := 119) (C := RX12) (T := TX12) rfl in_X12 (by decide) (in_t9 (List.mem_of_getElem? (i := 115) rfl) rfl) (x_dk dn_362_0_ok 6 rfl))))
  (e_Lok (e_st (I := eI) (er_aload_n (i := 0) (x_dk dn_362_0_ok 7 rfl)))))))
  (e_Tok2
  (e_Tok2
  (e_Tok2
  (e_Lok (e_st (I := eI) (er_getf (ci := 12) (k := 97) (ix := 651) (N := 119) (C := RX12) (T := TX12) rfl in_X12 (by decide) (in_t9 (List.mem_of_getElem? (i := 212) rfl) rfl) (x_dk dn_362_0_ok 8 rfl))))
  (e_Lok (e_st (I := eI) (er_bipush (n := 12) (z := 12) (v := 12) (x_dk dn_362_0_ok 9 rfl) (by decide) (by decide)))))
  (e_Tok2
  (e_Lok (e_st (I := eI) (er_iadd (x_dk dn_362_0_ok 10 rfl))))
  (e_Lok (e_st (I := eI) (er_iaload (x_dk dn_362_0_ok 11 rfl))))))
  (e_Tok2
  (e_Tok2
  (e_Lok (e_st (I := eI) (er_iconst (n := 1) (z := 1) (v := 1) (x_dk dn_362_0_ok 12 rfl) (by decide) (by decide))))
  (e_Lok (e_st (I := eI) (er_isub (x_dk dn_362_0_ok 13 rfl)))))
  (e_Tok2
  (e_Lok (e_st (I := eI) (er_imul (x_dk dn_362_0_ok 14 rfl))))
  (e_Tok2
  (e_Lok (e_st (I := eI) (er_iadd (x_dk dn_362_0_ok 15 rfl))))
  (e_Lok (e_rt (I := eI) (k := 1) ⟨(x_dk dn_362_0_ok 16 rfl), rfl⟩)))))))
def te_362 : Nat → eE := te_362_0
theorem te_362_ok : ∀ pc, e_EOq eft cls elay eI n_362 pc (te_362 pc) := te_362_0_ok
def dn_363_0 : List (Nat × Instr × Nat) := [(0, .aload_n 0, 1), (1, .getfield 222, 3), (4, .aload_n 0, 1), (5, .getfield 654, 3), (8, .iload_n 1, 1), (9, .iastore, 1), (10, .aload_n 0, 1), (11, .dup, 1), (12, .getfield 654, 3), (15, .iconst 1, 1), (16, .iadd, 1), (17, .putfield 654, 3), (20, .return_, 1)]
set_option maxRecDepth 20000 in
theorem dn_363_0_ok : dn_363_0.all (fun q => decide (decode prog_14_method_99_code q.1 = .ok (q.2.1, q.2.2))) = true := by decide +kernel
def te_363_0 : Nat → eE := (e_T 9 (e_T 4 (e_T 0 (e_L 0 (0, ei_load 0 2 1, 0, 0)) (e_T 1 (e_L 1 (0, ei_getf eft elay 12 101 4, 0, 0)) (e_L 4 (0, ei_load 0 2 5, 0, 0)))) (e_T 5 (e_L 5 (0, ei_getf eft elay 12 102 8, 0, 0)) (e_T 8 (e_L 8 (0, ei_load 1 0 9, 0, 0)) (e_L 9 (0, ei_ast elay false 10, 0, 0))))) (e_T 12 (e_T 10 (e_L 10 (0, ei_load 0 2 11, 0, 0)) (e_T 11 (e_L 11 (0, ei_stk ef_dup 12, 0, 0)) (e_L 12 (0, ei_getf eft elay 12 102 15, 0, 0)))) (e_T 16 (e_T 15 (e_L 15 (0, ei_push (0, 1) 16, 0, 0)) (e_L 16 (0, ei_bin eF_add 17, 0, 0))) (e_T 17 (e_L 17 (0, ei_putf eft elay 12 102 0 20, 0, 0)) (e_L 20 (1, e_nof, 0, 0))))))
set_option maxRecDepth 20000 in
set_option maxHeartbeats 4000000 in
theorem te_363_0_ok : ∀ pc, e_EOq eft cls elay eI n_363 pc (te_363_0 pc) :=
  (e_Tok2
  (e_Tok2
  (e_Tok2
  (e_Lok (e_st (I := eI) (er_aload_n (i := 0) (x_dk dn_363_0_ok 0 rfl))))
  (e_Tok2
  (e_Lok (e_st (I := eI) (er_getf (ci := 12) (k := 101) (ix := 222) (N := 119) (C := RX12) (T := TX12) rfl in_X12 (by decide) (in_t9 (List.mem_of_getElem? (i := 216) rfl) rfl) (x_dk dn_363_0_ok 1 rfl))))
  (e_Lok (e_st (I := eI) (er_aload_n (i := 0) (x_dk dn_363_0_ok 2 rfl))))))
  (e_Tok2
  (e_Lok (e_st (I := eI) (er_getf (ci := 12) (k := 102) (ix := 654) (N := 119) (C := RX12) (T := TX12) rfl in_X12 (by decide) (in_t9 (List.mem_of_getElem? (i := 217) rfl) rfl) (x_dk dn_363_0_ok 3 rfl))))
  (e_Tok2
  (e_Lok (e_st (I := eI) (er_iload_n (i := 1) (x_dk dn_363_0_ok 4 rfl))))
  (e_Lok (e_st (I := eI) (er_iastore (x_dk dn_363_0_ok 5 rfl)))))))
  (e_Tok2
  (e_Tok2
  (e_Lok (e_st (I := eI) (er_aload_n (i := 0) (x_dk dn_363_0_ok 6 rfl))))
  (e_Tok2
  (e_Lok (e_st (I := eI) (er_dup (x_dk dn_363_0_ok 7 rfl))))
  (e_Lok (e_st (I := eI) (er_getf (ci := 12) (k := 102) (ix := 654) (N := 119) (C := RX12) (T := TX12) rfl in_X12 (by decide) (in_t9 (List.mem_of_getElem? (i := 217) rfl) rfl) (x_dk dn_363_0_ok 8 rfl))))))
  (e_Tok2
  (e_Tok2
  (e_Lok (e_st (I := eI) (er_iconst (n := 1) (z := 1) (v := 1) (x_dk dn_363_0_ok 9 rfl) (by decide) (by decide))))
  (e_Lok (e_st (I := eI) (er_iadd (x_dk dn_363_0_ok 10 rfl)))))
  (e_Tok2
  (e_Lok (e_st (I := eI) (er_putf (ci := 12) (k := 102) (ix := 654) (N := 119) (fk := 0) (C := RX12) (T := TX12) (ty0 := tyX12) (ty := .int) rfl in_X12 tyX12_ok nmX12 (by decide) (in_t9 (List.mem_of_getElem? (i := 217) rfl) rfl) rfl rfl x_fit_int (x_dk dn_363_0_ok 11 rfl))))
  (e_Lok (e_rt (I := eI) (k := 0) ⟨(x_dk dn_363_0_ok 12 rfl), rfl⟩))))))
def te_363 : Nat → eE := te_363_0
theorem te_363_ok : ∀ pc, e_EOq eft cls elay eI n_363 pc (te_363 pc) := te_363_0_ok
def dn_364_0 : List (Nat × Instr × Nat) := [(0, .aload_n 0, 1), (1, .dup, 1), (2, .getfield 654, 3), (5, .iconst 1, 1), (6, .isub, 1), (7, .putfield 654, 3), (10, .aload_n 0, 1), (11, .getfield 222, 3), (14, .aload_n 0, 1), (15, .getfield 654, 3), (18, .iaload, 1), (19, .ireturn, 1)]
set_option maxRecDepth 20000 in
theorem dn_364_0_ok : dn_364_0.all (fun q => decide (decode prog_14_method_100_code q.1 = .ok (q.2.1, q.2.2))) = true := by decide +kernel
def te_364_0 : Nat → eE := (e_T 7 (e_T 2 (e_T 0 (e_L 0 (0, ei_load 0 2 1, 0, 0)) (e_T 1 (e_L 1 (0, ei_stk ef_dup 2, 0, 0)) (e_L 2 (0, ei_getf eft elay 12 102 5, 0, 0)))) (e_T 5 (e_L 5 (0, ei_push (0, 1) 6, 0, 0)) (e_T 6 (e_L 6 (0, ei_bin eF_sub 7, 0, 0)) (e_L 7 (0, ei_putf eft elay 12 102 0 10, 0, 0))))) (e_T 14 (e_T 10 (e_L 10 (0, ei_load 0 2 11, 0, 0)) (e_T 11 (e_L 11 (0, ei_getf eft elay 12 101 14, 0, 0)) (e_L 14 (0, ei_load 0 2 15, 0, 0)))) (e_T 15 (e_L 15 (0, ei_getf eft elay 12 102 18, 0, 0)) (e_T 18 (e_L 18 (0, ei_ald elay false 19, 0, 0)) (e_L 19 (1, e_nof, 1, 0))))))
set_option maxRecDepth 20000 in
set_option maxHeartbeats 4000000 in
theorem te_364_0_ok : ∀ pc, e_EOq eft cls elay eI n_364 pc (te_364_0 pc) :=
  (e_Tok2
  (e_Tok2
  (e_Tok2
  (e_Lok (e_st (I := eI) (er_aload_n (i := 0) (x_dk dn_364_0_ok 0 rfl))))
  (e_Tok2
  (e_Lok (e_st (I := eI) (er_dup (x_dk dn_364_0_ok 1 rfl))))
  (e_Lok (e_st (I := eI) (er_getf (ci := 12) (k := 102) (ix := 654) (N := 119) (C := RX12) (T := TX12) rfl in_X12 (by decide) (in_t9 (List.mem_of_getElem? (i := 217) rfl) rfl) (x_dk dn_364_0_ok 2 rfl))))))
  (e_Tok2
  (e_Lok (e_st (I := eI) (er_iconst (n := 1) (z := 1) (v := 1) (x_dk dn_364_0_ok 3 rfl) (by decide) (by decide))))
  (e_Tok2
  (e_Lok (e_st (I := eI) (er_isub (x_dk dn_364_0_ok 4 rfl))))
  (e_Lok (e_st (I := eI) (er_putf (ci := 12) (k := 102) (ix := 654) (N := 119) (fk := 0) (C := RX12) (T := TX12) (ty0 := tyX12) (ty := .int) rfl in_X12 tyX12_ok nmX12 (by decide) (in_t9 (List.mem_of_getElem? (i := 217) rfl) rfl) rfl rfl x_fit_int (x_dk dn_364_0_ok 5 rfl)))))))
  (e_Tok2
  (e_Tok2
  (e_Lok (e_st (I := eI) (er_aload_n (i := 0) (x_dk dn_364_0_ok 6 rfl))))
  (e_Tok2
  (e_Lok (e_st (I := eI) (er_getf (ci := 12) (k := 101) (ix := 222) (N := 119) (C := RX12) (T := TX12) rfl in_X12 (by decide) (in_t9 (List.mem_of_getElem? (i := 216) rfl) rfl) (x_dk dn_364_0_ok 7 rfl))))
  (e_Lok (e_st (I := eI) (er_aload_n (i := 0) (x_dk dn_364_0_ok 8 rfl))))))
  (e_Tok2
  (e_Lok (e_st (I := eI) (er_getf (ci := 12) (k := 102) (ix := 654) (N := 119) (C := RX12) (T := TX12) rfl in_X12 (by decide) (in_t9 (List.mem_of_getElem? (i := 217) rfl) rfl) (x_dk dn_364_0_ok 9 rfl))))
  (e_Tok2
  (e_Lok (e_st (I := eI) (er_iaload (x_dk dn_364_0_ok 10 rfl))))
  (e_Lok (e_rt (I := eI) (k := 1) ⟨(x_dk dn_364_0_ok 11 rfl), rfl⟩))))))
def te_364 : Nat → eE := te_364_0
theorem te_364_ok : ∀ pc, e_EOq eft cls elay eI n_364 pc (te_364 pc) := te_364_0_ok
def dn_365_0 : List (Nat × Instr × Nat) := [(0, .aload_n 0, 1), (1, .getfield 8, 3), (4, .aload_n 0, 1), (5, .invokevirtual 657, 3), (8, .iload_n 1, 1), (9, .iastore, 1), (10, .return_, 1)]
set_option maxRecDepth 20000 in
theorem dn_365_0_ok : dn_365_0.all (fun q => decide (decode prog_14_method_101_code q.1 = .ok (q.2.1, q.2.2))) = true := by decide +kernel
def te_365_0 : Nat → eE := (e_T 4 (e_T 0 (e_L 0 (0, ei_load 0 2 1, 0, 0)) (e_T 1 (e_L 1 (0, ei_getf eft elay 12 0 4, 0, 0)) (e_L 4 (0, ei_load 0 2 5, 0, 0)))) (e_T 8 (e_T 5 (e_L 5 (2, e_nof, 362, 1)) (e_L 8 (0, ei_load 1 0 9, 0, 0))) (e_T 9 (e_L 9 (0, ei_ast elay false 10, 0, 0)) (e_L 10 (1, e_nof, 0, 0)))))
set_option maxRecDepth 20000 in
set_option maxHeartbeats 4000000 in
theorem te_365_0_ok : ∀ pc, e_EOq eft cls elay eI n_365 pc (te_365_0 pc) :=
  (e_Tok2
  (e_Tok2
  (e_Lok (e_st (I := eI) (er_aload_n (i := 0) (x_dk dn_365_0_ok 0 rfl))))
  (e_Tok2
  (e_Lok (e_st (I := eI) (er_getf (ci := 12) (k := 0) (ix := 8) (N := 119) (C := RX12) (T := TX12) rfl in_X12 (by decide) (in_t9 (List.mem_of_getElem? (i := 115) rfl) rfl) (x_dk dn_365_0_ok 1 rfl))))
  (e_Lok (e_st (I := eI) (er_aload_n (i := 0) (x_dk dn_365_0_ok 2 rfl))))))
  (e_Tok2
  (e_Tok2
  (e_Lok (e_ca (I := eI) (q' := n_362) rfl (xr_callV (q' := n_362) (ix := 657) (n := 0) (in_t12 (List.mem_of_getElem? (i := 237) rfl) rfl) good_w (in_t1 (List.mem_of_getElem? (i := 14) rfl) rfl) (in_t12 (List.mem_of_getElem? (i := 234) rfl) rfl) (in_t12 (List.mem_of_getElem? (i := 236) rfl) rfl) (in_s12 (List.mem_of_getElem? (i := 12) rfl)) (by decide +kernel) (by decide +kernel) (by decide +kernel) (x_dk dn_365_0_ok 3 rfl))))
  (e_Lok (e_st (I := eI) (er_iload_n (i := 1) (x_dk dn_365_0_ok 4 rfl)))))
  (e_Tok2
  (e_Lok (e_st (I := eI) (er_iastore (x_dk dn_365_0_ok 5 rfl))))
  (e_Lok (e_rt (I := eI) (k := 0) ⟨(x_dk dn_365_0_ok 6 rfl), rfl⟩)))))
def te_365 : Nat → eE := te_365_0
theorem te_365_ok : ∀ pc, e_EOq eft cls elay eI n_365 pc (te_365 pc) := te_365_0_ok
def dn_393_0 : List (Nat × Instr × Nat) := [(0, .sipush 20704, 3), (3, .bipush 33, 2), (5, .iload_n 2, 1), (6, .imul, 1), (7, .iadd, 1), (8, .istore 4, 2), (10, .aload_n 0, 1), (11, .getfield 8, 3), (14, .iload 4, 2), (16, .iaload, 1), (17, .istore 5, 2), (19, .iload 5, 2), (21, .istore 6, 2), (23, .iload 6, 2), (25, .ifCond .le 55, 3), (28, .aload_n 0, 1), (29, .getfield 8, 3), (32, .aload_n 0, 1), (33, .getfield 8, 3), (36, .iload 4, 2), (38, .iload 6, 2), (40, .iadd, 1), (41, .iaload, 1), (42, .invokestatic 774, 3), (45, .iconst 3, 1), (46, .iadd, 1), (47, .iaload, 1), (48, .iload_n 3, 1), (49, .if_icmp .ge 31, 3), (52, .aload_n 0, 1), (53, .getfield 8, 3), (56, .iload 4, 2), (58, .iload 6, 2), (60, .iadd, 1), (61, .iconst 1, 1), (62, .iadd, 1), (63, .aload_n 0, 1), (64, .getfield 8, 3), (67, .iload 4, 2), (69, .iload 6, 2), (71, .iadd, 1), (72, .iaload, 1), (73, .iastore, 1), (74, .iinc 6 (-1), 3), (77, .goto (-54), 3), (80, .aload_n 0, 1), (81, .getfield 8, 3), (84, .iload 4, 2), (86, .iload 6, 2), (88, .iadd, 1), (89, .iconst 1, 1), (90, .iadd, 1), (91, .iload_n 1, 1), (92, .iastore, 1), (93, .aload_n 0, 1), (94, .getfield 8, 3), (97, .iload 4, 2), (99, .iload 5, 2), (101, .iconst 1, 1), (102, .iadd, 1), (103, .iastore, 1), (104, .aload_n 0, 1), (105, .getfield 8, 3), (108, .iload_n 1, 1), (109, .invokestatic 774, 3), (112, .iload_n 2, 1), (113, .iastore, 1), (114, .aload_n 0, 1), (115, .getfield 8, 3), (118, .iload_n 1, 1), (119, .invokestatic 774, 3), (122, .iconst 3, 1), (123, .iadd, 1), (124, .iload_n 3, 1), (125, .iastore, 1), (126, .return_, 1)]
set_option maxRecDepth 20000 in
theorem dn_393_0_ok : dn_393_0.all (fun q => decide (decode prog_14_method_129_code q.1 = .ok (q.2.1, q.2.2))) = true := by decide +kernel
def te_393_0 : Nat → eE := (e_T 33 (e_T 14 (e_T 6 (e_T 3 (e_T 0 (e_L 0 (0, ei_push (0, 20704) 3, 0, 0)) (e_L 3 (0, ei_push (0, 33) 5, 0, 0))) (e_T 5 (e_L 5 (0, ei_load 2 0 6, 0, 0)) (e_L 6 (0, ei_bin eF_mul 7, 0, 0)))) (e_T 8 (e_T 7 (e_L 7 (0, ei_bin eF_add 8, 0, 0)) (e_L 8 (0, ei_stor 4 0 10, 0, 0))) (e_T 10 (e_L 10 (0, ei_load 0 2 11, 0, 0)) (e_T 11 (e_L 11 (0, ei_getf eft elay 12 0 14, 0, 0)) (e_L 14 (0, ei_load 4 0 16, 0, 0)))))) (e_T 23 (e_T 17 (e_T 16 (e_L 16 (0, ei_ald elay false 17, 0, 0)) (e_L 17 (0, ei_stor 5 0 19, 0, 0))) (e_T 19 (e_L 19 (0, ei_load 5 0 21, 0, 0)) (e_T 21 (e_L 21 (0, ei_stor 6 0 23, 0, 0)) (e_L 23 (0, ei_load 6 0 25, 0, 0))))) (e_T 28 (e_T 25 (e_L 25 (0, ei_if1 5 80 28, 0, 0)) (e_L 28 (0, ei_load 0 2 29, 0, 0))) (e_T 29 (e_L 29 (0, ei_getf eft elay 12 0 32, 0, 0)) (e_T 32 (e_L 32 (0, ei_load 0 2 33, 0, 0)) (e_L 33 (0, ei_getf eft elay 12 0 36, 0, 0))))))) (e_T 48 (e_T 41 (e_T 38 (e_T 36 (e_L 36 (0, ei_load 4 0 38, 0, 0)) (e_L 38 (0, ei_load 6 0 40, 0, 0))) (e_T 40 (e_L 40 (0, ei_bin eF_add 41, 0, 0)) (e_L 41 (0, ei_ald elay false 42, 0, 0)))) (e_T 45 (e_T 42 (e_L 42 (2, e_nof, 392, 1)) (e_L 45 (0, ei_push (0, 3) 46, 0, 0))) (e_T 46 (e_L 46 (0, ei_bin eF_add 47, 0, 0)) (e_T 47 (e_L 47 (0, ei_ald elay false 48, 0, 0)) (e_L 48 (0, ei_load 3 0 49, 0, 0)))))) (e_T 58 (e_T 52 (e_T 49 (e_L 49 (0, ei_if2 3 80 52, 0, 0)) (e_L 52 (0, ei_load 0 2 53, 0, 0))) (e_T 53 (e_L 53 (0, ei_getf eft elay 12 0 56, 0, 0)) (e_T 56 (e_L 56 (0, ei_load 4 0 58, 0, 0)) (e_L 58 (0, ei_load 6 0 60, 0, 0))))) (e_T 61 (e_T 60 (e_L 60 (0, ei_bin eF_add 61, 0, 0)) (e_L 61 (0, ei_push (0, 1) 62, 0, 0))) (e_T 62 (e_L 62 (0, ei_bin eF_add 63, 0, 0)) (e_T 63 (e_L 63 (0, ei_load 0 2 64, 0, 0)) (e_L 64 (0, ei_getf eft elay 12 0 67, 0, 0))))))))
set_option maxRecDepth 20000 in
set_option maxHeartbeats 4000000 in
theorem te_393_0_ok : ∀ pc, e_EOq eft cls elay eI n_393 pc (te_393_0 pc) :=
  (e_Tok2
  (e_Tok2
  (e_Tok2
  (e_Tok2
  (e_Tok2
  (e_Lok (e_st (I := eI) (er_sipush (n := 20704) (z := 20704) (v := 20704) (x_dk dn_393_0_ok 0 rfl) (by decide) (by decide))))
  (e_Lok (e_st (I := eI) (er_bipush (n := 33) (z := 33) (v := 33) (x_dk dn_393_0_ok 1 rfl) (by decide) (by decide)))))
  (e_Tok2
  (e_Lok (e_st (I := eI) (er_iload_n (i := 2) (x_dk dn_393_0_ok 2 rfl))))
  (e_Lok (e_st (I := eI) (er_imul (x_dk dn_393_0_ok 3 rfl))))))
  (e_Tok2
  (e_Tok2
  (e_Lok (e_st (I := eI) (er_iadd (x_dk dn_393_0_ok 4 rfl))))
  (e_Lok (e_st (I := eI) (er_istore (i := 4) (x_dk dn_393_0_ok 5 rfl) (by decide +kernel)))))
  (e_Tok2
  (e_Lok (e_st (I := eI) (er_aload_n (i := 0) (x_dk dn_393_0_ok 6 rfl))))
  (e_Tok2
  (e_Lok (e_st (I := eI) (er_getf (ci := 12) (k := 0) (ix := 8) (N := 119) (C := RX12) (T := TX12) rfl in_X12 (by decide) (in_t9 (List.mem_of_getElem? (i := 115) rfl) rfl) (x_dk dn_393_0_ok 7 rfl))))
  (e_Lok (e_st (I := eI) (er_iload (i := 4) (x_dk dn_393_0_ok 8 rfl))))))))
  (e_Tok2
  (e_Tok2
  (e_Tok2
  (e_Lok (e_st (I := eI) (er_iaload (x_dk dn_393_0_ok 9 rfl))))
  (e_Lok (e_st (I := eI) (er_istore (i := 5) (x_dk dn_393_0_ok 10 rfl) (by decide +kernel)))))
  (e_Tok2
  (e_Lok (e_st (I := eI) (er_iload (i := 5) (x_dk dn_393_0_ok 11 rfl))))
  (e_Tok2
  (e_Lok (e_st (I := eI) (er_istore (i := 6) (x_dk dn_393_0_ok 12 rfl) (by decide +kernel))))
  (e_Lok (e_st (I := eI) (er_iload (i := 6) (x_dk dn_393_0_ok 13 rfl)))))))
  (e_Tok2
  (e_Tok2
  (e_Lok (e_st (I := eI) (er_ifle (off := 55) (tg := 80) (x_dk dn_393_0_ok 14 rfl) (by decide))))
  (e_Lok (e_st (I := eI) (er_aload_n (i := 0) (x_dk dn_393_0_ok 15 rfl)))))
  (e_Tok2
  (e_Lok (e_st (I := eI) (er_getf (ci := 12) (k := 0) (ix := 8) (N := 119) (C := RX12) (T := TX12) rfl in_X12 (by decide) (in_t9 (List.mem_of_getElem? (i := 115) rfl) rfl) (x_dk dn_393_0_ok 16 rfl))))
  (e_Tok2
  (e_Lok (e_st (I := eI) (er_aload_n (i := 0) (x_dk dn_393_0_ok 17 rfl))))
  (e_Lok (e_st (I := eI) (er_getf (ci := 12) (k := 0) (ix := 8) (N := 119) (C := RX12) (T := TX12) rfl in_X12 (by decide) (in_t9 (List.mem_of_getElem? (i := 115) rfl) rfl) (x_dk dn_393_0_ok 18 rfl)))))))))
  (e_Tok2
  (e_Tok2
  (e_Tok2
  (e_Tok2
  (e_Lok (e_st (I := eI) (er_iload (i := 4) (x_dk dn_393_0_ok 19 rfl))))
  (e_Lok (e_st (I := eI) (er_iload (i := 6) (x_dk dn_393_0_ok 20 rfl)))))
  (e_Tok2
  (e_Lok (e_st (I := eI) (er_iadd (x_dk dn_393_0_ok 21 rfl))))
  (e_Lok (e_st (I := eI) (er_iaload (x_dk dn_393_0_ok 22 rfl))))))
  (e_Tok2
  (e_Tok2
  (e_Lok (e_ca (I := eI) (q' := n_392) rfl (xr_callS (q' := n_392) (ix := 774) (n := 1) (in_t11 (List.mem_of_getElem? (i := 92) rfl) rfl) good_w (in_t1 (List.mem_of_getElem? (i := 14) rfl) rfl) (in_t11 (List.mem_of_getElem? (i := 90) rfl) rfl) (in_t11 (List.mem_of_getElem? (i := 91) rfl) rfl) (by decide +kernel) (by decide +kernel) (x_dk dn_393_0_ok 23 rfl))))
  (e_Lok (e_st (I := eI) (er_iconst (n := 3) (z := 3) (v := 3) (x_dk dn_393_0_ok 24 rfl) (by decide) (by decide)))))
  (e_Tok2
  (e_Lok (e_st (I := eI) (er_iadd (x_dk dn_393_0_ok 25 rfl))))
  (e_Tok2
  (e_Lok (e_st (I := eI) (er_iaload (x_dk dn_393_0_ok 26 rfl))))
  (e_Lok (e_st (I := eI) (er_iload_n (i := 3) (x_dk dn_393_0_ok 27 rfl))))))))
  (e_Tok2
  (e_Tok2
  (e_Tok2
  (e_Lok (e_st (I := eI) (er_icmpge (off := 31) (tg := 80) (x_dk dn_393_0_ok 28 rfl) (by decide))))
  (e_Lok (e_st (I := eI) (er_aload_n (i := 0) (x_dk dn_393_0_ok 29 rfl)))))
  (e_Tok2
  (e_Lok (e_st (I := eI) (er_getf (ci := 12) (k := 0) (ix := 8) (N := 119) (C := RX12) (T := TX12) rfl in_X12 (by decide) (in_t9 (List.mem_of_getElem? (i := 115) rfl) rfl) (x_dk dn_393_0_ok 30 rfl))))
  (e_Tok2
  (e_Lok (e_st (I := eI) (er_iload (i := 4) (x_dk dn_393_0_ok 31 rfl))))
  (e_Lok (e_st (I := eI) (er_iload (i := 6) (x_dk dn_393_0_ok 32 rfl)))))))
  (e_Tok2
  (e_Tok2
  (e_Lok (e_st (I := eI) (er_iadd (x_dk dn_393_0_ok 33 rfl))))
  (e_Lok (e_st (I := eI) (er_iconst (n := 1) (z := 1) (v := 1) (x_dk dn_393_0_ok 34 rfl) (by decide) (by decide)))))
  (e_Tok2
  (e_Lok (e_st (I := eI) (er_iadd (x_dk dn_393_0_ok 35 rfl))))
  (e_Tok2
  (e_Lok (e_st (I := eI) (er_aload_n (i := 0) (x_dk dn_393_0_ok 36 rfl))))
  (e_Lok (e_st (I := eI) (er_getf (ci := 12) (k := 0) (ix := 8) (N := 119) (C := RX12) (T := TX12) rfl in_X12 (by decide) (in_t9 (List.mem_of_getElem? (i := 115) rfl) rfl) (x_dk dn_393_0_ok 37 rfl))))))))))
def te_393_38 : Nat → eE := (e_T 97 (e_T 81 (e_T 72 (e_T 69 (e_T 67 (e_L 67 (0, ei_load 4 0 69, 0, 0)) (e_L 69 (0, ei_load 6 0 71, 0, 0))) (e_T 71 (e_L 71 (0, ei_bin eF_add 72, 0, 0)) (e_L 72 (0, ei_ald elay false 73, 0, 0)))) (e_T 74 (e_T 73 (e_L 73 (0, ei_ast elay false 74, 0, 0)) (e_L 74 (0, ei_inc 6 (-1) 77, 0, 0))) (e_T 77 (e_L 77 (0, ei_goto 23, 0, 0)) (e_T 80 (e_L 80 (0, ei_load 0 2 81, 0, 0)) (e_L 81 (0, ei_getf eft elay 12 0 84, 0, 0)))))) (e_T 90 (e_T 86 (e_T 84 (e_L 84 (0, ei_load 4 0 86, 0, 0)) (e_L 86 (0, ei_load 6 0 88, 0, 0))) (e_T 88 (e_L 88 (0, ei_bin eF_add 89, 0, 0)) (e_T 89 (e_L 89 (0, ei_push (0, 1) 90, 0, 0)) (e_L 90 (0, ei_bin eF_add 91, 0, 0))))) (e_T 92 (e_T 91 (e_L 91 (0, ei_load 1 0 92, 0, 0)) (e_L 92 (0, ei_ast elay false 93, 0, 0))) (e_T 93 (e_L 93 (0, ei_load 0 2 94, 0, 0)) (e_T 94 (e_L 94 (0, ei_getf eft elay 12 0 97, 0, 0)) (e_L 97 (0, ei_load 4 0 99, 0, 0))))))) (e_T 112 (e_T 103 (e_T 101 (e_T 99 (e_L 99 (0, ei_load 5 0 101, 0, 0)) (e_L 101 (0, ei_push (0, 1) 102, 0, 0))) (e_T 102 (e_L 102 (0, ei_bin eF_add 103, 0, 0)) (e_L 103 (0, ei_ast elay false 104, 0, 0)))) (e_T 105 (e_T 104 (e_L 104 (0, ei_load 0 2 105, 0, 0)) (e_L 105 (0, ei_getf eft elay 12 0 108, 0, 0))) (e_T 108 (e_L 108 (0, ei_load 1 0 109, 0, 0)) (e_T 109 (e_L 109 (2, e_nof, 392, 1)) (e_L 112 (0, ei_load 2 0 113, 0, 0)))))) (e_T 119 (e_T 114 (e_T 113 (e_L 113 (0, ei_ast elay false 114, 0, 0)) (e_L 114 (0, ei_load 0 2 115, 0, 0))) (e_T 115 (e_L 115 (0, ei_getf eft elay 12 0 118, 0, 0)) (e_T 118 (e_L 118 (0, ei_load 1 0 119, 0, 0)) (e_L 119 (2, e_nof, 392, 1))))) (e_T 123 (e_T 122 (e_L 122 (0, ei_push (0, 3) 123, 0, 0)) (e_L 123 (0, ei_bin eF_add 124, 0, 0))) (e_T 124 (e_L 124 (0, ei_load 3 0 125, 0, 0)) (e_T 125 (e_L 125 (0, ei_ast elay false 126, 0, 0)) (e_L 126 (1, e_nof, 0, 0))))))))
set_option maxRecDepth 20000 in
set_option maxHeartbeats 4000000 in
theorem te_393_38_ok : ∀ pc, e_EOq eft cls elay eI n_393 pc (te_393_38 pc) :=
  (e_Tok2
  (e_Tok2
  (e_Tok2
  (e_Tok2
  (e_Tok2
  (e_Lok (e_st (I := eI) (er_iload (i := 4) (x_dk dn_393_0_ok 38 rfl))))
  (e_Lok (e_st (I := eI) (er_iload (i := 6) (x_dk dn_393_0_ok 39 rfl)))))
  (e_Tok2
  (e_Lok (e_st (I := eI) (er_iadd (x_dk dn_393_0_ok 40 rfl))))
  (e_Lok (e_st (I := eI) (er_iaload (x_dk dn_393_0_ok 41 rfl))))))
  (e_Tok2
  (e_Tok2
  (e_Lok (e_st (I := eI) (er_iastore (x_dk dn_393_0_ok 42 rfl))))
  (e_Lok (e_st (I := eI) (er_iinc (i := 6) (n := (-1)) (x_dk dn_393_0_ok 43 rfl) (by decide +kernel) (by decide)))))
  (e_Tok2
  (e_Lok (e_st (I := eI) (er_goto (off := (-54)) (tg := 23) (x_dk dn_393_0_ok 44 rfl) (by decide))))
  (e_Tok2
  (e_Lok (e_st (I := eI) (er_aload_n (i := 0) (x_dk dn_393_0_ok 45 rfl))))
  (e_Lok (e_st (I := eI) (er_getf (ci := 12) (k := 0) (ix := 8) (N := 119) (C := RX12) (T := TX12) rfl in_X12 (by decide) (in_t9 (List.mem_of_getElem? (i := 115) rfl) rfl) (x_dk dn_393_0_ok 46 rfl))))))))
  (e_Tok2
  (e_Tok2
  (e_Tok2
  (e_Lok (e_st (I := eI) (er_iload (i := 4) (x_dk dn_393_0_ok 47 rfl))))
  (e_Lok (e_st (I := eI) (er_iload (i := 6) (x_dk dn_393_0_ok 48 rfl)))))
  (e_Tok2
  (e_Lok (e_st (I := eI) (er_iadd (x_dk dn_393_0_ok 49 rfl))))
  (e_Tok2
  (e_Lok (e_st (I := eI) (er_iconst (n := 1) (z := 1) (v := 1) (x_dk dn_393_0_ok 50 rfl) (by decide) (by decide))))
  (e_Lok (e_st (I := eI) (er_iadd (x_dk dn_393_0_ok 51 rfl)))))))
  (e_Tok2
  (e_Tok2
  (e_Lok (e_st (I := eI) (er_iload_n (i := 1) (x_dk dn_393_0_ok 52 rfl))))
  (e_Lok (e_st (I := eI) (er_iastore (x_dk dn_393_0_ok 53 rfl)))))
  (e_Tok2
  (e_Lok (e_st (I := eI) (er_aload_n (i := 0) (x_dk dn_393_0_ok 54 rfl))))
  (e_Tok2
  (e_Lok (e_st (I := eI) (er_getf (ci := 12) (k := 0) (ix := 8) (N := 119) (C := RX12) (T := TX12) rfl in_X12 (by decide) (in_t9 (List.mem_of_getElem? (i := 115) rfl) rfl) (x_dk dn_393_0_ok 55 rfl))))
  (e_Lok (e_st (I := eI) (er_iload (i := 4) (x_dk dn_393_0_ok 56 rfl)))))))))
  (e_Tok2
  (e_Tok2
  (e_Tok2
  (e_Tok2
  (e_Lok (e_st (I := eI) (er_iload (i := 5) (x_dk dn_393_0_ok 57 rfl))))
  (e_Lok (e_st (I := eI) (er_iconst (n := 1) (z := 1) (v := 1) (x_dk dn_393_0_ok 58 rfl) (by decide) (by decide)))))
  (e_Tok2
  (e_Lok (e_st (I := eI) (er_iadd (x_dk dn_393_0_ok 59 rfl))))
  (e_Lok (e_st (I := eI) (er_iastore (x_dk dn_393_0_ok 60 rfl))))))
  (e_Tok2
  (e_Tok2
  (e_Lok (e_st (I := eI) (er_aload_n (i := 0) (x_dk dn_393_0_ok 61 rfl))))
  (e_Lok (e_st (I := eI) (er_getf (ci := 12) (k := 0) (ix := 8) (N := 119) (C := RX12) (T := TX12) rfl in_X12 (by decide) (in_t9 (List.mem_of_getElem? (i := 115) rfl) rfl) (x_dk dn_393_0_ok 62 rfl)))))
  (e_Tok2
  (e_Lok (e_st (I := eI) (er_iload_n (i := 1) (x_dk dn_393_0_ok 63 rfl))))
  (e_Tok2
  (e_Lok (e_ca (I := eI) (q' := n_392) rfl (xr_callS (q' := n_392) (ix := 774) (n := 1) (in_t11 (List.mem_of_getElem? (i := 92) rfl) rfl) good_w (in_t1 (List.mem_of_getElem? (i := 14) rfl) rfl) (in_t11 (List.mem_of_getElem? (i := 90) rfl) rfl) (in_t11 (List.mem_of_getElem? (i := 91) rfl) rfl) (by decide +kernel) (by decide +kernel) (x_dk dn_393_0_ok 64 rfl))))
  (e_Lok (e_st (I := eI) (er_iload_n (i := 2) (x_dk dn_393_0_ok 65 rfl))))))))
  (e_Tok2
  (e_Tok2
  (e_Tok2
  (e_Lok (e_st (I := eI) (er_iastore (x_dk dn_393_0_ok 66 rfl))))
  (e_Lok (e_st (I := eI) (er_aload_n (i := 0) (x_dk dn_393_0_ok 67 rfl)))))
  (e_Tok2
  (e_Lok (e_st (I := eI) (er_getf (ci := 12) (k := 0) (ix := 8) (N := 119) (C := RX12) (T := TX12) rfl in_X12 (by decide) (in_t9 (List.mem_of_getElem? (i := 115) rfl) rfl) (x_dk dn_393_0_ok 68 rfl))))
  (e_Tok2
  (e_Lok (e_st (I := eI) (er_iload_n (i := 1) (x_dk dn_393_0_ok 69 rfl))))
  (e_Lok (e_ca (I := eI) (q' := n_392) rfl (xr_callS (q' := n_392) (ix := 774) (n := 1) (in_t11 (List.mem_of_getElem? (i := 92) rfl) rfl) good_w (in_t1 (List.mem_of_getElem? (i := 14) rfl) rfl) (in_t11 (List.mem_of_getElem? (i := 90) rfl) rfl) (in_t11 (List.mem_of_getElem? (i := 91) rfl) rfl) (by decide +kernel) (by decide +kernel) (x_dk dn_393_0_ok 70 rfl)))))))
  (e_Tok2
  (e_Tok2
  (e_Lok (e_st (I := eI) (er_iconst (n := 3) (z := 3) (v := 3) (x_dk dn_393_0_ok 71 rfl) (by decide) (by decide))))
  (e_Lok (e_st (I := eI) (er_iadd (x_dk dn_393_0_ok 72 rfl)))))
  (e_Tok2
  (e_Lok (e_st (I := eI) (er_iload_n (i := 3) (x_dk dn_393_0_ok 73 rfl))))
  (e_Tok2
  (e_Lok (e_st (I := eI) (er_iastore (x_dk dn_393_0_ok 74 rfl))))
  (e_Lok (e_rt (I := eI) (k := 0) ⟨(x_dk dn_393_0_ok 75 rfl), rfl⟩))))))))
def te_393 : Nat → eE := (e_T 64 te_393_0 te_393_38)
theorem te_393_ok : ∀ pc, e_EOq eft cls elay eI n_393 pc (te_393 pc) := (e_Tok2 (te_393_0_ok) (te_393_38_ok))
def dn_452_0 : List (Nat × Instr × Nat) := [(0, .iconst 0, 1), (1, .istore_n 2, 1), (2, .aload_n 0, 1), (3, .arraylength, 1), (4, .istore_n 3, 1), (5, .iload_n 2, 1), (6, .iload_n 3, 1), (7, .if_icmp .ge 13, 3), (10, .aload_n 0, 1), (11, .iload_n 2, 1), (12, .iload_n 1, 1), (13, .iastore, 1), (14, .iinc 2 1, 3), (17, .goto (-12), 3), (20, .return_, 1)]
set_option maxRecDepth 20000 in
theorem dn_452_0_ok : dn_452_0.all (fun q => decide (decode prog_20_method_103_code q.1 = .ok (q.2.1, q.2.2))) = true := by decide +kernel
def te_452_0 : Nat → eE := (e_T 6 (e_T 2 (e_T 0 (e_L 0 (0, ei_push (0, 0) 1, 0, 0)) (e_T 1 (e_L 1 (0, ei_stor 2 0 2, 0, 0)) (e_L 2 (0, ei_load 0 2 3, 0, 0)))) (e_T 4 (e_T 3 (e_L 3 (0, ei_alen elay 4, 0, 0)) (e_L 4 (0, ei_stor 3 0 5, 0, 0))) (e_T 5 (e_L 5 (0, ei_load 2 0 6, 0, 0)) (e_L 6 (0, ei_load 3 0 7, 0, 0))))) (e_T 12 (e_T 10 (e_T 7 (e_L 7 (0, ei_if2 3 20 10, 0, 0)) (e_L 10 (0, ei_load 0 2 11, 0, 0))) (e_T 11 (e_L 11 (0, ei_load 2 0 12, 0, 0)) (e_L 12 (0, ei_load 1 0 13, 0, 0)))) (e_T 14 (e_T 13 (e_L 13 (0, ei_ast elay false 14, 0, 0)) (e_L 14 (0, ei_inc 2 1 17, 0, 0))) (e_T 17 (e_L 17 (0, ei_goto 5, 0, 0)) (e_L 20 (1, e_nof, 0, 0))))))
set_option maxRecDepth 20000 in
set_option maxHeartbeats 4000000 in
theorem te_452_0_ok : ∀ pc, e_EOq eft cls elay eI n_452 pc (te_452_0 pc) :=
  (e_Tok2
  (e_Tok2
  (e_Tok2
  (e_Lok (e_st (I := eI) (er_iconst (n := 0) (z := 0) (v := 0) (x_dk dn_452_0_ok 0 rfl) (by decide) (by decide))))
  (e_Tok2
  (e_Lok (e_st (I := eI) (er_istore_n (i := 2) (x_dk dn_452_0_ok 1 rfl) (by decide +kernel))))
  (e_Lok (e_st (I := eI) (er_aload_n (i := 0) (x_dk dn_452_0_ok 2 rfl))))))
  (e_Tok2
  (e_Tok2
  (e_Lok (e_st (I := eI) (er_alen (x_dk dn_452_0_ok 3 rfl))))
  (e_Lok (e_st (I := eI) (er_istore_n (i := 3) (x_dk dn_452_0_ok 4 rfl) (by decide +kernel)))))
  (e_Tok2
  (e_Lok (e_st (I := eI) (er_iload_n (i := 2) (x_dk dn_452_0_ok 5 rfl))))
  (e_Lok (e_st (I := eI) (er_iload_n (i := 3) (x_dk dn_452_0_ok 6 rfl)))))))
  (e_Tok2
  (e_Tok2
  (e_Tok2
  (e_Lok (e_st (I := eI) (er_icmpge (off := 13) (tg := 20) (x_dk dn_452_0_ok 7 rfl) (by decide))))
  (e_Lok (e_st (I := eI) (er_aload_n (i := 0) (x_dk dn_452_0_ok 8 rfl)))))
  (e_Tok2
  (e_Lok (e_st (I := eI) (er_iload_n (i := 2) (x_dk dn_452_0_ok 9 rfl))))
  (e_Lok (e_st (I := eI) (er_iload_n (i := 1) (x_dk dn_452_0_ok 10 rfl))))))
  (e_Tok2
  (e_Tok2
  (e_Lok (e_st (I := eI) (er_iastore (x_dk dn_452_0_ok 11 rfl))))
  (e_Lok (e_st (I := eI) (er_iinc (i := 2) (n := 1) (x_dk dn_452_0_ok 12 rfl) (by decide +kernel) (by decide)))))
  (e_Tok2
  (e_Lok (e_st (I := eI) (er_goto (off := (-12)) (tg := 5) (x_dk dn_452_0_ok 13 rfl) (by decide))))
  (e_Lok (e_rt (I := eI) (k := 0) ⟨(x_dk dn_452_0_ok 14 rfl), rfl⟩))))))
def te_452 : Nat → eE := te_452_0
theorem te_452_ok : ∀ pc, e_EOq eft cls elay eI n_452 pc (te_452 pc) := te_452_0_ok
end
