noncomputable section
/-! the JDK's own methods of a text: their table -/
def n_500 : xM := (⟨"java/lang/String", "coder", "()B"⟩, prog_17_method_152_code, 1, (some .byte), 0, 0, 998)
def n_501 : xM := (⟨"java/lang/String", "length", "()I"⟩, prog_17_method_54_code, 1, (some .int), 0, 0, 998)
def n_502 : xM := (⟨"java/lang/String", "isLatin1", "()Z"⟩, prog_17_method_154_code, 1, (some .boolean), 0, 0, 998)
def n_503 : xM := (⟨"java/lang/String", "checkIndex", "(II)V"⟩, prog_17_method_155_code, 2, none, 0, 0, 999)
def n_504 : xM := (⟨"jdk/internal/util/Preconditions", "checkIndex", "(IILjava/util/function/BiFunction;)I"⟩, prog_21_method_11_code, 3, (some .int), 0, 0, 999)
def n_505 : xM := (⟨"java/lang/StringLatin1", "charAt", "([BI)C"⟩, prog_18_method_2_code, 2, (some .char), 0, 0, 999)
def n_506 : xM := (⟨"java/lang/String", "charAt", "(I)C"⟩, prog_17_method_56_code, 2, (some .char), 0, 0, 998)
def n_507 : xM := (⟨"java/lang/StringLatin1", "canEncode", "(I)Z"⟩, prog_18_method_4_code, 1, (some .boolean), 0, 0, 999)
def n_508 : xM := (⟨"java/lang/StringLatin1", "indexOfChar", "([BIII)I"⟩, prog_18_method_23_code, 6, (some .int), 0, 0, 999)
def n_509 : xM := (⟨"java/lang/StringLatin1", "indexOf", "([BIII)I"⟩, prog_18_method_22_code, 4, (some .int), 0, 0, 999)
def n_510 : xM := (⟨"java/lang/String", "indexOf", "(II)I"⟩, prog_17_method_80_code, 3, (some .int), 0, 0, 998)
def n_511 : xM := (⟨"java/lang/String", "indexOf", "(I)I"⟩, prog_17_method_79_code, 2, (some .int), 0, 0, 998)
def I3 (M : Nat) : xM := bif Nat.beq M 500 then n_500 else bif Nat.beq M 501 then n_501 else bif Nat.beq M 502 then n_502 else bif Nat.beq M 503 then n_503 else bif Nat.beq M 504 then n_504 else bif Nat.beq M 505 then n_505 else bif Nat.beq M 506 then n_506 else bif Nat.beq M 507 then n_507 else bif Nat.beq M 508 then n_508 else bif Nat.beq M 509 then n_509 else bif Nat.beq M 510 then n_510 else bif Nat.beq M 511 then n_511 else eI M
def dn_500_0 : List (Nat × Instr × Nat) := [(0, .getstatic 38, 3), (3, .ifCond .eq 10, 3), (6, .aload_n 0, 1), (7, .getfield 15, 3), (10, .goto 4, 3), (13, .iconst 1, 1), (14, .ireturn, 1)]
set_option maxRecDepth 20000 in
theorem dn_500_0_ok : dn_500_0.all (fun q => decide (decode prog_17_method_152_code q.1 = .ok (q.2.1, q.2.2))) = true := by decide +kernel
def te_500 : Nat → eE := (e_T 6 (e_T 0 (e_L 0 (0, ei_push (0, 1) 3, 0, 0)) (e_T 3 (e_L 3 (0, ei_if1 0 13 6, 0, 0)) (e_L 6 (0, ei_load 0 2 7, 0, 0)))) (e_T 7 (e_L 7 (0, e_S (g_cod 10), 0, 0)) (e_T 10 (e_L 10 (0, ei_goto 14, 0, 0)) (e_L 14 (1, e_nof, 5, 0)))))
set_option maxRecDepth 20000 in
set_option maxHeartbeats 4000000 in
theorem te_500_ok : ∀ pc, e_EOq eft cls elay I3 n_500 pc (te_500 pc) :=
  (e_Tok2
  (e_Tok2
  (e_Lok (e_st (I := I3) (er_comp (ix := 38) (in_t5 (List.mem_of_getElem? (i := 123) rfl) rfl) (x_dk dn_500_0_ok 0 rfl)) (nx_push (Or.inl rfl))))
  (e_Tok2
  (e_Lok (e_st (I := I3) (er_ifeq (off := 10) (tg := 13) (x_dk dn_500_0_ok 1 rfl) (by decide)) nx_if1))
  (e_Lok (e_st (I := I3) (er_aload_n (i := 0) (x_dk dn_500_0_ok 2 rfl)) nx_load))))
  (e_Tok2
  (e_Lok (e_st (I := I3) (er_tcod (ix := 15) (in_t14 (List.mem_of_getElem? (i := 26) rfl) rfl) (x_dk dn_500_0_ok 3 rfl)) (nx_S bS_cod)))
  (e_Tok2
  (e_Lok (e_st (I := I3) (er_goto (off := 4) (tg := 14) (x_dk dn_500_0_ok 4 rfl) (by decide)) nx_goto))
  (e_Lok (e_rt (I := I3) (k := 5) ⟨(x_dk dn_500_0_ok 6 rfl), Or.inl rfl⟩)))))
def dn_501_0 : List (Nat × Instr × Nat) := [(0, .aload_n 0, 1), (1, .getfield 9, 3), (4, .arraylength, 1), (5, .aload_n 0, 1), (6, .invokevirtual 335, 3), (9, .ishr, 1), (10, .ireturn, 1)]
set_option maxRecDepth 20000 in
theorem dn_501_0_ok : dn_501_0.all (fun q => decide (decode prog_17_method_54_code q.1 = .ok (q.2.1, q.2.2))) = true := by decide +kernel
def te_501 : Nat → eE := (e_T 4 (e_T 0 (e_L 0 (0, ei_load 0 2 1, 0, 0)) (e_T 1 (e_L 1 (0, e_S (g_val 4), 0, 0)) (e_L 4 (0, e_S (g_tln 5), 0, 0)))) (e_T 6 (e_T 5 (e_L 5 (0, ei_load 0 2 6, 0, 0)) (e_L 6 (2, e_nof, 500, 1))) (e_T 9 (e_L 9 (0, ei_bin (eB (fun x y => x >>> (y &&& 31))) 10, 0, 0)) (e_L 10 (1, e_nof, 1, 0)))))
set_option maxRecDepth 20000 in
set_option maxHeartbeats 4000000 in
theorem te_501_ok : ∀ pc, e_EOq eft cls elay I3 n_501 pc (te_501 pc) :=
  (e_Tok2
  (e_Tok2
  (e_Lok (e_st (I := I3) (er_aload_n (i := 0) (x_dk dn_501_0_ok 0 rfl)) nx_load))
  (e_Tok2
  (e_Lok (e_st (I := I3) (er_tval (ix := 9) (in_t14 (List.mem_of_getElem? (i := 25) rfl) rfl) (x_dk dn_501_0_ok 1 rfl)) (nx_S bS_val)))
  (e_Lok (e_st (I := I3) (er_tln (x_dk dn_501_0_ok 2 rfl)) (nx_S bS_tln)))))
  (e_Tok2
  (e_Tok2
  (e_Lok (e_st (I := I3) (er_aload_n (i := 0) (x_dk dn_501_0_ok 3 rfl)) nx_load))
  (e_Lok (e_ca (I := I3) (q' := n_500) rfl (xr_callV (q' := n_500) (ix := 335) (n := 0) (in_t5 (List.mem_of_getElem? (i := 122) rfl) rfl) good_w (in_t1 (List.mem_of_getElem? (i := 16) rfl) rfl) (in_t5 (List.mem_of_getElem? (i := 119) rfl) rfl) (in_t5 (List.mem_of_getElem? (i := 120) rfl) rfl) (in_t5 (List.mem_of_getElem? (i := 121) rfl) rfl) (by decide +kernel) (by decide +kernel) (by decide +kernel) (x_dk dn_501_0_ok 4 rfl)))))
  (e_Tok2
  (e_Lok (e_st (I := I3) (er_ishr (x_dk dn_501_0_ok 5 rfl)) nx_bin))
  (e_Lok (e_rt (I := I3) (k := 1) ⟨(x_dk dn_501_0_ok 6 rfl), rfl⟩)))))
def dn_502_0 : List (Nat × Instr × Nat) := [(0, .getstatic 38, 3), (3, .ifCond .eq 14, 3), (6, .aload_n 0, 1), (7, .getfield 15, 3), (10, .ifCond .ne 7, 3), (13, .iconst 1, 1), (14, .goto 4, 3), (17, .iconst 0, 1), (18, .ireturn, 1)]
set_option maxRecDepth 20000 in
theorem dn_502_0_ok : dn_502_0.all (fun q => decide (decode prog_17_method_154_code q.1 = .ok (q.2.1, q.2.2))) = true := by decide +kernel
def te_502 : Nat → eE := (e_T 7 (e_T 3 (e_T 0 (e_L 0 (0, ei_push (0, 1) 3, 0, 0)) (e_L 3 (0, ei_if1 0 17 6, 0, 0))) (e_T 6 (e_L 6 (0, ei_load 0 2 7, 0, 0)) (e_L 7 (0, e_S (g_cod 10), 0, 0)))) (e_T 13 (e_T 10 (e_L 10 (0, ei_if1 1 17 13, 0, 0)) (e_L 13 (0, ei_push (0, 1) 14, 0, 0))) (e_T 14 (e_L 14 (0, ei_goto 18, 0, 0)) (e_T 17 (e_L 17 (0, ei_push (0, 0) 18, 0, 0)) (e_L 18 (1, e_nof, 4, 0))))))
set_option maxRecDepth 20000 in
set_option maxHeartbeats 4000000 in
theorem te_502_ok : ∀ pc, e_EOq eft cls elay I3 n_502 pc (te_502 pc) :=
  (e_Tok2
  (e_Tok2
  (e_Tok2
  (e_Lok (e_st (I := I3) (er_comp (ix := 38) (in_t5 (List.mem_of_getElem? (i := 123) rfl) rfl) (x_dk dn_502_0_ok 0 rfl)) (nx_push (Or.inl rfl))))
  (e_Lok (e_st (I := I3) (er_ifeq (off := 14) (tg := 17) (x_dk dn_502_0_ok 1 rfl) (by decide)) nx_if1)))
  (e_Tok2
  (e_Lok (e_st (I := I3) (er_aload_n (i := 0) (x_dk dn_502_0_ok 2 rfl)) nx_load))
  (e_Lok (e_st (I := I3) (er_tcod (ix := 15) (in_t14 (List.mem_of_getElem? (i := 26) rfl) rfl) (x_dk dn_502_0_ok 3 rfl)) (nx_S bS_cod)))))
  (e_Tok2
  (e_Tok2
  (e_Lok (e_st (I := I3) (er_ifne (off := 7) (tg := 17) (x_dk dn_502_0_ok 4 rfl) (by decide)) nx_if1))
  (e_Lok (e_st (I := I3) (er_iconst (n := 1) (z := 1) (v := 1) (x_dk dn_502_0_ok 5 rfl) (by decide) (by decide)) (nx_push (Or.inl rfl)))))
  (e_Tok2
  (e_Lok (e_st (I := I3) (er_goto (off := 4) (tg := 18) (x_dk dn_502_0_ok 6 rfl) (by decide)) nx_goto))
  (e_Tok2
  (e_Lok (e_st (I := I3) (er_iconst (n := 0) (z := 0) (v := 0) (x_dk dn_502_0_ok 7 rfl) (by decide) (by decide)) (nx_push (Or.inl rfl))))
  (e_Lok (e_rt (I := I3) (k := 4) ⟨(x_dk dn_502_0_ok 8 rfl), rfl⟩))))))
def dn_503_0 : List (Nat × Instr × Nat) := [(0, .iload_n 0, 1), (1, .iload_n 1, 1), (2, .getstatic 1053, 3), (5, .invokestatic 1059, 3), (8, .pop, 1), (9, .return_, 1)]
set_option maxRecDepth 20000 in
theorem dn_503_0_ok : dn_503_0.all (fun q => decide (decode prog_17_method_155_code q.1 = .ok (q.2.1, q.2.2))) = true := by decide +kernel
def te_503 : Nat → eE := (e_T 2 (e_T 0 (e_L 0 (0, ei_load 0 0 1, 0, 0)) (e_T 1 (e_L 1 (0, ei_load 1 0 2, 0, 0)) (e_L 2 (0, ei_push (5, 0) 5, 0, 0)))) (e_T 5 (e_L 5 (2, e_nof, 504, 3)) (e_T 8 (e_L 8 (0, ei_stk ef_pop 9, 0, 0)) (e_L 9 (1, e_nof, 0, 0)))))
set_option maxRecDepth 20000 in
set_option maxHeartbeats 4000000 in
theorem te_503_ok : ∀ pc, e_EOq eft cls elay I3 n_503 pc (te_503 pc) :=
  (e_Tok2
  (e_Tok2
  (e_Lok (e_st (I := I3) (er_iload_n (i := 0) (x_dk dn_503_0_ok 0 rfl)) nx_load))
  (e_Tok2
  (e_Lok (e_st (I := I3) (er_iload_n (i := 1) (x_dk dn_503_0_ok 1 rfl)) nx_load))
  (e_Lok (e_st (I := I3) (er_sio (ix := 1053) (in_t5 (List.mem_of_getElem? (i := 139) rfl) rfl) (x_dk dn_503_0_ok 2 rfl)) (nx_push (Or.inl rfl))))))
  (e_Tok2
  (e_Lok (e_ca (I := I3) (q' := n_504) rfl (xr_callS (q' := n_504) (ix := 1059) (n := 3) (in_t5 (List.mem_of_getElem? (i := 143) rfl) rfl) good_w (in_t1 (List.mem_of_getElem? (i := 18) rfl) rfl) (in_t5 (List.mem_of_getElem? (i := 141) rfl) rfl) (in_t5 (List.mem_of_getElem? (i := 142) rfl) rfl) (by decide +kernel) (by decide +kernel) (x_dk dn_503_0_ok 3 rfl))))
  (e_Tok2
  (e_Lok (e_st (I := I3) (er_pop (x_dk dn_503_0_ok 4 rfl)) (nx_stk bf_pop)))
  (e_Lok (e_rt (I := I3) (k := 0) ⟨(x_dk dn_503_0_ok 5 rfl), rfl⟩)))))
def dn_504_0 : List (Nat × Instr × Nat) := [(0, .iload_n 0, 1), (1, .ifCond .lt 8, 3), (4, .iload_n 0, 1), (5, .iload_n 1, 1), (6, .if_icmp .lt 10, 3), (9, .aload_n 2, 1), (10, .iload_n 0, 1), (11, .iload_n 1, 1), (12, .invokestatic 95, 3), (15, .athrow, 1), (16, .iload_n 0, 1), (17, .ireturn, 1)]
set_option maxRecDepth 20000 in
theorem dn_504_0_ok : dn_504_0.all (fun q => decide (decode prog_21_method_11_code q.1 = .ok (q.2.1, q.2.2))) = true := by decide +kernel
def te_504 : Nat → eE := (e_T 4 (e_T 0 (e_L 0 (0, ei_load 0 0 1, 0, 0)) (e_T 1 (e_L 1 (0, ei_if1 2 9 4, 0, 0)) (e_L 4 (0, ei_load 0 0 5, 0, 0)))) (e_T 6 (e_T 5 (e_L 5 (0, ei_load 1 0 6, 0, 0)) (e_L 6 (0, ei_if2 2 16 9, 0, 0))) (e_T 16 (e_L 16 (0, ei_load 0 0 17, 0, 0)) (e_L 17 (1, e_nof, 1, 0)))))
set_option maxRecDepth 20000 in
set_option maxHeartbeats 4000000 in
theorem te_504_ok : ∀ pc, e_EOq eft cls elay I3 n_504 pc (te_504 pc) :=
  (e_Tok2
  (e_Tok2
  (e_Lok (e_st (I := I3) (er_iload_n (i := 0) (x_dk dn_504_0_ok 0 rfl)) nx_load))
  (e_Tok2
  (e_Lok (e_st (I := I3) (er_iflt (off := 8) (tg := 9) (x_dk dn_504_0_ok 1 rfl) (by decide)) nx_if1))
  (e_Lok (e_st (I := I3) (er_iload_n (i := 0) (x_dk dn_504_0_ok 2 rfl)) nx_load))))
  (e_Tok2
  (e_Tok2
  (e_Lok (e_st (I := I3) (er_iload_n (i := 1) (x_dk dn_504_0_ok 3 rfl)) nx_load))
  (e_Lok (e_st (I := I3) (er_icmplt (off := 10) (tg := 16) (x_dk dn_504_0_ok 4 rfl) (by decide)) nx_if2)))
  (e_Tok2
  (e_Lok (e_st (I := I3) (er_iload_n (i := 0) (x_dk dn_504_0_ok 10 rfl)) nx_load))
  (e_Lok (e_rt (I := I3) (k := 1) ⟨(x_dk dn_504_0_ok 11 rfl), rfl⟩)))))
def dn_505_0 : List (Nat × Instr × Nat) := [(0, .iload_n 1, 1), (1, .aload_n 0, 1), (2, .arraylength, 1), (3, .invokestatic 9, 3), (6, .aload_n 0, 1), (7, .iload_n 1, 1), (8, .baload, 1), (9, .sipush 255, 3), (12, .iand, 1), (13, .i2c, 1), (14, .ireturn, 1)]
set_option maxRecDepth 20000 in
theorem dn_505_0_ok : dn_505_0.all (fun q => decide (decode prog_18_method_2_code q.1 = .ok (q.2.1, q.2.2))) = true := by decide +kernel
def te_505 : Nat → eE := (e_T 6 (e_T 1 (e_T 0 (e_L 0 (0, ei_load 1 0 1, 0, 0)) (e_L 1 (0, ei_load 0 2 2, 0, 0))) (e_T 2 (e_L 2 (0, e_S (g_tln 3), 0, 0)) (e_T 3 (e_L 3 (2, e_nof, 503, 2)) (e_L 6 (0, ei_load 0 2 7, 0, 0))))) (e_T 9 (e_T 7 (e_L 7 (0, ei_load 1 0 8, 0, 0)) (e_T 8 (e_L 8 (0, e_S (g_tld 9), 0, 0)) (e_L 9 (0, ei_push (0, 255) 12, 0, 0)))) (e_T 12 (e_L 12 (0, ei_bin (eB (fun x y => x &&& y)) 13, 0, 0)) (e_T 13 (e_L 13 (0, ei_un (fun x => (0, ((Int32.ofInt x).toUInt32 % 65536).toInt32.toInt)) 14, 0, 0)) (e_L 14 (1, e_nof, 5, 0))))))
set_option maxRecDepth 20000 in
set_option maxHeartbeats 4000000 in
theorem te_505_ok : ∀ pc, e_EOq eft cls elay I3 n_505 pc (te_505 pc) :=
  (e_Tok2
  (e_Tok2
  (e_Tok2
  (e_Lok (e_st (I := I3) (er_iload_n (i := 1) (x_dk dn_505_0_ok 0 rfl)) nx_load))
  (e_Lok (e_st (I := I3) (er_aload_n (i := 0) (x_dk dn_505_0_ok 1 rfl)) nx_load)))
  (e_Tok2
  (e_Lok (e_st (I := I3) (er_tln (x_dk dn_505_0_ok 2 rfl)) (nx_S bS_tln)))
  (e_Tok2
  (e_Lok (e_ca (I := I3) (q' := n_503) rfl (xr_callS (q' := n_503) (ix := 9) (n := 2) (in_t5 (List.mem_of_getElem? (i := 138) rfl) rfl) good_w (in_t1 (List.mem_of_getElem? (i := 16) rfl) rfl) (in_t5 (List.mem_of_getElem? (i := 136) rfl) rfl) (in_t5 (List.mem_of_getElem? (i := 137) rfl) rfl) (by decide +kernel) (by decide +kernel) (x_dk dn_505_0_ok 3 rfl))))
  (e_Lok (e_st (I := I3) (er_aload_n (i := 0) (x_dk dn_505_0_ok 4 rfl)) nx_load)))))
  (e_Tok2
  (e_Tok2
  (e_Lok (e_st (I := I3) (er_iload_n (i := 1) (x_dk dn_505_0_ok 5 rfl)) nx_load))
  (e_Tok2
  (e_Lok (e_st (I := I3) (er_tld (x_dk dn_505_0_ok 6 rfl)) (nx_S bS_tld)))
  (e_Lok (e_st (I := I3) (er_sipush (n := 255) (z := 255) (v := 255) (x_dk dn_505_0_ok 7 rfl) (by decide) (by decide)) (nx_push (Or.inl rfl))))))
  (e_Tok2
  (e_Lok (e_st (I := I3) (er_iand (x_dk dn_505_0_ok 8 rfl)) nx_bin))
  (e_Tok2
  (e_Lok (e_st (I := I3) (er_i2c (x_dk dn_505_0_ok 9 rfl)) (nx_un (fun _ => rfl))))
  (e_Lok (e_rt (I := I3) (k := 5) ⟨(x_dk dn_505_0_ok 10 rfl), Or.inr rfl⟩))))))
def dn_506_0 : List (Nat × Instr × Nat) := [(0, .aload_n 0, 1), (1, .invokevirtual 492, 3), (4, .ifCond .eq 12, 3), (7, .aload_n 0, 1), (8, .getfield 9, 3), (11, .iload_n 1, 1), (12, .invokestatic 495, 3), (15, .ireturn, 1), (16, .aload_n 0, 1), (17, .getfield 9, 3), (20, .iload_n 1, 1), (21, .invokestatic 498, 3), (24, .ireturn, 1)]
set_option maxRecDepth 20000 in
theorem dn_506_0_ok : dn_506_0.all (fun q => decide (decode prog_17_method_56_code q.1 = .ok (q.2.1, q.2.2))) = true := by decide +kernel
def te_506 : Nat → eE := (e_T 7 (e_T 1 (e_T 0 (e_L 0 (0, ei_load 0 2 1, 0, 0)) (e_L 1 (2, e_nof, 502, 1))) (e_T 4 (e_L 4 (0, ei_if1 0 16 7, 0, 0)) (e_L 7 (0, ei_load 0 2 8, 0, 0)))) (e_T 11 (e_T 8 (e_L 8 (0, e_S (g_val 11), 0, 0)) (e_L 11 (0, ei_load 1 0 12, 0, 0))) (e_T 12 (e_L 12 (2, e_nof, 505, 2)) (e_L 15 (1, e_nof, 5, 0)))))
set_option maxRecDepth 20000 in
set_option maxHeartbeats 4000000 in
theorem te_506_ok : ∀ pc, e_EOq eft cls elay I3 n_506 pc (te_506 pc) :=
  (e_Tok2
  (e_Tok2
  (e_Tok2
  (e_Lok (e_st (I := I3) (er_aload_n (i := 0) (x_dk dn_506_0_ok 0 rfl)) nx_load))
  (e_Lok (e_ca (I := I3) (q' := n_502) rfl (xr_callV (q' := n_502) (ix := 492) (n := 0) (in_t5 (List.mem_of_getElem? (i := 132) rfl) rfl) good_w (in_t1 (List.mem_of_getElem? (i := 16) rfl) rfl) (in_t5 (List.mem_of_getElem? (i := 129) rfl) rfl) (in_t5 (List.mem_of_getElem? (i := 130) rfl) rfl) (in_t5 (List.mem_of_getElem? (i := 131) rfl) rfl) (by decide +kernel) (by decide +kernel) (by decide +kernel) (x_dk dn_506_0_ok 1 rfl)))))
  (e_Tok2
  (e_Lok (e_st (I := I3) (er_ifeq (off := 12) (tg := 16) (x_dk dn_506_0_ok 2 rfl) (by decide)) nx_if1))
  (e_Lok (e_st (I := I3) (er_aload_n (i := 0) (x_dk dn_506_0_ok 3 rfl)) nx_load))))
  (e_Tok2
  (e_Tok2
  (e_Lok (e_st (I := I3) (er_tval (ix := 9) (in_t14 (List.mem_of_getElem? (i := 25) rfl) rfl) (x_dk dn_506_0_ok 4 rfl)) (nx_S bS_val)))
  (e_Lok (e_st (I := I3) (er_iload_n (i := 1) (x_dk dn_506_0_ok 5 rfl)) nx_load)))
  (e_Tok2
  (e_Lok (e_ca (I := I3) (q' := n_505) rfl (xr_callS (q' := n_505) (ix := 495) (n := 2) (in_t5 (List.mem_of_getElem? (i := 135) rfl) rfl) good_w (in_t1 (List.mem_of_getElem? (i := 17) rfl) rfl) (in_t5 (List.mem_of_getElem? (i := 133) rfl) rfl) (in_t5 (List.mem_of_getElem? (i := 134) rfl) rfl) (by decide +kernel) (by decide +kernel) (x_dk dn_506_0_ok 6 rfl))))
  (e_Lok (e_rt (I := I3) (k := 5) ⟨(x_dk dn_506_0_ok 7 rfl), Or.inr rfl⟩)))))
def dn_507_0 : List (Nat × Instr × Nat) := [(0, .iload_n 0, 1), (1, .ifCond .lt 14, 3), (4, .iload_n 0, 1), (5, .sipush 255, 3), (8, .if_icmp .gt 7, 3), (11, .iconst 1, 1), (12, .goto 4, 3), (15, .iconst 0, 1), (16, .ireturn, 1)]
set_option maxRecDepth 20000 in
theorem dn_507_0_ok : dn_507_0.all (fun q => decide (decode prog_18_method_4_code q.1 = .ok (q.2.1, q.2.2))) = true := by decide +kernel
def te_507 : Nat → eE := (e_T 5 (e_T 1 (e_T 0 (e_L 0 (0, ei_load 0 0 1, 0, 0)) (e_L 1 (0, ei_if1 2 15 4, 0, 0))) (e_T 4 (e_L 4 (0, ei_load 0 0 5, 0, 0)) (e_L 5 (0, ei_push (0, 255) 8, 0, 0)))) (e_T 11 (e_T 8 (e_L 8 (0, ei_if2 4 15 11, 0, 0)) (e_L 11 (0, ei_push (0, 1) 12, 0, 0))) (e_T 12 (e_L 12 (0, ei_goto 16, 0, 0)) (e_T 15 (e_L 15 (0, ei_push (0, 0) 16, 0, 0)) (e_L 16 (1, e_nof, 4, 0))))))
set_option maxRecDepth 20000 in
set_option maxHeartbeats 4000000 in
theorem te_507_ok : ∀ pc, e_EOq eft cls elay I3 n_507 pc (te_507 pc) :=
  (e_Tok2
  (e_Tok2
  (e_Tok2
  (e_Lok (e_st (I := I3) (er_iload_n (i := 0) (x_dk dn_507_0_ok 0 rfl)) nx_load))
  (e_Lok (e_st (I := I3) (er_iflt (off := 14) (tg := 15) (x_dk dn_507_0_ok 1 rfl) (by decide)) nx_if1)))
  (e_Tok2
  (e_Lok (e_st (I := I3) (er_iload_n (i := 0) (x_dk dn_507_0_ok 2 rfl)) nx_load))
  (e_Lok (e_st (I := I3) (er_sipush (n := 255) (z := 255) (v := 255) (x_dk dn_507_0_ok 3 rfl) (by decide) (by decide)) (nx_push (Or.inl rfl))))))
  (e_Tok2
  (e_Tok2
  (e_Lok (e_st (I := I3) (er_icmpgt (off := 7) (tg := 15) (x_dk dn_507_0_ok 4 rfl) (by decide)) nx_if2))
  (e_Lok (e_st (I := I3) (er_iconst (n := 1) (z := 1) (v := 1) (x_dk dn_507_0_ok 5 rfl) (by decide) (by decide)) (nx_push (Or.inl rfl)))))
  (e_Tok2
  (e_Lok (e_st (I := I3) (er_goto (off := 4) (tg := 16) (x_dk dn_507_0_ok 6 rfl) (by decide)) nx_goto))
  (e_Tok2
  (e_Lok (e_st (I := I3) (er_iconst (n := 0) (z := 0) (v := 0) (x_dk dn_507_0_ok 7 rfl) (by decide) (by decide)) (nx_push (Or.inl rfl))))
  (e_Lok (e_rt (I := I3) (k := 4) ⟨(x_dk dn_507_0_ok 8 rfl), rfl⟩))))))
def dn_508_0 : List (Nat × Instr × Nat) := [(0, .iload_n 1, 1), (1, .i2b, 1), (2, .istore 4, 2), (4, .iload_n 2, 1), (5, .istore 5, 2), (7, .iload 5, 2), (9, .iload_n 3, 1), (10, .if_icmp .ge 21, 3), (13, .aload_n 0, 1), (14, .iload 5, 2), (16, .baload, 1), (17, .iload 4, 2), (19, .if_icmp .ne 6, 3), (22, .iload 5, 2), (24, .ireturn, 1), (25, .iinc 5 1, 3), (28, .goto (-21), 3), (31, .iconst (-1), 1), (32, .ireturn, 1)]
set_option maxRecDepth 20000 in
theorem dn_508_0_ok : dn_508_0.all (fun q => decide (decode prog_18_method_23_code q.1 = .ok (q.2.1, q.2.2))) = true := by decide +kernel
def te_508 : Nat → eE := (e_T 13 (e_T 4 (e_T 1 (e_T 0 (e_L 0 (0, ei_load 1 0 1, 0, 0)) (e_L 1 (0, ei_un (fun x => (0, x.bmod 256)) 2, 0, 0))) (e_T 2 (e_L 2 (0, ei_stor 4 0 4, 0, 0)) (e_L 4 (0, ei_load 2 0 5, 0, 0)))) (e_T 7 (e_T 5 (e_L 5 (0, ei_stor 5 0 7, 0, 0)) (e_L 7 (0, ei_load 5 0 9, 0, 0))) (e_T 9 (e_L 9 (0, ei_load 3 0 10, 0, 0)) (e_T 10 (e_L 10 (0, ei_if2 3 31 13, 0, 0)) (e_L 13 (0, ei_load 0 2 14, 0, 0)))))) (e_T 22 (e_T 16 (e_T 14 (e_L 14 (0, ei_load 5 0 16, 0, 0)) (e_L 16 (0, e_S (g_tld 17), 0, 0))) (e_T 17 (e_L 17 (0, ei_load 4 0 19, 0, 0)) (e_T 19 (e_L 19 (0, ei_if2 1 25 22, 0, 0)) (e_L 22 (0, ei_load 5 0 24, 0, 0))))) (e_T 25 (e_T 24 (e_L 24 (1, e_nof, 1, 0)) (e_L 25 (0, ei_inc 5 1 28, 0, 0))) (e_T 28 (e_L 28 (0, ei_goto 7, 0, 0)) (e_T 31 (e_L 31 (0, ei_push (0, (-1)) 32, 0, 0)) (e_L 32 (1, e_nof, 1, 0)))))))
set_option maxRecDepth 20000 in
set_option maxHeartbeats 4000000 in
theorem te_508_ok : ∀ pc, e_EOq eft cls elay I3 n_508 pc (te_508 pc) :=
  (e_Tok2
  (e_Tok2
  (e_Tok2
  (e_Tok2
  (e_Lok (e_st (I := I3) (er_iload_n (i := 1) (x_dk dn_508_0_ok 0 rfl)) nx_load))
  (e_Lok (e_st (I := I3) (er_i2b (x_dk dn_508_0_ok 1 rfl)) (nx_un (fun _ => rfl)))))
  (e_Tok2
  (e_Lok (e_st (I := I3) (er_istore (i := 4) (x_dk dn_508_0_ok 2 rfl) (by decide +kernel)) nx_stor))
  (e_Lok (e_st (I := I3) (er_iload_n (i := 2) (x_dk dn_508_0_ok 3 rfl)) nx_load))))
  (e_Tok2
  (e_Tok2
  (e_Lok (e_st (I := I3) (er_istore (i := 5) (x_dk dn_508_0_ok 4 rfl) (by decide +kernel)) nx_stor))
  (e_Lok (e_st (I := I3) (er_iload (i := 5) (x_dk dn_508_0_ok 5 rfl)) nx_load)))
  (e_Tok2
  (e_Lok (e_st (I := I3) (er_iload_n (i := 3) (x_dk dn_508_0_ok 6 rfl)) nx_load))
  (e_Tok2
  (e_Lok (e_st (I := I3) (er_icmpge (off := 21) (tg := 31) (x_dk dn_508_0_ok 7 rfl) (by decide)) nx_if2))
  (e_Lok (e_st (I := I3) (er_aload_n (i := 0) (x_dk dn_508_0_ok 8 rfl)) nx_load))))))
  (e_Tok2
  (e_Tok2
  (e_Tok2
  (e_Lok (e_st (I := I3) (er_iload (i := 5) (x_dk dn_508_0_ok 9 rfl)) nx_load))
  (e_Lok (e_st (I := I3) (er_tld (x_dk dn_508_0_ok 10 rfl)) (nx_S bS_tld))))
  (e_Tok2
  (e_Lok (e_st (I := I3) (er_iload (i := 4) (x_dk dn_508_0_ok 11 rfl)) nx_load))
  (e_Tok2
  (e_Lok (e_st (I := I3) (er_icmpne (off := 6) (tg := 25) (x_dk dn_508_0_ok 12 rfl) (by decide)) nx_if2))
  (e_Lok (e_st (I := I3) (er_iload (i := 5) (x_dk dn_508_0_ok 13 rfl)) nx_load)))))
  (e_Tok2
  (e_Tok2
  (e_Lok (e_rt (I := I3) (k := 1) ⟨(x_dk dn_508_0_ok 14 rfl), rfl⟩))
  (e_Lok (e_st (I := I3) (er_iinc (i := 5) (n := 1) (x_dk dn_508_0_ok 15 rfl) (by decide +kernel) (by decide)) nx_inc)))
  (e_Tok2
  (e_Lok (e_st (I := I3) (er_goto (off := (-21)) (tg := 7) (x_dk dn_508_0_ok 16 rfl) (by decide)) nx_goto))
  (e_Tok2
  (e_Lok (e_st (I := I3) (er_iconst (n := (-1)) (z := (-1)) (v := (-1)) (x_dk dn_508_0_ok 17 rfl) (by decide) (by decide)) (nx_push (Or.inl rfl))))
  (e_Lok (e_rt (I := I3) (k := 1) ⟨(x_dk dn_508_0_ok 18 rfl), rfl⟩)))))))
def dn_509_0 : List (Nat × Instr × Nat) := [(0, .iload_n 1, 1), (1, .invokestatic 88, 3), (4, .ifCond .ne 5, 3), (7, .iconst (-1), 1), (8, .ireturn, 1), (9, .iload_n 2, 1), (10, .iconst 0, 1), (11, .invokestatic 92, 3), (14, .istore_n 2, 1), (15, .iload_n 3, 1), (16, .aload_n 0, 1), (17, .arraylength, 1), (18, .invokestatic 38, 3), (21, .istore_n 3, 1), (22, .iload_n 2, 1), (23, .iload_n 3, 1), (24, .if_icmp .lt 5, 3), (27, .iconst (-1), 1), (28, .ireturn, 1), (29, .aload_n 0, 1), (30, .iload_n 1, 1), (31, .iload_n 2, 1), (32, .iload_n 3, 1), (33, .invokestatic 95, 3), (36, .ireturn, 1)]
set_option maxRecDepth 20000 in
theorem dn_509_0_ok : dn_509_0.all (fun q => decide (decode prog_18_method_22_code q.1 = .ok (q.2.1, q.2.2))) = true := by decide +kernel
def te_509 : Nat → eE := (e_T 17 (e_T 9 (e_T 4 (e_T 0 (e_L 0 (0, ei_load 1 0 1, 0, 0)) (e_T 1 (e_L 1 (2, e_nof, 507, 1)) (e_L 4 (0, ei_if1 1 9 7, 0, 0)))) (e_T 7 (e_L 7 (0, ei_push (0, (-1)) 8, 0, 0)) (e_T 8 (e_L 8 (1, e_nof, 1, 0)) (e_L 9 (0, ei_load 2 0 10, 0, 0))))) (e_T 14 (e_T 10 (e_L 10 (0, ei_push (0, 0) 11, 0, 0)) (e_T 11 (e_L 11 (0, ei_m2 eM_max 14, 0, 0)) (e_L 14 (0, ei_stor 2 0 15, 0, 0)))) (e_T 15 (e_L 15 (0, ei_load 3 0 16, 0, 0)) (e_T 16 (e_L 16 (0, ei_load 0 2 17, 0, 0)) (e_L 17 (0, e_S (g_tln 18), 0, 0)))))) (e_T 27 (e_T 22 (e_T 18 (e_L 18 (0, ei_m2 eM_min 21, 0, 0)) (e_T 21 (e_L 21 (0, ei_stor 3 0 22, 0, 0)) (e_L 22 (0, ei_load 2 0 23, 0, 0)))) (e_T 23 (e_L 23 (0, ei_load 3 0 24, 0, 0)) (e_T 24 (e_L 24 (0, ei_if2 2 29 27, 0, 0)) (e_L 27 (0, ei_push (0, (-1)) 28, 0, 0))))) (e_T 30 (e_T 28 (e_L 28 (1, e_nof, 1, 0)) (e_T 29 (e_L 29 (0, ei_load 0 2 30, 0, 0)) (e_L 30 (0, ei_load 1 0 31, 0, 0)))) (e_T 32 (e_T 31 (e_L 31 (0, ei_load 2 0 32, 0, 0)) (e_L 32 (0, ei_load 3 0 33, 0, 0))) (e_T 33 (e_L 33 (2, e_nof, 508, 4)) (e_L 36 (1, e_nof, 1, 0)))))))
set_option maxRecDepth 20000 in
set_option maxHeartbeats 4000000 in
theorem te_509_ok : ∀ pc, e_EOq eft cls elay I3 n_509 pc (te_509 pc) :=
  (e_Tok2
  (e_Tok2
  (e_Tok2
  (e_Tok2
  (e_Lok (e_st (I := I3) (er_iload_n (i := 1) (x_dk dn_509_0_ok 0 rfl)) nx_load))
  (e_Tok2
  (e_Lok (e_ca (I := I3) (q' := n_507) rfl (xr_callS (q' := n_507) (ix := 88) (n := 1) (in_t5 (List.mem_of_getElem? (i := 182) rfl) rfl) good_w (in_t1 (List.mem_of_getElem? (i := 17) rfl) rfl) (in_t5 (List.mem_of_getElem? (i := 180) rfl) rfl) (in_t5 (List.mem_of_getElem? (i := 181) rfl) rfl) (by decide +kernel) (by decide +kernel) (x_dk dn_509_0_ok 1 rfl))))
  (e_Lok (e_st (I := I3) (er_ifne (off := 5) (tg := 9) (x_dk dn_509_0_ok 2 rfl) (by decide)) nx_if1))))
  (e_Tok2
  (e_Lok (e_st (I := I3) (er_iconst (n := (-1)) (z := (-1)) (v := (-1)) (x_dk dn_509_0_ok 3 rfl) (by decide) (by decide)) (nx_push (Or.inl rfl))))
  (e_Tok2
  (e_Lok (e_rt (I := I3) (k := 1) ⟨(x_dk dn_509_0_ok 4 rfl), rfl⟩))
  (e_Lok (e_st (I := I3) (er_iload_n (i := 2) (x_dk dn_509_0_ok 5 rfl)) nx_load)))))
  (e_Tok2
  (e_Tok2
  (e_Lok (e_st (I := I3) (er_iconst (n := 0) (z := 0) (v := 0) (x_dk dn_509_0_ok 6 rfl) (by decide) (by decide)) (nx_push (Or.inl rfl))))
  (e_Tok2
  (e_Lok (e_st (I := I3) (er_max (ix := 92) (in_t5 (List.mem_of_getElem? (i := 183) rfl) rfl) (in_t5 (List.mem_of_getElem? (i := 184) rfl) rfl) (in_t1 (List.mem_of_getElem? (i := 15) rfl) rfl) (in_t5 (List.mem_of_getElem? (i := 185) rfl) rfl) (x_dk dn_509_0_ok 7 rfl)) nx_m2))
  (e_Lok (e_st (I := I3) (er_istore_n (i := 2) (x_dk dn_509_0_ok 8 rfl) (by decide +kernel)) nx_stor))))
  (e_Tok2
  (e_Lok (e_st (I := I3) (er_iload_n (i := 3) (x_dk dn_509_0_ok 9 rfl)) nx_load))
  (e_Tok2
  (e_Lok (e_st (I := I3) (er_aload_n (i := 0) (x_dk dn_509_0_ok 10 rfl)) nx_load))
  (e_Lok (e_st (I := I3) (er_tln (x_dk dn_509_0_ok 11 rfl)) (nx_S bS_tln)))))))
  (e_Tok2
  (e_Tok2
  (e_Tok2
  (e_Lok (e_st (I := I3) (er_min (ix := 38) (in_t5 (List.mem_of_getElem? (i := 186) rfl) rfl) (in_t5 (List.mem_of_getElem? (i := 187) rfl) rfl) (in_t1 (List.mem_of_getElem? (i := 15) rfl) rfl) (in_t5 (List.mem_of_getElem? (i := 188) rfl) rfl) (x_dk dn_509_0_ok 12 rfl)) nx_m2))
  (e_Tok2
  (e_Lok (e_st (I := I3) (er_istore_n (i := 3) (x_dk dn_509_0_ok 13 rfl) (by decide +kernel)) nx_stor))
  (e_Lok (e_st (I := I3) (er_iload_n (i := 2) (x_dk dn_509_0_ok 14 rfl)) nx_load))))
  (e_Tok2
  (e_Lok (e_st (I := I3) (er_iload_n (i := 3) (x_dk dn_509_0_ok 15 rfl)) nx_load))
  (e_Tok2
  (e_Lok (e_st (I := I3) (er_icmplt (off := 5) (tg := 29) (x_dk dn_509_0_ok 16 rfl) (by decide)) nx_if2))
  (e_Lok (e_st (I := I3) (er_iconst (n := (-1)) (z := (-1)) (v := (-1)) (x_dk dn_509_0_ok 17 rfl) (by decide) (by decide)) (nx_push (Or.inl rfl)))))))
  (e_Tok2
  (e_Tok2
  (e_Lok (e_rt (I := I3) (k := 1) ⟨(x_dk dn_509_0_ok 18 rfl), rfl⟩))
  (e_Tok2
  (e_Lok (e_st (I := I3) (er_aload_n (i := 0) (x_dk dn_509_0_ok 19 rfl)) nx_load))
  (e_Lok (e_st (I := I3) (er_iload_n (i := 1) (x_dk dn_509_0_ok 20 rfl)) nx_load))))
  (e_Tok2
  (e_Tok2
  (e_Lok (e_st (I := I3) (er_iload_n (i := 2) (x_dk dn_509_0_ok 21 rfl)) nx_load))
  (e_Lok (e_st (I := I3) (er_iload_n (i := 3) (x_dk dn_509_0_ok 22 rfl)) nx_load)))
  (e_Tok2
  (e_Lok (e_ca (I := I3) (q' := n_508) rfl (xr_callS (q' := n_508) (ix := 95) (n := 4) (in_t5 (List.mem_of_getElem? (i := 191) rfl) rfl) good_w (in_t1 (List.mem_of_getElem? (i := 17) rfl) rfl) (in_t5 (List.mem_of_getElem? (i := 189) rfl) rfl) (in_t5 (List.mem_of_getElem? (i := 190) rfl) rfl) (by decide +kernel) (by decide +kernel) (x_dk dn_509_0_ok 23 rfl))))
  (e_Lok (e_rt (I := I3) (k := 1) ⟨(x_dk dn_509_0_ok 24 rfl), rfl⟩)))))))
def dn_510_0 : List (Nat × Instr × Nat) := [(0, .aload_n 0, 1), (1, .invokevirtual 492, 3), (4, .ifCond .eq 19, 3), (7, .aload_n 0, 1), (8, .getfield 9, 3), (11, .iload_n 1, 1), (12, .iload_n 2, 1), (13, .aload_n 0, 1), (14, .invokevirtual 505, 3), (17, .invokestatic 637, 3), (20, .goto 16, 3), (23, .aload_n 0, 1), (24, .getfield 9, 3), (27, .iload_n 1, 1), (28, .iload_n 2, 1), (29, .aload_n 0, 1), (30, .invokevirtual 505, 3), (33, .invokestatic 640, 3), (36, .ireturn, 1)]
set_option maxRecDepth 20000 in
theorem dn_510_0_ok : dn_510_0.all (fun q => decide (decode prog_17_method_80_code q.1 = .ok (q.2.1, q.2.2))) = true := by decide +kernel
def te_510 : Nat → eE := (e_T 11 (e_T 4 (e_T 0 (e_L 0 (0, ei_load 0 2 1, 0, 0)) (e_T 1 (e_L 1 (2, e_nof, 502, 1)) (e_L 4 (0, ei_if1 0 23 7, 0, 0)))) (e_T 7 (e_L 7 (0, ei_load 0 2 8, 0, 0)) (e_T 8 (e_L 8 (0, e_S (g_val 11), 0, 0)) (e_L 11 (0, ei_load 1 0 12, 0, 0))))) (e_T 14 (e_T 12 (e_L 12 (0, ei_load 2 0 13, 0, 0)) (e_T 13 (e_L 13 (0, ei_load 0 2 14, 0, 0)) (e_L 14 (2, e_nof, 501, 1)))) (e_T 17 (e_L 17 (2, e_nof, 509, 4)) (e_T 20 (e_L 20 (0, ei_goto 36, 0, 0)) (e_L 36 (1, e_nof, 1, 0))))))
set_option maxRecDepth 20000 in
set_option maxHeartbeats 4000000 in
theorem te_510_ok : ∀ pc, e_EOq eft cls elay I3 n_510 pc (te_510 pc) :=
  (e_Tok2
  (e_Tok2
  (e_Tok2
  (e_Lok (e_st (I := I3) (er_aload_n (i := 0) (x_dk dn_510_0_ok 0 rfl)) nx_load))
  (e_Tok2
  (e_Lok (e_ca (I := I3) (q' := n_502) rfl (xr_callV (q' := n_502) (ix := 492) (n := 0) (in_t5 (List.mem_of_getElem? (i := 132) rfl) rfl) good_w (in_t1 (List.mem_of_getElem? (i := 16) rfl) rfl) (in_t5 (List.mem_of_getElem? (i := 129) rfl) rfl) (in_t5 (List.mem_of_getElem? (i := 130) rfl) rfl) (in_t5 (List.mem_of_getElem? (i := 131) rfl) rfl) (by decide +kernel) (by decide +kernel) (by decide +kernel) (x_dk dn_510_0_ok 1 rfl))))
  (e_Lok (e_st (I := I3) (er_ifeq (off := 19) (tg := 23) (x_dk dn_510_0_ok 2 rfl) (by decide)) nx_if1))))
  (e_Tok2
  (e_Lok (e_st (I := I3) (er_aload_n (i := 0) (x_dk dn_510_0_ok 3 rfl)) nx_load))
  (e_Tok2
  (e_Lok (e_st (I := I3) (er_tval (ix := 9) (in_t14 (List.mem_of_getElem? (i := 25) rfl) rfl) (x_dk dn_510_0_ok 4 rfl)) (nx_S bS_val)))
  (e_Lok (e_st (I := I3) (er_iload_n (i := 1) (x_dk dn_510_0_ok 5 rfl)) nx_load)))))
  (e_Tok2
  (e_Tok2
  (e_Lok (e_st (I := I3) (er_iload_n (i := 2) (x_dk dn_510_0_ok 6 rfl)) nx_load))
  (e_Tok2
  (e_Lok (e_st (I := I3) (er_aload_n (i := 0) (x_dk dn_510_0_ok 7 rfl)) nx_load))
  (e_Lok (e_ca (I := I3) (q' := n_501) rfl (xr_callV (q' := n_501) (ix := 505) (n := 0) (in_t5 (List.mem_of_getElem? (i := 118) rfl) rfl) good_w (in_t1 (List.mem_of_getElem? (i := 16) rfl) rfl) (in_t5 (List.mem_of_getElem? (i := 176) rfl) rfl) (in_t5 (List.mem_of_getElem? (i := 116) rfl) rfl) (in_t5 (List.mem_of_getElem? (i := 117) rfl) rfl) (by decide +kernel) (by decide +kernel) (by decide +kernel) (x_dk dn_510_0_ok 8 rfl))))))
  (e_Tok2
  (e_Lok (e_ca (I := I3) (q' := n_509) rfl (xr_callS (q' := n_509) (ix := 637) (n := 4) (in_t5 (List.mem_of_getElem? (i := 179) rfl) rfl) good_w (in_t1 (List.mem_of_getElem? (i := 17) rfl) rfl) (in_t5 (List.mem_of_getElem? (i := 177) rfl) rfl) (in_t5 (List.mem_of_getElem? (i := 178) rfl) rfl) (by decide +kernel) (by decide +kernel) (x_dk dn_510_0_ok 9 rfl))))
  (e_Tok2
  (e_Lok (e_st (I := I3) (er_goto (off := 16) (tg := 36) (x_dk dn_510_0_ok 10 rfl) (by decide)) nx_goto))
  (e_Lok (e_rt (I := I3) (k := 1) ⟨(x_dk dn_510_0_ok 18 rfl), rfl⟩))))))
def dn_511_0 : List (Nat × Instr × Nat) := [(0, .aload_n 0, 1), (1, .iload_n 1, 1), (2, .iconst 0, 1), (3, .invokevirtual 633, 3), (6, .ireturn, 1)]
set_option maxRecDepth 20000 in
theorem dn_511_0_ok : dn_511_0.all (fun q => decide (decode prog_17_method_79_code q.1 = .ok (q.2.1, q.2.2))) = true := by decide +kernel
def te_511 : Nat → eE := (e_T 1 (e_T 0 (e_L 0 (0, ei_load 0 2 1, 0, 0)) (e_L 1 (0, ei_load 1 0 2, 0, 0))) (e_T 2 (e_L 2 (0, ei_push (0, 0) 3, 0, 0)) (e_T 3 (e_L 3 (2, e_nof, 510, 3)) (e_L 6 (1, e_nof, 1, 0)))))
set_option maxRecDepth 20000 in
set_option maxHeartbeats 4000000 in
theorem te_511_ok : ∀ pc, e_EOq eft cls elay I3 n_511 pc (te_511 pc) :=
  (e_Tok2
  (e_Tok2
  (e_Lok (e_st (I := I3) (er_aload_n (i := 0) (x_dk dn_511_0_ok 0 rfl)) nx_load))
  (e_Lok (e_st (I := I3) (er_iload_n (i := 1) (x_dk dn_511_0_ok 1 rfl)) nx_load)))
  (e_Tok2
  (e_Lok (e_st (I := I3) (er_iconst (n := 0) (z := 0) (v := 0) (x_dk dn_511_0_ok 2 rfl) (by decide) (by decide)) (nx_push (Or.inl rfl))))
  (e_Tok2
  (e_Lok (e_ca (I := I3) (q' := n_510) rfl (xr_callV (q' := n_510) (ix := 633) (n := 2) (in_t5 (List.mem_of_getElem? (i := 175) rfl) rfl) good_w (in_t1 (List.mem_of_getElem? (i := 16) rfl) rfl) (in_t5 (List.mem_of_getElem? (i := 172) rfl) rfl) (in_t5 (List.mem_of_getElem? (i := 173) rfl) rfl) (in_t5 (List.mem_of_getElem? (i := 174) rfl) rfl) (by decide +kernel) (by decide +kernel) (by decide +kernel) (x_dk dn_511_0_ok 3 rfl))))
  (e_Lok (e_rt (I := I3) (k := 1) ⟨(x_dk dn_511_0_ok 4 rfl), rfl⟩)))))
def code3 (M : Nat) : Nat → eE := bif Nat.beq M 500 then te_500 else bif Nat.beq M 501 then te_501 else bif Nat.beq M 502 then te_502 else bif Nat.beq M 503 then te_503 else bif Nat.beq M 504 then te_504 else bif Nat.beq M 505 then te_505 else bif Nat.beq M 506 then te_506 else bif Nat.beq M 507 then te_507 else bif Nat.beq M 508 then te_508 else bif Nat.beq M 509 then te_509 else bif Nat.beq M 510 then te_510 else bif Nat.beq M 511 then te_511 else fun _ => e_e7
theorem e_b3 {I : Nat → xM} {b : Bool} {q q' : xM} {a a' : Nat → eE} {pc : Nat} (h1 : e_EOq eft cls elay I q pc (a pc)) (h2 : e_EOq eft cls elay I q' pc (a' pc)) : e_EOq eft cls elay I (bif b then q else q') pc ((bif b then a else a') pc) := by
  cases b
  · exact h2
  · exact h1
theorem e_q3 {P : xM → Prop} {b : Bool} {q q' : xM} (h1 : P q) (h2 : P q') : P (bif b then q else q') := by
  cases b
  · exact h2
  · exact h1
theorem t3_ok (M pc : Nat) : e_EOq eft cls elay I3 (I3 M) pc (code3 M pc) := e_b3 (te_500_ok pc) (e_b3 (te_501_ok pc) (e_b3 (te_502_ok pc) (e_b3 (te_503_ok pc) (e_b3 (te_504_ok pc) (e_b3 (te_505_ok pc) (e_b3 (te_506_ok pc) (e_b3 (te_507_ok pc) (e_b3 (te_508_ok pc) (e_b3 (te_509_ok pc) (e_b3 (te_510_ok pc) (e_b3 (te_511_ok pc) (trivial))))))))))))
theorem elay_no (k n : Nat) : elay[k]? ≠ some (0, 998, n) := fun h => by
  have a : ∀ y ∈ elay, y.2.1 ≠ 998 := by decide +kernel
  exact a _ (List.mem_of_getElem? h) rfl
theorem tab3 : e_Tab 1 eft cls elay I3 code3 := by
  refine ⟨by decide, t3_ok, fun M => ?_, fun M => ?_⟩
  · exact e_q3 (P := fun q => plainName (xm_y q).cls = true) (by decide +kernel) (e_q3 (P := fun q => plainName (xm_y q).cls = true) (by decide +kernel) (e_q3 (P := fun q => plainName (xm_y q).cls = true) (by decide +kernel) (e_q3 (P := fun q => plainName (xm_y q).cls = true) (by decide +kernel) (e_q3 (P := fun q => plainName (xm_y q).cls = true) (by decide +kernel) (e_q3 (P := fun q => plainName (xm_y q).cls = true) (by decide +kernel) (e_q3 (P := fun q => plainName (xm_y q).cls = true) (by decide +kernel) (e_q3 (P := fun q => plainName (xm_y q).cls = true) (by decide +kernel) (e_q3 (P := fun q => plainName (xm_y q).cls = true) (by decide +kernel) (e_q3 (P := fun q => plainName (xm_y q).cls = true) (by decide +kernel) (e_q3 (P := fun q => plainName (xm_y q).cls = true) (by decide +kernel) (e_q3 (P := fun q => plainName (xm_y q).cls = true) (by decide +kernel) (e_tab0.2.2.1 M))))))))))))
  · exact e_q3 (P := (fun q => xm_o q ≠ 999 → (xm_o q = 998 ∧ (xm_y q).cls = "java/lang/String" ∧ ∀ (k n : Nat), elay[k]? ≠ some (0, 998, n)) ∨ (xm_o q ≠ 998 ∧ ∃ r, cls[xm_o q]? = some r ∧ r.1 = (xm_y q).cls))) (fun _ => Or.inl ⟨rfl, rfl, elay_no⟩) (e_q3 (P := (fun q => xm_o q ≠ 999 → (xm_o q = 998 ∧ (xm_y q).cls = "java/lang/String" ∧ ∀ (k n : Nat), elay[k]? ≠ some (0, 998, n)) ∨ (xm_o q ≠ 998 ∧ ∃ r, cls[xm_o q]? = some r ∧ r.1 = (xm_y q).cls))) (fun _ => Or.inl ⟨rfl, rfl, elay_no⟩) (e_q3 (P := (fun q => xm_o q ≠ 999 → (xm_o q = 998 ∧ (xm_y q).cls = "java/lang/String" ∧ ∀ (k n : Nat), elay[k]? ≠ some (0, 998, n)) ∨ (xm_o q ≠ 998 ∧ ∃ r, cls[xm_o q]? = some r ∧ r.1 = (xm_y q).cls))) (fun _ => Or.inl ⟨rfl, rfl, elay_no⟩) (e_q3 (P := (fun q => xm_o q ≠ 999 → (xm_o q = 998 ∧ (xm_y q).cls = "java/lang/String" ∧ ∀ (k n : Nat), elay[k]? ≠ some (0, 998, n)) ∨ (xm_o q ≠ 998 ∧ ∃ r, cls[xm_o q]? = some r ∧ r.1 = (xm_y q).cls))) (fun h => absurd rfl h) (e_q3 (P := (fun q => xm_o q ≠ 999 → (xm_o q = 998 ∧ (xm_y q).cls = "java/lang/String" ∧ ∀ (k n : Nat), elay[k]? ≠ some (0, 998, n)) ∨ (xm_o q ≠ 998 ∧ ∃ r, cls[xm_o q]? = some r ∧ r.1 = (xm_y q).cls))) (fun h => absurd rfl h) (e_q3 (P := (fun q => xm_o q ≠ 999 → (xm_o q = 998 ∧ (xm_y q).cls = "java/lang/String" ∧ ∀ (k n : Nat), elay[k]? ≠ some (0, 998, n)) ∨ (xm_o q ≠ 998 ∧ ∃ r, cls[xm_o q]? = some r ∧ r.1 = (xm_y q).cls))) (fun h => absurd rfl h) (e_q3 (P := (fun q => xm_o q ≠ 999 → (xm_o q = 998 ∧ (xm_y q).cls = "java/lang/String" ∧ ∀ (k n : Nat), elay[k]? ≠ some (0, 998, n)) ∨ (xm_o q ≠ 998 ∧ ∃ r, cls[xm_o q]? = some r ∧ r.1 = (xm_y q).cls))) (fun _ => Or.inl ⟨rfl, rfl, elay_no⟩) (e_q3 (P := (fun q => xm_o q ≠ 999 → (xm_o q = 998 ∧ (xm_y q).cls = "java/lang/String" ∧ ∀ (k n : Nat), elay[k]? ≠ some (0, 998, n)) ∨ (xm_o q ≠ 998 ∧ ∃ r, cls[xm_o q]? = some r ∧ r.1 = (xm_y q).cls))) (fun h => absurd rfl h) (e_q3 (P := (fun q => xm_o q ≠ 999 → (xm_o q = 998 ∧ (xm_y q).cls = "java/lang/String" ∧ ∀ (k n : Nat), elay[k]? ≠ some (0, 998, n)) ∨ (xm_o q ≠ 998 ∧ ∃ r, cls[xm_o q]? = some r ∧ r.1 = (xm_y q).cls))) (fun h => absurd rfl h) (e_q3 (P := (fun q => xm_o q ≠ 999 → (xm_o q = 998 ∧ (xm_y q).cls = "java/lang/String" ∧ ∀ (k n : Nat), elay[k]? ≠ some (0, 998, n)) ∨ (xm_o q ≠ 998 ∧ ∃ r, cls[xm_o q]? = some r ∧ r.1 = (xm_y q).cls))) (fun h => absurd rfl h) (e_q3 (P := (fun q => xm_o q ≠ 999 → (xm_o q = 998 ∧ (xm_y q).cls = "java/lang/String" ∧ ∀ (k n : Nat), elay[k]? ≠ some (0, 998, n)) ∨ (xm_o q ≠ 998 ∧ ∃ r, cls[xm_o q]? = some r ∧ r.1 = (xm_y q).cls))) (fun _ => Or.inl ⟨rfl, rfl, elay_no⟩) (e_q3 (P := (fun q => xm_o q ≠ 999 → (xm_o q = 998 ∧ (xm_y q).cls = "java/lang/String" ∧ ∀ (k n : Nat), elay[k]? ≠ some (0, 998, n)) ∨ (xm_o q ≠ 998 ∧ ∃ r, cls[xm_o q]? = some r ∧ r.1 = (xm_y q).cls))) (fun _ => Or.inl ⟨rfl, rfl, elay_no⟩) (e_tab0.2.2.2 M))))))))))))
end
