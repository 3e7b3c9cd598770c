noncomputable section
def dn_226_0 : List (Nat × Instr × Nat) := [(0, .aload_n 0, 1), (1, .getfield 42, 3), (4, .getfield 86, 3), (7, .ireturn, 1)]
set_option maxRecDepth 20000 in
theorem dn_226_0_ok : dn_226_0.all (fun q => decide (decode prog_1_method_38_code q.1 = .ok (q.2.1, q.2.2))) = true := by decide +kernel
def te_226_0 : Nat → eE := (e_T 1 (e_T 0 (e_L 0 (0, ei_load 0 2 1, 0, 0)) (e_L 1 (0, ei_getf eft elay 11 5 4, 0, 0))) (e_T 4 (e_L 4 (0, ei_getf eft elay 2 0 7, 0, 0)) (e_L 7 (1, e_nof, 1, 0))))
set_option maxRecDepth 20000 in
set_option maxHeartbeats 4000000 in
theorem te_226_0_ok : ∀ pc, e_EOq eft cls elay eI n_226 pc (te_226_0 pc) :=
  (e_Tok2
  (e_Tok2
  (e_Lok (e_st (I := eI) (er_aload_n (i := 0) (x_dk dn_226_0_ok 0 rfl))))
  (e_Lok (e_st (I := eI) (er_getf (ci := 11) (k := 5) (ix := 42) (N := 15) (C := RX11) (T := TX11) rfl in_X11 (by decide) (in_t4 (List.mem_of_getElem? (i := 113) rfl) rfl) (x_dk dn_226_0_ok 1 rfl)))))
  (e_Tok2
  (e_Lok (e_st (I := eI) (er_getf (ci := 2) (k := 0) (ix := 86) (N := 15) (C := RX2) (T := TX2) rfl in_X2 (by decide) (in_t2 (List.mem_of_getElem? (i := 13) rfl) rfl) (x_dk dn_226_0_ok 2 rfl))))
  (e_Lok (e_rt (I := eI) (k := 1) ⟨(x_dk dn_226_0_ok 3 rfl), rfl⟩))))
def te_226 : Nat → eE := te_226_0
theorem te_226_ok : ∀ pc, e_EOq eft cls elay eI n_226 pc (te_226 pc) := te_226_0_ok
def dn_227_0 : List (Nat × Instr × Nat) := [(0, .aload_n 0, 1), (1, .iload_n 1, 1), (2, .invokevirtual 103, 3), (5, .ifCond .ne 5, 3), (8, .iconst (-1), 1), (9, .ireturn, 1), (10, .aload_n 0, 1), (11, .getfield 27, 3), (14, .iload_n 1, 1), (15, .aaload, 1), (16, .astore_n 3, 1), (17, .iload_n 2, 1), (18, .tableswitch 123 0 7 #[46, 51, 56, 61, 66, 74, 97, 110], 46), (64, .aload_n 3, 1), (65, .getfield 286, 3), (68, .ireturn, 1), (69, .aload_n 3, 1), (70, .getfield 112, 3), (73, .ireturn, 1), (74, .aload_n 3, 1), (75, .getfield 314, 3), (78, .ireturn, 1), (79, .aload_n 3, 1), (80, .getfield 280, 3), (83, .ireturn, 1), (84, .aload_n 3, 1), (85, .getfield 240, 3), (88, .getfield 241, 3), (91, .ireturn, 1), (92, .aload_n 3, 1), (93, .getfield 317, 3), (96, .ifCond .ge 7, 3), (99, .iconst (-1), 1), (100, .goto 14, 3), (103, .aload_n 0, 1), (104, .getfield 53, 3), (107, .aload_n 3, 1), (108, .getfield 317, 3), (111, .invokevirtual 320, 3), (114, .ireturn, 1), (115, .aload_n 3, 1), (116, .invokevirtual 308, 3), (119, .ifCond .eq 7, 3), (122, .iconst 1, 1), (123, .goto 4, 3), (126, .iconst 0, 1), (127, .ireturn, 1), (128, .aload_n 3, 1), (129, .getfield 323, 3), (132, .ifCond .lt 7, 3), (135, .iconst 1, 1), (136, .goto 4, 3), (139, .iconst 0, 1), (140, .ireturn, 1), (141, .iconst (-1), 1), (142, .ireturn, 1)]
set_option maxRecDepth 20000 in
theorem dn_227_0_ok : dn_227_0.all (fun q => decide (decode prog_1_method_39_code q.1 = .ok (q.2.1, q.2.2))) = true := by decide +kernel
def te_227_0 : Nat → eE := (e_T 64 (e_T 10 (e_T 2 (e_T 0 (e_L 0 (0, ei_load 0 2 1, 0, 0)) (e_T 1 (e_L 1 (0, ei_load 1 0 2, 0, 0)) (e_L 2 (2, e_nof, 246, 2)))) (e_T 8 (e_T 5 (e_L 5 (0, ei_if1 1 10 8, 0, 0)) (e_L 8 (0, ei_push (0, (-1)) 9, 0, 0))) (e_T 9 (e_L 9 (1, e_nof, 1, 0)) (e_L 10 (0, ei_load 0 2 11, 0, 0))))) (e_T 15 (e_T 11 (e_L 11 (0, ei_getf eft elay 11 2 14, 0, 0)) (e_T 14 (e_L 14 (0, ei_load 1 0 15, 0, 0)) (e_L 15 (0, ei_aald elay 16, 0, 0)))) (e_T 17 (e_T 16 (e_L 16 (0, ei_stor 3 2 17, 0, 0)) (e_L 17 (0, ei_load 2 0 18, 0, 0))) (e_T 18 (e_L 18 (0, ei_sw [((-2147483648), (-1), 141), (0, 0, 64), (1, 1, 69), (2, 2, 74), (3, 3, 79), (4, 4, 84), (5, 5, 92), (6, 6, 115), (7, 7, 128), (8, 2147483647, 141)], 0, 0)) (e_L 64 (0, ei_load 3 2 65, 0, 0)))))) (e_T 75 (e_T 69 (e_T 65 (e_L 65 (0, ei_getf eft elay 0 11 68, 0, 0)) (e_T 68 (e_L 68 (1, e_nof, 1, 0)) (e_L 69 (0, ei_load 3 2 70, 0, 0)))) (e_T 73 (e_T 70 (e_L 70 (0, ei_getf eft elay 0 8 73, 0, 0)) (e_L 73 (1, e_nof, 1, 0))) (e_T 74 (e_L 74 (0, ei_load 3 2 75, 0, 0)) (e_L 75 (0, ei_getf eft elay 0 14 78, 0, 0))))) (e_T 80 (e_T 78 (e_L 78 (1, e_nof, 1, 0)) (e_T 79 (e_L 79 (0, ei_load 3 2 80, 0, 0)) (e_L 80 (0, ei_getf eft elay 0 16 83, 0, 0)))) (e_T 84 (e_T 83 (e_L 83 (1, e_nof, 1, 0)) (e_L 84 (0, ei_load 3 2 85, 0, 0))) (e_T 85 (e_L 85 (0, ei_getf eft elay 0 7 88, 0, 0)) (e_L 88 (0, ei_getf eft elay 1 1 91, 0, 0)))))))
set_option maxRecDepth 20000 in
set_option maxHeartbeats 4000000 in
theorem te_227_0_ok : ∀ pc, e_EOq eft cls elay eI n_227 pc (te_227_0 pc) :=
  (e_Tok2
  (e_Tok2
  (e_Tok2
  (e_Tok2
  (e_Lok (e_st (I := eI) (er_aload_n (i := 0) (x_dk dn_227_0_ok 0 rfl))))
  (e_Tok2
  (e_Lok (e_st (I := eI) (er_iload_n (i := 1) (x_dk dn_227_0_ok 1 rfl))))
  (e_Lok (e_ca (I := eI) (q' := n_246) rfl (xr_callV (q' := n_246) (ix := 103) (n := 1) (in_t4 (List.mem_of_getElem? (i := 184) rfl) rfl) good_w (in_t1 (List.mem_of_getElem? (i := 1) rfl) rfl) (in_t4 (List.mem_of_getElem? (i := 181) rfl) rfl) (in_t4 (List.mem_of_getElem? (i := 183) rfl) rfl) (in_s1 (List.mem_of_getElem? (i := 8) rfl)) (by decide +kernel) (by decide +kernel) (by decide +kernel) (x_dk dn_227_0_ok 2 rfl))))))
  (e_Tok2
  (e_Tok2
  (e_Lok (e_st (I := eI) (er_ifne (off := 5) (tg := 10) (x_dk dn_227_0_ok 3 rfl) (by decide))))
  (e_Lok (e_st (I := eI) (er_iconst (n := (-1)) (z := (-1)) (v := (-1)) (x_dk dn_227_0_ok 4 rfl) (by decide) (by decide)))))
  (e_Tok2
  (e_Lok (e_rt (I := eI) (k := 1) ⟨(x_dk dn_227_0_ok 5 rfl), rfl⟩))
  (e_Lok (e_st (I := eI) (er_aload_n (i := 0) (x_dk dn_227_0_ok 6 rfl)))))))
  (e_Tok2
  (e_Tok2
  (e_Lok (e_st (I := eI) (er_getf (ci := 11) (k := 2) (ix := 27) (N := 15) (C := RX11) (T := TX11) rfl in_X11 (by decide) (in_t4 (List.mem_of_getElem? (i := 110) rfl) rfl) (x_dk dn_227_0_ok 7 rfl))))
  (e_Tok2
  (e_Lok (e_st (I := eI) (er_iload_n (i := 1) (x_dk dn_227_0_ok 8 rfl))))
  (e_Lok (e_st (I := eI) (er_aaload (x_dk dn_227_0_ok 9 rfl))))))
  (e_Tok2
  (e_Tok2
  (e_Lok (e_st (I := eI) (er_astore_n (i := 3) (x_dk dn_227_0_ok 10 rfl) (by decide +kernel))))
  (e_Lok (e_st (I := eI) (er_iload_n (i := 2) (x_dk dn_227_0_ok 11 rfl)))))
  (e_Tok2
  (e_Lok (e_st (I := eI) (er_tsw (dflt := 123) (lo := 0) (hi := 7) (offs := #[46, 51, 56, 61, 66, 74, 97, 110]) (len := 46) (n := 8) (x_dk dn_227_0_ok 12 rfl) (by decide) (by decide +kernel))))
  (e_Lok (e_st (I := eI) (er_aload_n (i := 3) (x_dk dn_227_0_ok 13 rfl))))))))
  (e_Tok2
  (e_Tok2
  (e_Tok2
  (e_Lok (e_st (I := eI) (er_getf (ci := 0) (k := 11) (ix := 286) (N := 20) (C := RX0) (T := TX0) rfl in_X0 (by decide) (in_t2 (List.mem_of_getElem? (i := 178) rfl) rfl) (x_dk dn_227_0_ok 14 rfl))))
  (e_Tok2
  (e_Lok (e_rt (I := eI) (k := 1) ⟨(x_dk dn_227_0_ok 15 rfl), rfl⟩))
  (e_Lok (e_st (I := eI) (er_aload_n (i := 3) (x_dk dn_227_0_ok 16 rfl))))))
  (e_Tok2
  (e_Tok2
  (e_Lok (e_st (I := eI) (er_getf (ci := 0) (k := 8) (ix := 112) (N := 20) (C := RX0) (T := TX0) rfl in_X0 (by decide) (in_t2 (List.mem_of_getElem? (i := 171) rfl) rfl) (x_dk dn_227_0_ok 17 rfl))))
  (e_Lok (e_rt (I := eI) (k := 1) ⟨(x_dk dn_227_0_ok 18 rfl), rfl⟩)))
  (e_Tok2
  (e_Lok (e_st (I := eI) (er_aload_n (i := 3) (x_dk dn_227_0_ok 19 rfl))))
  (e_Lok (e_st (I := eI) (er_getf (ci := 0) (k := 14) (ix := 314) (N := 20) (C := RX0) (T := TX0) rfl in_X0 (by decide) (in_t2 (List.mem_of_getElem? (i := 186) rfl) rfl) (x_dk dn_227_0_ok 20 rfl)))))))
  (e_Tok2
  (e_Tok2
  (e_Lok (e_rt (I := eI) (k := 1) ⟨(x_dk dn_227_0_ok 21 rfl), rfl⟩))
  (e_Tok2
  (e_Lok (e_st (I := eI) (er_aload_n (i := 3) (x_dk dn_227_0_ok 22 rfl))))
  (e_Lok (e_st (I := eI) (er_getf (ci := 0) (k := 16) (ix := 280) (N := 20) (C := RX0) (T := TX0) rfl in_X0 (by decide) (in_t2 (List.mem_of_getElem? (i := 191) rfl) rfl) (x_dk dn_227_0_ok 23 rfl))))))
  (e_Tok2
  (e_Tok2
  (e_Lok (e_rt (I := eI) (k := 1) ⟨(x_dk dn_227_0_ok 24 rfl), rfl⟩))
  (e_Lok (e_st (I := eI) (er_aload_n (i := 3) (x_dk dn_227_0_ok 25 rfl)))))
  (e_Tok2
  (e_Lok (e_st (I := eI) (er_getf (ci := 0) (k := 7) (ix := 240) (N := 20) (C := RX0) (T := TX0) rfl in_X0 (by decide) (in_t2 (List.mem_of_getElem? (i := 167) rfl) rfl) (x_dk dn_227_0_ok 26 rfl))))
  (e_Lok (e_st (I := eI) (er_getf (ci := 1) (k := 1) (ix := 241) (N := 5) (C := RX1) (T := TX1) rfl in_X1 (by decide) (in_t1 (List.mem_of_getElem? (i := 45) rfl) rfl) (x_dk dn_227_0_ok 27 rfl)))))))))
def te_227_28 : Nat → eE := (e_T 116 (e_T 103 (e_T 93 (e_T 91 (e_L 91 (1, e_nof, 1, 0)) (e_T 92 (e_L 92 (0, ei_load 3 2 93, 0, 0)) (e_L 93 (0, ei_getf eft elay 0 17 96, 0, 0)))) (e_T 99 (e_T 96 (e_L 96 (0, ei_if1 3 103 99, 0, 0)) (e_L 99 (0, ei_push (0, (-1)) 100, 0, 0))) (e_T 100 (e_L 100 (0, ei_goto 114, 0, 0)) (e_L 103 (0, ei_load 0 2 104, 0, 0))))) (e_T 108 (e_T 104 (e_L 104 (0, ei_getf eft elay 11 7 107, 0, 0)) (e_T 107 (e_L 107 (0, ei_load 3 2 108, 0, 0)) (e_L 108 (0, ei_getf eft elay 0 17 111, 0, 0)))) (e_T 114 (e_T 111 (e_L 111 (2, e_nof, 95, 2)) (e_L 114 (1, e_nof, 1, 0))) (e_T 115 (e_L 115 (0, ei_load 3 2 116, 0, 0)) (e_L 116 (2, e_nof, 9, 1)))))) (e_T 129 (e_T 123 (e_T 119 (e_L 119 (0, ei_if1 0 126 122, 0, 0)) (e_T 122 (e_L 122 (0, ei_push (0, 1) 123, 0, 0)) (e_L 123 (0, ei_goto 127, 0, 0)))) (e_T 127 (e_T 126 (e_L 126 (0, ei_push (0, 0) 127, 0, 0)) (e_L 127 (1, e_nof, 1, 0))) (e_T 128 (e_L 128 (0, ei_load 3 2 129, 0, 0)) (e_L 129 (0, ei_getf eft elay 0 18 132, 0, 0))))) (e_T 136 (e_T 132 (e_L 132 (0, ei_if1 2 139 135, 0, 0)) (e_T 135 (e_L 135 (0, ei_push (0, 1) 136, 0, 0)) (e_L 136 (0, ei_goto 140, 0, 0)))) (e_T 140 (e_T 139 (e_L 139 (0, ei_push (0, 0) 140, 0, 0)) (e_L 140 (1, e_nof, 1, 0))) (e_T 141 (e_L 141 (0, ei_push (0, (-1)) 142, 0, 0)) (e_L 142 (1, e_nof, 1, 0)))))))
set_option maxRecDepth 20000 in
set_option maxHeartbeats 4000000 in
theorem te_227_28_ok : ∀ pc, e_EOq eft cls elay eI n_227 pc (te_227_28 pc) :=
  (e_Tok2
  (e_Tok2
  (e_Tok2
  (e_Tok2
  (e_Lok (e_rt (I := eI) (k := 1) ⟨(x_dk dn_227_0_ok 28 rfl), rfl⟩))
  (e_Tok2
  (e_Lok (e_st (I := eI) (er_aload_n (i := 3) (x_dk dn_227_0_ok 29 rfl))))
  (e_Lok (e_st (I := eI) (er_getf (ci := 0) (k := 17) (ix := 317) (N := 20) (C := RX0) (T := TX0) rfl in_X0 (by decide) (in_t2 (List.mem_of_getElem? (i := 194) rfl) rfl) (x_dk dn_227_0_ok 30 rfl))))))
  (e_Tok2
  (e_Tok2
  (e_Lok (e_st (I := eI) (er_ifge (off := 7) (tg := 103) (x_dk dn_227_0_ok 31 rfl) (by decide))))
  (e_Lok (e_st (I := eI) (er_iconst (n := (-1)) (z := (-1)) (v := (-1)) (x_dk dn_227_0_ok 32 rfl) (by decide) (by decide)))))
  (e_Tok2
  (e_Lok (e_st (I := eI) (er_goto (off := 14) (tg := 114) (x_dk dn_227_0_ok 33 rfl) (by decide))))
  (e_Lok (e_st (I := eI) (er_aload_n (i := 0) (x_dk dn_227_0_ok 34 rfl)))))))
  (e_Tok2
  (e_Tok2
  (e_Lok (e_st (I := eI) (er_getf (ci := 11) (k := 7) (ix := 53) (N := 15) (C := RX11) (T := TX11) rfl in_X11 (by decide) (in_t4 (List.mem_of_getElem? (i := 115) rfl) rfl) (x_dk dn_227_0_ok 35 rfl))))
  (e_Tok2
  (e_Lok (e_st (I := eI) (er_aload_n (i := 3) (x_dk dn_227_0_ok 36 rfl))))
  (e_Lok (e_st (I := eI) (er_getf (ci := 0) (k := 17) (ix := 317) (N := 20) (C := RX0) (T := TX0) rfl in_X0 (by decide) (in_t2 (List.mem_of_getElem? (i := 194) rfl) rfl) (x_dk dn_227_0_ok 37 rfl))))))
  (e_Tok2
  (e_Tok2
  (e_Lok (e_ca (I := eI) (q' := n_95) rfl (xr_callV (q' := n_95) (ix := 320) (n := 1) (in_t7 (List.mem_of_getElem? (i := 24) rfl) rfl) good_w (in_t1 (List.mem_of_getElem? (i := 12) rfl) rfl) (in_t9 (List.mem_of_getElem? (i := 16) rfl) rfl) (in_t7 (List.mem_of_getElem? (i := 22) rfl) rfl) (in_t7 (List.mem_of_getElem? (i := 23) rfl) rfl) (by decide +kernel) (by decide +kernel) (by decide +kernel) (x_dk dn_227_0_ok 38 rfl))))
  (e_Lok (e_rt (I := eI) (k := 1) ⟨(x_dk dn_227_0_ok 39 rfl), rfl⟩)))
  (e_Tok2
  (e_Lok (e_st (I := eI) (er_aload_n (i := 3) (x_dk dn_227_0_ok 40 rfl))))
  (e_Lok (e_ca (I := eI) (q' := n_9) rfl (xr_callV (q' := n_9) (ix := 308) (n := 0) (in_t9 (List.mem_of_getElem? (i := 3) rfl) rfl) good_w (in_t1 (List.mem_of_getElem? (i := 8) rfl) rfl) (in_t9 (List.mem_of_getElem? (i := 0) rfl) rfl) (in_t9 (List.mem_of_getElem? (i := 1) rfl) rfl) (in_t9 (List.mem_of_getElem? (i := 2) rfl) rfl) (by decide +kernel) (by decide +kernel) (by decide +kernel) (x_dk dn_227_0_ok 41 rfl))))))))
  (e_Tok2
  (e_Tok2
  (e_Tok2
  (e_Lok (e_st (I := eI) (er_ifeq (off := 7) (tg := 126) (x_dk dn_227_0_ok 42 rfl) (by decide))))
  (e_Tok2
  (e_Lok (e_st (I := eI) (er_iconst (n := 1) (z := 1) (v := 1) (x_dk dn_227_0_ok 43 rfl) (by decide) (by decide))))
  (e_Lok (e_st (I := eI) (er_goto (off := 4) (tg := 127) (x_dk dn_227_0_ok 44 rfl) (by decide))))))
  (e_Tok2
  (e_Tok2
  (e_Lok (e_st (I := eI) (er_iconst (n := 0) (z := 0) (v := 0) (x_dk dn_227_0_ok 45 rfl) (by decide) (by decide))))
  (e_Lok (e_rt (I := eI) (k := 1) ⟨(x_dk dn_227_0_ok 46 rfl), rfl⟩)))
  (e_Tok2
  (e_Lok (e_st (I := eI) (er_aload_n (i := 3) (x_dk dn_227_0_ok 47 rfl))))
  (e_Lok (e_st (I := eI) (er_getf (ci := 0) (k := 18) (ix := 323) (N := 20) (C := RX0) (T := TX0) rfl in_X0 (by decide) (in_t2 (List.mem_of_getElem? (i := 198) rfl) rfl) (x_dk dn_227_0_ok 48 rfl)))))))
  (e_Tok2
  (e_Tok2
  (e_Lok (e_st (I := eI) (er_iflt (off := 7) (tg := 139) (x_dk dn_227_0_ok 49 rfl) (by decide))))
  (e_Tok2
  (e_Lok (e_st (I := eI) (er_iconst (n := 1) (z := 1) (v := 1) (x_dk dn_227_0_ok 50 rfl) (by decide) (by decide))))
  (e_Lok (e_st (I := eI) (er_goto (off := 4) (tg := 140) (x_dk dn_227_0_ok 51 rfl) (by decide))))))
  (e_Tok2
  (e_Tok2
  (e_Lok (e_st (I := eI) (er_iconst (n := 0) (z := 0) (v := 0) (x_dk dn_227_0_ok 52 rfl) (by decide) (by decide))))
  (e_Lok (e_rt (I := eI) (k := 1) ⟨(x_dk dn_227_0_ok 53 rfl), rfl⟩)))
  (e_Tok2
  (e_Lok (e_st (I := eI) (er_iconst (n := (-1)) (z := (-1)) (v := (-1)) (x_dk dn_227_0_ok 54 rfl) (by decide) (by decide))))
  (e_Lok (e_rt (I := eI) (k := 1) ⟨(x_dk dn_227_0_ok 55 rfl), rfl⟩)))))))
def te_227 : Nat → eE := (e_T 88 te_227_0 te_227_28)
theorem te_227_ok : ∀ pc, e_EOq eft cls elay eI n_227 pc (te_227 pc) := (e_Tok2 (te_227_0_ok) (te_227_28_ok))
def dn_228_0 : List (Nat × Instr × Nat) := [(0, .aload_n 0, 1), (1, .iload_n 1, 1), (2, .iload_n 2, 1), (3, .invokevirtual 119, 3), (6, .ifCond .eq 20, 3), (9, .aload_n 0, 1), (10, .getfield 27, 3), (13, .iload_n 1, 1), (14, .aaload, 1), (15, .getfield 123, 3), (18, .iload_n 2, 1), (19, .aaload, 1), (20, .getfield 326, 3), (23, .goto 4, 3), (26, .iconst (-1), 1), (27, .ireturn, 1)]
set_option maxRecDepth 20000 in
theorem dn_228_0_ok : dn_228_0.all (fun q => decide (decode prog_1_method_40_code q.1 = .ok (q.2.1, q.2.2))) = true := by decide +kernel
def te_228_0 : Nat → eE := (e_T 13 (e_T 3 (e_T 1 (e_T 0 (e_L 0 (0, ei_load 0 2 1, 0, 0)) (e_L 1 (0, ei_load 1 0 2, 0, 0))) (e_T 2 (e_L 2 (0, ei_load 2 0 3, 0, 0)) (e_L 3 (2, e_nof, 247, 3)))) (e_T 9 (e_T 6 (e_L 6 (0, ei_if1 0 26 9, 0, 0)) (e_L 9 (0, ei_load 0 2 10, 0, 0))) (e_T 10 (e_L 10 (0, ei_getf eft elay 11 2 13, 0, 0)) (e_L 13 (0, ei_load 1 0 14, 0, 0))))) (e_T 19 (e_T 15 (e_T 14 (e_L 14 (0, ei_aald elay 15, 0, 0)) (e_L 15 (0, ei_getf eft elay 0 0 18, 0, 0))) (e_T 18 (e_L 18 (0, ei_load 2 0 19, 0, 0)) (e_L 19 (0, ei_aald elay 20, 0, 0)))) (e_T 23 (e_T 20 (e_L 20 (0, ei_getf eft elay 5 7 23, 0, 0)) (e_L 23 (0, ei_goto 27, 0, 0))) (e_T 26 (e_L 26 (0, ei_push (0, (-1)) 27, 0, 0)) (e_L 27 (1, e_nof, 1, 0))))))
set_option maxRecDepth 20000 in
set_option maxHeartbeats 4000000 in
theorem te_228_0_ok : ∀ pc, e_EOq eft cls elay eI n_228 pc (te_228_0 pc) :=
  (e_Tok2
  (e_Tok2
  (e_Tok2
  (e_Tok2
  (e_Lok (e_st (I := eI) (er_aload_n (i := 0) (x_dk dn_228_0_ok 0 rfl))))
  (e_Lok (e_st (I := eI) (er_iload_n (i := 1) (x_dk dn_228_0_ok 1 rfl)))))
  (e_Tok2
  (e_Lok (e_st (I := eI) (er_iload_n (i := 2) (x_dk dn_228_0_ok 2 rfl))))
  (e_Lok (e_ca (I := eI) (q' := n_247) rfl (xr_callV (q' := n_247) (ix := 119) (n := 2) (in_t4 (List.mem_of_getElem? (i := 201) rfl) rfl) good_w (in_t1 (List.mem_of_getElem? (i := 1) rfl) rfl) (in_t4 (List.mem_of_getElem? (i := 198) rfl) rfl) (in_t4 (List.mem_of_getElem? (i := 200) rfl) rfl) (in_s1 (List.mem_of_getElem? (i := 9) rfl)) (by decide +kernel) (by decide +kernel) (by decide +kernel) (x_dk dn_228_0_ok 3 rfl))))))
  (e_Tok2
  (e_Tok2
  (e_Lok (e_st (I := eI) (er_ifeq (off := 20) (tg := 26) (x_dk dn_228_0_ok 4 rfl) (by decide))))
  (e_Lok (e_st (I := eI) (er_aload_n (i := 0) (x_dk dn_228_0_ok 5 rfl)))))
  (e_Tok2
  (e_Lok (e_st (I := eI) (er_getf (ci := 11) (k := 2) (ix := 27) (N := 15) (C := RX11) (T := TX11) rfl in_X11 (by decide) (in_t4 (List.mem_of_getElem? (i := 110) rfl) rfl) (x_dk dn_228_0_ok 6 rfl))))
  (e_Lok (e_st (I := eI) (er_iload_n (i := 1) (x_dk dn_228_0_ok 7 rfl)))))))
  (e_Tok2
  (e_Tok2
  (e_Tok2
  (e_Lok (e_st (I := eI) (er_aaload (x_dk dn_228_0_ok 8 rfl))))
  (e_Lok (e_st (I := eI) (er_getf (ci := 0) (k := 0) (ix := 123) (N := 20) (C := RX0) (T := TX0) rfl in_X0 (by decide) (in_t2 (List.mem_of_getElem? (i := 146) rfl) rfl) (x_dk dn_228_0_ok 9 rfl)))))
  (e_Tok2
  (e_Lok (e_st (I := eI) (er_iload_n (i := 2) (x_dk dn_228_0_ok 10 rfl))))
  (e_Lok (e_st (I := eI) (er_aaload (x_dk dn_228_0_ok 11 rfl))))))
  (e_Tok2
  (e_Tok2
  (e_Lok (e_st (I := eI) (er_getf (ci := 5) (k := 7) (ix := 326) (N := 12) (C := RX5) (T := TX5) rfl in_X5 (by decide) (in_t2 (List.mem_of_getElem? (i := 108) rfl) rfl) (x_dk dn_228_0_ok 12 rfl))))
  (e_Lok (e_st (I := eI) (er_goto (off := 4) (tg := 27) (x_dk dn_228_0_ok 13 rfl) (by decide)))))
  (e_Tok2
  (e_Lok (e_st (I := eI) (er_iconst (n := (-1)) (z := (-1)) (v := (-1)) (x_dk dn_228_0_ok 14 rfl) (by decide) (by decide))))
  (e_Lok (e_rt (I := eI) (k := 1) ⟨(x_dk dn_228_0_ok 15 rfl), rfl⟩))))))
def te_228 : Nat → eE := te_228_0
theorem te_228_ok : ∀ pc, e_EOq eft cls elay eI n_228 pc (te_228 pc) := te_228_0_ok
def dn_229_0 : List (Nat × Instr × Nat) := [(0, .aload_n 0, 1), (1, .iload_n 1, 1), (2, .invokevirtual 103, 3), (5, .ifCond .eq 29, 3), (8, .iload_n 2, 1), (9, .iconst 0, 1), (10, .aload_n 0, 1), (11, .getfield 27, 3), (14, .iload_n 1, 1), (15, .aaload, 1), (16, .getfield 112, 3), (19, .invokestatic 82, 3), (22, .ifCond .eq 12, 3), (25, .iload_n 3, 1), (26, .iconst 0, 1), (27, .iconst 1, 1), (28, .invokestatic 82, 3), (31, .ifCond .ne 5, 3), (34, .iconst (-1), 1), (35, .ireturn, 1), (36, .iload_n 3, 1), (37, .ifCond .ne 17, 3), (40, .aload_n 0, 1), (41, .getfield 27, 3), (44, .iload_n 1, 1), (45, .aaload, 1), (46, .getfield 329, 3), (49, .iload_n 2, 1), (50, .iaload, 1), (51, .goto 14, 3), (54, .aload_n 0, 1), (55, .getfield 27, 3), (58, .iload_n 1, 1), (59, .aaload, 1), (60, .getfield 332, 3), (63, .iload_n 2, 1), (64, .iaload, 1), (65, .ireturn, 1)]
set_option maxRecDepth 20000 in
theorem dn_229_0_ok : dn_229_0.all (fun q => decide (decode prog_1_method_41_code q.1 = .ok (q.2.1, q.2.2))) = true := by decide +kernel
def te_229_0 : Nat → eE := (e_T 34 (e_T 14 (e_T 5 (e_T 1 (e_T 0 (e_L 0 (0, ei_load 0 2 1, 0, 0)) (e_L 1 (0, ei_load 1 0 2, 0, 0))) (e_T 2 (e_L 2 (2, e_nof, 246, 2)) (e_L 5 (0, ei_if1 0 34 8, 0, 0)))) (e_T 9 (e_T 8 (e_L 8 (0, ei_load 2 0 9, 0, 0)) (e_L 9 (0, ei_push (0, 0) 10, 0, 0))) (e_T 10 (e_L 10 (0, ei_load 0 2 11, 0, 0)) (e_T 11 (e_L 11 (0, ei_getf eft elay 11 2 14, 0, 0)) (e_L 14 (0, ei_load 1 0 15, 0, 0)))))) (e_T 25 (e_T 16 (e_T 15 (e_L 15 (0, ei_aald elay 16, 0, 0)) (e_L 16 (0, ei_getf eft elay 0 8 19, 0, 0))) (e_T 19 (e_L 19 (2, e_nof, 242, 3)) (e_T 22 (e_L 22 (0, ei_if1 0 34 25, 0, 0)) (e_L 25 (0, ei_load 3 0 26, 0, 0))))) (e_T 27 (e_T 26 (e_L 26 (0, ei_push (0, 0) 27, 0, 0)) (e_L 27 (0, ei_push (0, 1) 28, 0, 0))) (e_T 28 (e_L 28 (2, e_nof, 242, 3)) (e_T 31 (e_L 31 (0, ei_if1 1 36 34, 0, 0)) (e_L 34 (0, ei_push (0, (-1)) 35, 0, 0))))))) (e_T 49 (e_T 40 (e_T 36 (e_T 35 (e_L 35 (1, e_nof, 1, 0)) (e_L 36 (0, ei_load 3 0 37, 0, 0))) (e_T 37 (e_L 37 (0, ei_if1 1 54 40, 0, 0)) (e_L 40 (0, ei_load 0 2 41, 0, 0)))) (e_T 44 (e_T 41 (e_L 41 (0, ei_getf eft elay 11 2 44, 0, 0)) (e_L 44 (0, ei_load 1 0 45, 0, 0))) (e_T 45 (e_L 45 (0, ei_aald elay 46, 0, 0)) (e_T 46 (e_L 46 (0, ei_getf eft elay 0 1 49, 0, 0)) (e_L 49 (0, ei_load 2 0 50, 0, 0)))))) (e_T 58 (e_T 51 (e_T 50 (e_L 50 (0, ei_ald elay false 51, 0, 0)) (e_L 51 (0, ei_goto 65, 0, 0))) (e_T 54 (e_L 54 (0, ei_load 0 2 55, 0, 0)) (e_T 55 (e_L 55 (0, ei_getf eft elay 11 2 58, 0, 0)) (e_L 58 (0, ei_load 1 0 59, 0, 0))))) (e_T 60 (e_T 59 (e_L 59 (0, ei_aald elay 60, 0, 0)) (e_L 60 (0, ei_getf eft elay 0 2 63, 0, 0))) (e_T 63 (e_L 63 (0, ei_load 2 0 64, 0, 0)) (e_T 64 (e_L 64 (0, ei_ald elay false 65, 0, 0)) (e_L 65 (1, e_nof, 1, 0))))))))
set_option maxRecDepth 20000 in
set_option maxHeartbeats 4000000 in
theorem te_229_0_ok : ∀ pc, e_EOq eft cls elay eI n_229 pc (te_229_0 pc) :=
  (e_Tok2
  (e_Tok2
  (e_Tok2
  (e_Tok2
  (e_Tok2
  (e_Lok (e_st (I := eI) (er_aload_n (i := 0) (x_dk dn_229_0_ok 0 rfl))))
  (e_Lok (e_st (I := eI) (er_iload_n (i := 1) (x_dk dn_229_0_ok 1 rfl)))))
  (e_Tok2
  (e_Lok (e_ca (I := eI) (q' := n_246) rfl (xr_callV (q' := n_246) (ix := 103) (n := 1) (in_t4 (List.mem_of_getElem? (i := 184) rfl) rfl) good_w (in_t1 (List.mem_of_getElem? (i := 1) rfl) rfl) (in_t4 (List.mem_of_getElem? (i := 181) rfl) rfl) (in_t4 (List.mem_of_getElem? (i := 183) rfl) rfl) (in_s1 (List.mem_of_getElem? (i := 8) rfl)) (by decide +kernel) (by decide +kernel) (by decide +kernel) (x_dk dn_229_0_ok 2 rfl))))
  (e_Lok (e_st (I := eI) (er_ifeq (off := 29) (tg := 34) (x_dk dn_229_0_ok 3 rfl) (by decide))))))
  (e_Tok2
  (e_Tok2
  (e_Lok (e_st (I := eI) (er_iload_n (i := 2) (x_dk dn_229_0_ok 4 rfl))))
  (e_Lok (e_st (I := eI) (er_iconst (n := 0) (z := 0) (v := 0) (x_dk dn_229_0_ok 5 rfl) (by decide) (by decide)))))
  (e_Tok2
  (e_Lok (e_st (I := eI) (er_aload_n (i := 0) (x_dk dn_229_0_ok 6 rfl))))
  (e_Tok2
  (e_Lok (e_st (I := eI) (er_getf (ci := 11) (k := 2) (ix := 27) (N := 15) (C := RX11) (T := TX11) rfl in_X11 (by decide) (in_t4 (List.mem_of_getElem? (i := 110) rfl) rfl) (x_dk dn_229_0_ok 7 rfl))))
  (e_Lok (e_st (I := eI) (er_iload_n (i := 1) (x_dk dn_229_0_ok 8 rfl))))))))
  (e_Tok2
  (e_Tok2
  (e_Tok2
  (e_Lok (e_st (I := eI) (er_aaload (x_dk dn_229_0_ok 9 rfl))))
  (e_Lok (e_st (I := eI) (er_getf (ci := 0) (k := 8) (ix := 112) (N := 20) (C := RX0) (T := TX0) rfl in_X0 (by decide) (in_t2 (List.mem_of_getElem? (i := 171) rfl) rfl) (x_dk dn_229_0_ok 10 rfl)))))
  (e_Tok2
  (e_Lok (e_ca (I := eI) (q' := n_242) rfl (xr_callS (q' := n_242) (ix := 82) (n := 3) (in_t4 (List.mem_of_getElem? (i := 168) rfl) rfl) good_w (in_t1 (List.mem_of_getElem? (i := 1) rfl) rfl) (in_t4 (List.mem_of_getElem? (i := 166) rfl) rfl) (in_t4 (List.mem_of_getElem? (i := 167) rfl) rfl) (by decide +kernel) (by decide +kernel) (x_dk dn_229_0_ok 11 rfl))))
  (e_Tok2
  (e_Lok (e_st (I := eI) (er_ifeq (off := 12) (tg := 34) (x_dk dn_229_0_ok 12 rfl) (by decide))))
  (e_Lok (e_st (I := eI) (er_iload_n (i := 3) (x_dk dn_229_0_ok 13 rfl)))))))
  (e_Tok2
  (e_Tok2
  (e_Lok (e_st (I := eI) (er_iconst (n := 0) (z := 0) (v := 0) (x_dk dn_229_0_ok 14 rfl) (by decide) (by decide))))
  (e_Lok (e_st (I := eI) (er_iconst (n := 1) (z := 1) (v := 1) (x_dk dn_229_0_ok 15 rfl) (by decide) (by decide)))))
  (e_Tok2
  (e_Lok (e_ca (I := eI) (q' := n_242) rfl (xr_callS (q' := n_242) (ix := 82) (n := 3) (in_t4 (List.mem_of_getElem? (i := 168) rfl) rfl) good_w (in_t1 (List.mem_of_getElem? (i := 1) rfl) rfl) (in_t4 (List.mem_of_getElem? (i := 166) rfl) rfl) (in_t4 (List.mem_of_getElem? (i := 167) rfl) rfl) (by decide +kernel) (by decide +kernel) (x_dk dn_229_0_ok 16 rfl))))
  (e_Tok2
  (e_Lok (e_st (I := eI) (er_ifne (off := 5) (tg := 36) (x_dk dn_229_0_ok 17 rfl) (by decide))))
  (e_Lok (e_st (I := eI) (er_iconst (n := (-1)) (z := (-1)) (v := (-1)) (x_dk dn_229_0_ok 18 rfl) (by decide) (by decide)))))))))
  (e_Tok2
  (e_Tok2
  (e_Tok2
  (e_Tok2
  (e_Lok (e_rt (I := eI) (k := 1) ⟨(x_dk dn_229_0_ok 19 rfl), rfl⟩))
  (e_Lok (e_st (I := eI) (er_iload_n (i := 3) (x_dk dn_229_0_ok 20 rfl)))))
  (e_Tok2
  (e_Lok (e_st (I := eI) (er_ifne (off := 17) (tg := 54) (x_dk dn_229_0_ok 21 rfl) (by decide))))
  (e_Lok (e_st (I := eI) (er_aload_n (i := 0) (x_dk dn_229_0_ok 22 rfl))))))
  (e_Tok2
  (e_Tok2
  (e_Lok (e_st (I := eI) (er_getf (ci := 11) (k := 2) (ix := 27) (N := 15) (C := RX11) (T := TX11) rfl in_X11 (by decide) (in_t4 (List.mem_of_getElem? (i := 110) rfl) rfl) (x_dk dn_229_0_ok 23 rfl))))
  (e_Lok (e_st (I := eI) (er_iload_n (i := 1) (x_dk dn_229_0_ok 24 rfl)))))
  (e_Tok2
  (e_Lok (e_st (I := eI) (er_aaload (x_dk dn_229_0_ok 25 rfl))))
  (e_Tok2
  (e_Lok (e_st (I := eI) (er_getf (ci := 0) (k := 1) (ix := 329) (N := 20) (C := RX0) (T := TX0) rfl in_X0 (by decide) (in_t2 (List.mem_of_getElem? (i := 151) rfl) rfl) (x_dk dn_229_0_ok 26 rfl))))
  (e_Lok (e_st (I := eI) (er_iload_n (i := 2) (x_dk dn_229_0_ok 27 rfl))))))))
  (e_Tok2
  (e_Tok2
  (e_Tok2
  (e_Lok (e_st (I := eI) (er_iaload (x_dk dn_229_0_ok 28 rfl))))
  (e_Lok (e_st (I := eI) (er_goto (off := 14) (tg := 65) (x_dk dn_229_0_ok 29 rfl) (by decide)))))
  (e_Tok2
  (e_Lok (e_st (I := eI) (er_aload_n (i := 0) (x_dk dn_229_0_ok 30 rfl))))
  (e_Tok2
  (e_Lok (e_st (I := eI) (er_getf (ci := 11) (k := 2) (ix := 27) (N := 15) (C := RX11) (T := TX11) rfl in_X11 (by decide) (in_t4 (List.mem_of_getElem? (i := 110) rfl) rfl) (x_dk dn_229_0_ok 31 rfl))))
  (e_Lok (e_st (I := eI) (er_iload_n (i := 1) (x_dk dn_229_0_ok 32 rfl)))))))
  (e_Tok2
  (e_Tok2
  (e_Lok (e_st (I := eI) (er_aaload (x_dk dn_229_0_ok 33 rfl))))
  (e_Lok (e_st (I := eI) (er_getf (ci := 0) (k := 2) (ix := 332) (N := 20) (C := RX0) (T := TX0) rfl in_X0 (by decide) (in_t2 (List.mem_of_getElem? (i := 155) rfl) rfl) (x_dk dn_229_0_ok 34 rfl)))))
  (e_Tok2
  (e_Lok (e_st (I := eI) (er_iload_n (i := 2) (x_dk dn_229_0_ok 35 rfl))))
  (e_Tok2
  (e_Lok (e_st (I := eI) (er_iaload (x_dk dn_229_0_ok 36 rfl))))
  (e_Lok (e_rt (I := eI) (k := 1) ⟨(x_dk dn_229_0_ok 37 rfl), rfl⟩))))))))
def te_229 : Nat → eE := te_229_0
theorem te_229_ok : ∀ pc, e_EOq eft cls elay eI n_229 pc (te_229 pc) := te_229_0_ok
def dn_230_0 : List (Nat × Instr × Nat) := [(0, .aload_n 0, 1), (1, .iload_n 1, 1), (2, .invokevirtual 103, 3), (5, .ifCond .eq 15, 3), (8, .aload_n 0, 1), (9, .getfield 27, 3), (12, .iload_n 1, 1), (13, .aaload, 1), (14, .getfield 317, 3), (17, .ifCond .ge 5, 3), (20, .iconst (-1), 1), (21, .ireturn, 1), (22, .aload_n 0, 1), (23, .getfield 53, 3), (26, .aload_n 0, 1), (27, .getfield 27, 3), (30, .iload_n 1, 1), (31, .aaload, 1), (32, .getfield 317, 3), (35, .iload_n 2, 1), (36, .invokevirtual 335, 3), (39, .ireturn, 1)]
set_option maxRecDepth 20000 in
theorem dn_230_0_ok : dn_230_0.all (fun q => decide (decode prog_1_method_42_code q.1 = .ok (q.2.1, q.2.2))) = true := by decide +kernel
def te_230_0 : Nat → eE := (e_T 20 (e_T 8 (e_T 1 (e_T 0 (e_L 0 (0, ei_load 0 2 1, 0, 0)) (e_L 1 (0, ei_load 1 0 2, 0, 0))) (e_T 2 (e_L 2 (2, e_nof, 246, 2)) (e_T 5 (e_L 5 (0, ei_if1 0 20 8, 0, 0)) (e_L 8 (0, ei_load 0 2 9, 0, 0))))) (e_T 13 (e_T 9 (e_L 9 (0, ei_getf eft elay 11 2 12, 0, 0)) (e_T 12 (e_L 12 (0, ei_load 1 0 13, 0, 0)) (e_L 13 (0, ei_aald elay 14, 0, 0)))) (e_T 14 (e_L 14 (0, ei_getf eft elay 0 17 17, 0, 0)) (e_T 17 (e_L 17 (0, ei_if1 3 22 20, 0, 0)) (e_L 20 (0, ei_push (0, (-1)) 21, 0, 0)))))) (e_T 27 (e_T 22 (e_T 21 (e_L 21 (1, e_nof, 1, 0)) (e_L 22 (0, ei_load 0 2 23, 0, 0))) (e_T 23 (e_L 23 (0, ei_getf eft elay 11 7 26, 0, 0)) (e_T 26 (e_L 26 (0, ei_load 0 2 27, 0, 0)) (e_L 27 (0, ei_getf eft elay 11 2 30, 0, 0))))) (e_T 32 (e_T 30 (e_L 30 (0, ei_load 1 0 31, 0, 0)) (e_T 31 (e_L 31 (0, ei_aald elay 32, 0, 0)) (e_L 32 (0, ei_getf eft elay 0 17 35, 0, 0)))) (e_T 35 (e_L 35 (0, ei_load 2 0 36, 0, 0)) (e_T 36 (e_L 36 (2, e_nof, 96, 3)) (e_L 39 (1, e_nof, 1, 0)))))))
set_option maxRecDepth 20000 in
set_option maxHeartbeats 4000000 in
theorem te_230_0_ok : ∀ pc, e_EOq eft cls elay eI n_230 pc (te_230_0 pc) :=
  (e_Tok2
  (e_Tok2
  (e_Tok2
  (e_Tok2
  (e_Lok (e_st (I := eI) (er_aload_n (i := 0) (x_dk dn_230_0_ok 0 rfl))))
  (e_Lok (e_st (I := eI) (er_iload_n (i := 1) (x_dk dn_230_0_ok 1 rfl)))))
  (e_Tok2
  (e_Lok (e_ca (I := eI) (q' := n_246) rfl (xr_callV (q' := n_246) (ix := 103) (n := 1) (in_t4 (List.mem_of_getElem? (i := 184) rfl) rfl) good_w (in_t1 (List.mem_of_getElem? (i := 1) rfl) rfl) (in_t4 (List.mem_of_getElem? (i := 181) rfl) rfl) (in_t4 (List.mem_of_getElem? (i := 183) rfl) rfl) (in_s1 (List.mem_of_getElem? (i := 8) rfl)) (by decide +kernel) (by decide +kernel) (by decide +kernel) (x_dk dn_230_0_ok 2 rfl))))
  (e_Tok2
  (e_Lok (e_st (I := eI) (er_ifeq (off := 15) (tg := 20) (x_dk dn_230_0_ok 3 rfl) (by decide))))
  (e_Lok (e_st (I := eI) (er_aload_n (i := 0) (x_dk dn_230_0_ok 4 rfl)))))))
  (e_Tok2
  (e_Tok2
  (e_Lok (e_st (I := eI) (er_getf (ci := 11) (k := 2) (ix := 27) (N := 15) (C := RX11) (T := TX11) rfl in_X11 (by decide) (in_t4 (List.mem_of_getElem? (i := 110) rfl) rfl) (x_dk dn_230_0_ok 5 rfl))))
  (e_Tok2
  (e_Lok (e_st (I := eI) (er_iload_n (i := 1) (x_dk dn_230_0_ok 6 rfl))))
  (e_Lok (e_st (I := eI) (er_aaload (x_dk dn_230_0_ok 7 rfl))))))
  (e_Tok2
  (e_Lok (e_st (I := eI) (er_getf (ci := 0) (k := 17) (ix := 317) (N := 20) (C := RX0) (T := TX0) rfl in_X0 (by decide) (in_t2 (List.mem_of_getElem? (i := 194) rfl) rfl) (x_dk dn_230_0_ok 8 rfl))))
  (e_Tok2
  (e_Lok (e_st (I := eI) (er_ifge (off := 5) (tg := 22) (x_dk dn_230_0_ok 9 rfl) (by decide))))
  (e_Lok (e_st (I := eI) (er_iconst (n := (-1)) (z := (-1)) (v := (-1)) (x_dk dn_230_0_ok 10 rfl) (by decide) (by decide))))))))
  (e_Tok2
  (e_Tok2
  (e_Tok2
  (e_Lok (e_rt (I := eI) (k := 1) ⟨(x_dk dn_230_0_ok 11 rfl), rfl⟩))
  (e_Lok (e_st (I := eI) (er_aload_n (i := 0) (x_dk dn_230_0_ok 12 rfl)))))
  (e_Tok2
  (e_Lok (e_st (I := eI) (er_getf (ci := 11) (k := 7) (ix := 53) (N := 15) (C := RX11) (T := TX11) rfl in_X11 (by decide) (in_t4 (List.mem_of_getElem? (i := 115) rfl) rfl) (x_dk dn_230_0_ok 13 rfl))))
  (e_Tok2
  (e_Lok (e_st (I := eI) (er_aload_n (i := 0) (x_dk dn_230_0_ok 14 rfl))))
  (e_Lok (e_st (I := eI) (er_getf (ci := 11) (k := 2) (ix := 27) (N := 15) (C := RX11) (T := TX11) rfl in_X11 (by decide) (in_t4 (List.mem_of_getElem? (i := 110) rfl) rfl) (x_dk dn_230_0_ok 15 rfl)))))))
  (e_Tok2
  (e_Tok2
  (e_Lok (e_st (I := eI) (er_iload_n (i := 1) (x_dk dn_230_0_ok 16 rfl))))
  (e_Tok2
  (e_Lok (e_st (I := eI) (er_aaload (x_dk dn_230_0_ok 17 rfl))))
  (e_Lok (e_st (I := eI) (er_getf (ci := 0) (k := 17) (ix := 317) (N := 20) (C := RX0) (T := TX0) rfl in_X0 (by decide) (in_t2 (List.mem_of_getElem? (i := 194) rfl) rfl) (x_dk dn_230_0_ok 18 rfl))))))
  (e_Tok2
  (e_Lok (e_st (I := eI) (er_iload_n (i := 2) (x_dk dn_230_0_ok 19 rfl))))
  (e_Tok2
  (e_Lok (e_ca (I := eI) (q' := n_96) rfl (xr_callV (q' := n_96) (ix := 335) (n := 2) (in_t7 (List.mem_of_getElem? (i := 33) rfl) rfl) good_w (in_t1 (List.mem_of_getElem? (i := 12) rfl) rfl) (in_t9 (List.mem_of_getElem? (i := 29) rfl) rfl) (in_t7 (List.mem_of_getElem? (i := 31) rfl) rfl) (in_t7 (List.mem_of_getElem? (i := 32) rfl) rfl) (by decide +kernel) (by decide +kernel) (by decide +kernel) (x_dk dn_230_0_ok 20 rfl))))
  (e_Lok (e_rt (I := eI) (k := 1) ⟨(x_dk dn_230_0_ok 21 rfl), rfl⟩)))))))
def te_230 : Nat → eE := te_230_0
theorem te_230_ok : ∀ pc, e_EOq eft cls elay eI n_230 pc (te_230 pc) := te_230_0_ok
def dn_231_0 : List (Nat × Instr × Nat) := [(0, .iload_n 1, 1), (1, .iconst 0, 1), (2, .bipush 15, 2), (4, .invokestatic 82, 3), (7, .ifCond .ne 5, 3), (10, .iconst (-1), 1), (11, .ireturn, 1), (12, .aload_n 0, 1), (13, .getfield 19, 3), (16, .getfield 338, 3), (19, .iload_n 1, 1), (20, .aaload, 1), (21, .astore_n 3, 1), (22, .iload_n 2, 1), (23, .tableswitch 49 0 3 #[29, 34, 39, 44], 29), (52, .aload_n 3, 1), (53, .getfield 342, 3), (56, .ireturn, 1), (57, .aload_n 3, 1), (58, .getfield 345, 3), (61, .ireturn, 1), (62, .aload_n 3, 1), (63, .getfield 348, 3), (66, .ireturn, 1), (67, .aload_n 3, 1), (68, .getfield 351, 3), (71, .ireturn, 1), (72, .iconst (-1), 1), (73, .ireturn, 1)]
set_option maxRecDepth 20000 in
theorem dn_231_0_ok : dn_231_0.all (fun q => decide (decode prog_1_method_43_code q.1 = .ok (q.2.1, q.2.2))) = true := by decide +kernel
def te_231_0 : Nat → eE := (e_T 22 (e_T 11 (e_T 2 (e_T 0 (e_L 0 (0, ei_load 1 0 1, 0, 0)) (e_T 1 (e_L 1 (0, ei_push (0, 0) 2, 0, 0)) (e_L 2 (0, ei_push (0, 15) 4, 0, 0)))) (e_T 7 (e_T 4 (e_L 4 (2, e_nof, 242, 3)) (e_L 7 (0, ei_if1 1 12 10, 0, 0))) (e_T 10 (e_L 10 (0, ei_push (0, (-1)) 11, 0, 0)) (e_L 11 (1, e_nof, 1, 0))))) (e_T 16 (e_T 12 (e_L 12 (0, ei_load 0 2 13, 0, 0)) (e_T 13 (e_L 13 (0, ei_getf eft elay 11 1 16, 0, 0)) (e_L 16 (0, ei_getf eft elay 3 4 19, 0, 0)))) (e_T 20 (e_T 19 (e_L 19 (0, ei_load 1 0 20, 0, 0)) (e_L 20 (0, ei_aald elay 21, 0, 0))) (e_T 21 (e_L 21 (0, ei_stor 3 2 22, 0, 0)) (e_L 22 (0, ei_load 2 0 23, 0, 0)))))) (e_T 61 (e_T 53 (e_T 23 (e_L 23 (0, ei_sw [((-2147483648), (-1), 72), (0, 0, 52), (1, 1, 57), (2, 2, 62), (3, 3, 67), (4, 2147483647, 72)], 0, 0)) (e_T 52 (e_L 52 (0, ei_load 3 2 53, 0, 0)) (e_L 53 (0, ei_getf eft elay 10 1 56, 0, 0)))) (e_T 57 (e_T 56 (e_L 56 (1, e_nof, 1, 0)) (e_L 57 (0, ei_load 3 2 58, 0, 0))) (e_T 58 (e_L 58 (0, ei_getf eft elay 10 2 61, 0, 0)) (e_L 61 (1, e_nof, 1, 0))))) (e_T 67 (e_T 63 (e_T 62 (e_L 62 (0, ei_load 3 2 63, 0, 0)) (e_L 63 (0, ei_getf eft elay 10 5 66, 0, 0))) (e_T 66 (e_L 66 (1, e_nof, 1, 0)) (e_L 67 (0, ei_load 3 2 68, 0, 0)))) (e_T 71 (e_T 68 (e_L 68 (0, ei_getf eft elay 10 4 71, 0, 0)) (e_L 71 (1, e_nof, 1, 0))) (e_T 72 (e_L 72 (0, ei_push (0, (-1)) 73, 0, 0)) (e_L 73 (1, e_nof, 1, 0)))))))
set_option maxRecDepth 20000 in
set_option maxHeartbeats 4000000 in
theorem te_231_0_ok : ∀ pc, e_EOq eft cls elay eI n_231 pc (te_231_0 pc) :=
  (e_Tok2
  (e_Tok2
  (e_Tok2
  (e_Tok2
  (e_Lok (e_st (I := eI) (er_iload_n (i := 1) (x_dk dn_231_0_ok 0 rfl))))
  (e_Tok2
  (e_Lok (e_st (I := eI) (er_iconst (n := 0) (z := 0) (v := 0) (x_dk dn_231_0_ok 1 rfl) (by decide) (by decide))))
  (e_Lok (e_st (I := eI) (er_bipush (n := 15) (z := 15) (v := 15) (x_dk dn_231_0_ok 2 rfl) (by decide) (by decide))))))
  (e_Tok2
  (e_Tok2
  (e_Lok (e_ca (I := eI) (q' := n_242) rfl (xr_callS (q' := n_242) (ix := 82) (n := 3) (in_t4 (List.mem_of_getElem? (i := 168) rfl) rfl) good_w (in_t1 (List.mem_of_getElem? (i := 1) rfl) rfl) (in_t4 (List.mem_of_getElem? (i := 166) rfl) rfl) (in_t4 (List.mem_of_getElem? (i := 167) rfl) rfl) (by decide +kernel) (by decide +kernel) (x_dk dn_231_0_ok 3 rfl))))
  (e_Lok (e_st (I := eI) (er_ifne (off := 5) (tg := 12) (x_dk dn_231_0_ok 4 rfl) (by decide)))))
  (e_Tok2
  (e_Lok (e_st (I := eI) (er_iconst (n := (-1)) (z := (-1)) (v := (-1)) (x_dk dn_231_0_ok 5 rfl) (by decide) (by decide))))
  (e_Lok (e_rt (I := eI) (k := 1) ⟨(x_dk dn_231_0_ok 6 rfl), rfl⟩)))))
  (e_Tok2
  (e_Tok2
  (e_Lok (e_st (I := eI) (er_aload_n (i := 0) (x_dk dn_231_0_ok 7 rfl))))
  (e_Tok2
  (e_Lok (e_st (I := eI) (er_getf (ci := 11) (k := 1) (ix := 19) (N := 15) (C := RX11) (T := TX11) rfl in_X11 (by decide) (in_t4 (List.mem_of_getElem? (i := 109) rfl) rfl) (x_dk dn_231_0_ok 8 rfl))))
  (e_Lok (e_st (I := eI) (er_getf (ci := 3) (k := 4) (ix := 338) (N := 12) (C := RX3) (T := TX3) rfl in_X3 (by decide) (in_t3 (List.mem_of_getElem? (i := 97) rfl) rfl) (x_dk dn_231_0_ok 9 rfl))))))
  (e_Tok2
  (e_Tok2
  (e_Lok (e_st (I := eI) (er_iload_n (i := 1) (x_dk dn_231_0_ok 10 rfl))))
  (e_Lok (e_st (I := eI) (er_aaload (x_dk dn_231_0_ok 11 rfl)))))
  (e_Tok2
  (e_Lok (e_st (I := eI) (er_astore_n (i := 3) (x_dk dn_231_0_ok 12 rfl) (by decide +kernel))))
  (e_Lok (e_st (I := eI) (er_iload_n (i := 2) (x_dk dn_231_0_ok 13 rfl))))))))
  (e_Tok2
  (e_Tok2
  (e_Tok2
  (e_Lok (e_st (I := eI) (er_tsw (dflt := 49) (lo := 0) (hi := 3) (offs := #[29, 34, 39, 44]) (len := 29) (n := 4) (x_dk dn_231_0_ok 14 rfl) (by decide) (by decide +kernel))))
  (e_Tok2
  (e_Lok (e_st (I := eI) (er_aload_n (i := 3) (x_dk dn_231_0_ok 15 rfl))))
  (e_Lok (e_st (I := eI) (er_getf (ci := 10) (k := 1) (ix := 342) (N := 21) (C := RX10) (T := TX10) rfl in_X10 (by decide) (in_t3 (List.mem_of_getElem? (i := 13) rfl) rfl) (x_dk dn_231_0_ok 16 rfl))))))
  (e_Tok2
  (e_Tok2
  (e_Lok (e_rt (I := eI) (k := 1) ⟨(x_dk dn_231_0_ok 17 rfl), rfl⟩))
  (e_Lok (e_st (I := eI) (er_aload_n (i := 3) (x_dk dn_231_0_ok 18 rfl)))))
  (e_Tok2
  (e_Lok (e_st (I := eI) (er_getf (ci := 10) (k := 2) (ix := 345) (N := 21) (C := RX10) (T := TX10) rfl in_X10 (by decide) (in_t3 (List.mem_of_getElem? (i := 16) rfl) rfl) (x_dk dn_231_0_ok 19 rfl))))
  (e_Lok (e_rt (I := eI) (k := 1) ⟨(x_dk dn_231_0_ok 20 rfl), rfl⟩)))))
  (e_Tok2
  (e_Tok2
  (e_Tok2
  (e_Lok (e_st (I := eI) (er_aload_n (i := 3) (x_dk dn_231_0_ok 21 rfl))))
  (e_Lok (e_st (I := eI) (er_getf (ci := 10) (k := 5) (ix := 348) (N := 21) (C := RX10) (T := TX10) rfl in_X10 (by decide) (in_t3 (List.mem_of_getElem? (i := 24) rfl) rfl) (x_dk dn_231_0_ok 22 rfl)))))
  (e_Tok2
  (e_Lok (e_rt (I := eI) (k := 1) ⟨(x_dk dn_231_0_ok 23 rfl), rfl⟩))
  (e_Lok (e_st (I := eI) (er_aload_n (i := 3) (x_dk dn_231_0_ok 24 rfl))))))
  (e_Tok2
  (e_Tok2
  (e_Lok (e_st (I := eI) (er_getf (ci := 10) (k := 4) (ix := 351) (N := 21) (C := RX10) (T := TX10) rfl in_X10 (by decide) (in_t3 (List.mem_of_getElem? (i := 21) rfl) rfl) (x_dk dn_231_0_ok 25 rfl))))
  (e_Lok (e_rt (I := eI) (k := 1) ⟨(x_dk dn_231_0_ok 26 rfl), rfl⟩)))
  (e_Tok2
  (e_Lok (e_st (I := eI) (er_iconst (n := (-1)) (z := (-1)) (v := (-1)) (x_dk dn_231_0_ok 27 rfl) (by decide) (by decide))))
  (e_Lok (e_rt (I := eI) (k := 1) ⟨(x_dk dn_231_0_ok 28 rfl), rfl⟩)))))))
def te_231 : Nat → eE := te_231_0
theorem te_231_ok : ∀ pc, e_EOq eft cls elay eI n_231 pc (te_231 pc) := te_231_0_ok
def dn_232_0 : List (Nat × Instr × Nat) := [(0, .aload_n 0, 1), (1, .iload_n 1, 1), (2, .invokevirtual 103, 3), (5, .ifCond .eq 25, 3), (8, .iload_n 2, 1), (9, .iconst 0, 1), (10, .aload_n 0, 1), (11, .getfield 27, 3), (14, .iload_n 1, 1), (15, .aaload, 1), (16, .getfield 240, 3), (19, .getfield 354, 3), (22, .iconst 1, 1), (23, .isub, 1), (24, .invokestatic 82, 3), (27, .ifCond .ne 5, 3), (30, .iconst (-1), 1), (31, .ireturn, 1), (32, .aload_n 0, 1), (33, .getfield 27, 3), (36, .iload_n 1, 1), (37, .aaload, 1), (38, .getfield 357, 3), (41, .iload_n 2, 1), (42, .iaload, 1), (43, .ireturn, 1)]
set_option maxRecDepth 20000 in
theorem dn_232_0_ok : dn_232_0.all (fun q => decide (decode prog_1_method_44_code q.1 = .ok (q.2.1, q.2.2))) = true := by decide +kernel
def te_232_0 : Nat → eE := (e_T 22 (e_T 9 (e_T 2 (e_T 0 (e_L 0 (0, ei_load 0 2 1, 0, 0)) (e_T 1 (e_L 1 (0, ei_load 1 0 2, 0, 0)) (e_L 2 (2, e_nof, 246, 2)))) (e_T 5 (e_L 5 (0, ei_if1 0 30 8, 0, 0)) (e_T 8 (e_L 8 (0, ei_load 2 0 9, 0, 0)) (e_L 9 (0, ei_push (0, 0) 10, 0, 0))))) (e_T 14 (e_T 10 (e_L 10 (0, ei_load 0 2 11, 0, 0)) (e_T 11 (e_L 11 (0, ei_getf eft elay 11 2 14, 0, 0)) (e_L 14 (0, ei_load 1 0 15, 0, 0)))) (e_T 16 (e_T 15 (e_L 15 (0, ei_aald elay 16, 0, 0)) (e_L 16 (0, ei_getf eft elay 0 7 19, 0, 0))) (e_T 19 (e_L 19 (0, ei_getf eft elay 1 2 22, 0, 0)) (e_L 22 (0, ei_push (0, 1) 23, 0, 0)))))) (e_T 32 (e_T 27 (e_T 23 (e_L 23 (0, ei_bin eF_sub 24, 0, 0)) (e_T 24 (e_L 24 (2, e_nof, 242, 3)) (e_L 27 (0, ei_if1 1 32 30, 0, 0)))) (e_T 30 (e_L 30 (0, ei_push (0, (-1)) 31, 0, 0)) (e_T 31 (e_L 31 (1, e_nof, 1, 0)) (e_L 32 (0, ei_load 0 2 33, 0, 0))))) (e_T 37 (e_T 33 (e_L 33 (0, ei_getf eft elay 11 2 36, 0, 0)) (e_T 36 (e_L 36 (0, ei_load 1 0 37, 0, 0)) (e_L 37 (0, ei_aald elay 38, 0, 0)))) (e_T 41 (e_T 38 (e_L 38 (0, ei_getf eft elay 0 6 41, 0, 0)) (e_L 41 (0, ei_load 2 0 42, 0, 0))) (e_T 42 (e_L 42 (0, ei_ald elay false 43, 0, 0)) (e_L 43 (1, e_nof, 1, 0)))))))
set_option maxRecDepth 20000 in
set_option maxHeartbeats 4000000 in
theorem te_232_0_ok : ∀ pc, e_EOq eft cls elay eI n_232 pc (te_232_0 pc) :=
  (e_Tok2
  (e_Tok2
  (e_Tok2
  (e_Tok2
  (e_Lok (e_st (I := eI) (er_aload_n (i := 0) (x_dk dn_232_0_ok 0 rfl))))
  (e_Tok2
  (e_Lok (e_st (I := eI) (er_iload_n (i := 1) (x_dk dn_232_0_ok 1 rfl))))
  (e_Lok (e_ca (I := eI) (q' := n_246) rfl (xr_callV (q' := n_246) (ix := 103) (n := 1) (in_t4 (List.mem_of_getElem? (i := 184) rfl) rfl) good_w (in_t1 (List.mem_of_getElem? (i := 1) rfl) rfl) (in_t4 (List.mem_of_getElem? (i := 181) rfl) rfl) (in_t4 (List.mem_of_getElem? (i := 183) rfl) rfl) (in_s1 (List.mem_of_getElem? (i := 8) rfl)) (by decide +kernel) (by decide +kernel) (by decide +kernel) (x_dk dn_232_0_ok 2 rfl))))))
  (e_Tok2
  (e_Lok (e_st (I := eI) (er_ifeq (off := 25) (tg := 30) (x_dk dn_232_0_ok 3 rfl) (by decide))))
  (e_Tok2
  (e_Lok (e_st (I := eI) (er_iload_n (i := 2) (x_dk dn_232_0_ok 4 rfl))))
  (e_Lok (e_st (I := eI) (er_iconst (n := 0) (z := 0) (v := 0) (x_dk dn_232_0_ok 5 rfl) (by decide) (by decide)))))))
  (e_Tok2
  (e_Tok2
  (e_Lok (e_st (I := eI) (er_aload_n (i := 0) (x_dk dn_232_0_ok 6 rfl))))
  (e_Tok2
  (e_Lok (e_st (I := eI) (er_getf (ci := 11) (k := 2) (ix := 27) (N := 15) (C := RX11) (T := TX11) rfl in_X11 (by decide) (in_t4 (List.mem_of_getElem? (i := 110) rfl) rfl) (x_dk dn_232_0_ok 7 rfl))))
  (e_Lok (e_st (I := eI) (er_iload_n (i := 1) (x_dk dn_232_0_ok 8 rfl))))))
  (e_Tok2
  (e_Tok2
  (e_Lok (e_st (I := eI) (er_aaload (x_dk dn_232_0_ok 9 rfl))))
  (e_Lok (e_st (I := eI) (er_getf (ci := 0) (k := 7) (ix := 240) (N := 20) (C := RX0) (T := TX0) rfl in_X0 (by decide) (in_t2 (List.mem_of_getElem? (i := 167) rfl) rfl) (x_dk dn_232_0_ok 10 rfl)))))
  (e_Tok2
  (e_Lok (e_st (I := eI) (er_getf (ci := 1) (k := 2) (ix := 354) (N := 5) (C := RX1) (T := TX1) rfl in_X1 (by decide) (in_t1 (List.mem_of_getElem? (i := 48) rfl) rfl) (x_dk dn_232_0_ok 11 rfl))))
  (e_Lok (e_st (I := eI) (er_iconst (n := 1) (z := 1) (v := 1) (x_dk dn_232_0_ok 12 rfl) (by decide) (by decide))))))))
  (e_Tok2
  (e_Tok2
  (e_Tok2
  (e_Lok (e_st (I := eI) (er_isub (x_dk dn_232_0_ok 13 rfl))))
  (e_Tok2
  (e_Lok (e_ca (I := eI) (q' := n_242) rfl (xr_callS (q' := n_242) (ix := 82) (n := 3) (in_t4 (List.mem_of_getElem? (i := 168) rfl) rfl) good_w (in_t1 (List.mem_of_getElem? (i := 1) rfl) rfl) (in_t4 (List.mem_of_getElem? (i := 166) rfl) rfl) (in_t4 (List.mem_of_getElem? (i := 167) rfl) rfl) (by decide +kernel) (by decide +kernel) (x_dk dn_232_0_ok 14 rfl))))
  (e_Lok (e_st (I := eI) (er_ifne (off := 5) (tg := 32) (x_dk dn_232_0_ok 15 rfl) (by decide))))))
  (e_Tok2
  (e_Lok (e_st (I := eI) (er_iconst (n := (-1)) (z := (-1)) (v := (-1)) (x_dk dn_232_0_ok 16 rfl) (by decide) (by decide))))
  (e_Tok2
  (e_Lok (e_rt (I := eI) (k := 1) ⟨(x_dk dn_232_0_ok 17 rfl), rfl⟩))
  (e_Lok (e_st (I := eI) (er_aload_n (i := 0) (x_dk dn_232_0_ok 18 rfl)))))))
  (e_Tok2
  (e_Tok2
  (e_Lok (e_st (I := eI) (er_getf (ci := 11) (k := 2) (ix := 27) (N := 15) (C := RX11) (T := TX11) rfl in_X11 (by decide) (in_t4 (List.mem_of_getElem? (i := 110) rfl) rfl) (x_dk dn_232_0_ok 19 rfl))))
  (e_Tok2
  (e_Lok (e_st (I := eI) (er_iload_n (i := 1) (x_dk dn_232_0_ok 20 rfl))))
  (e_Lok (e_st (I := eI) (er_aaload (x_dk dn_232_0_ok 21 rfl))))))
  (e_Tok2
  (e_Tok2
  (e_Lok (e_st (I := eI) (er_getf (ci := 0) (k := 6) (ix := 357) (N := 20) (C := RX0) (T := TX0) rfl in_X0 (by decide) (in_t2 (List.mem_of_getElem? (i := 164) rfl) rfl) (x_dk dn_232_0_ok 22 rfl))))
  (e_Lok (e_st (I := eI) (er_iload_n (i := 2) (x_dk dn_232_0_ok 23 rfl)))))
  (e_Tok2
  (e_Lok (e_st (I := eI) (er_iaload (x_dk dn_232_0_ok 24 rfl))))
  (e_Lok (e_rt (I := eI) (k := 1) ⟨(x_dk dn_232_0_ok 25 rfl), rfl⟩)))))))
def te_232 : Nat → eE := te_232_0
theorem te_232_ok : ∀ pc, e_EOq eft cls elay eI n_232 pc (te_232 pc) := te_232_0_ok
def dn_233_0 : List (Nat × Instr × Nat) := [(0, .iload_n 1, 1), (1, .invokestatic 178, 3), (4, .ifCond .ne 5, 3), (7, .iconst (-1), 1), (8, .ireturn, 1), (9, .iload_n 2, 1), (10, .tableswitch 56 0 2 #[26, 36, 46], 26), (36, .aload_n 0, 1), (37, .getfield 32, 3), (40, .getfield 360, 3), (43, .iload_n 1, 1), (44, .iaload, 1), (45, .ireturn, 1), (46, .aload_n 0, 1), (47, .getfield 32, 3), (50, .getfield 362, 3), (53, .iload_n 1, 1), (54, .iaload, 1), (55, .ireturn, 1), (56, .aload_n 0, 1), (57, .getfield 32, 3), (60, .getfield 365, 3), (63, .iload_n 1, 1), (64, .iaload, 1), (65, .ireturn, 1), (66, .iconst (-1), 1), (67, .ireturn, 1)]
set_option maxRecDepth 20000 in
theorem dn_233_0_ok : dn_233_0.all (fun q => decide (decode prog_1_method_45_code q.1 = .ok (q.2.1, q.2.2))) = true := by decide +kernel
def te_233_0 : Nat → eE := (e_T 45 (e_T 9 (e_T 4 (e_T 0 (e_L 0 (0, ei_load 1 0 1, 0, 0)) (e_T 1 (e_L 1 (2, e_nof, 245, 1)) (e_L 4 (0, ei_if1 1 9 7, 0, 0)))) (e_T 7 (e_L 7 (0, ei_push (0, (-1)) 8, 0, 0)) (e_T 8 (e_L 8 (1, e_nof, 1, 0)) (e_L 9 (0, ei_load 2 0 10, 0, 0))))) (e_T 37 (e_T 10 (e_L 10 (0, ei_sw [((-2147483648), (-1), 66), (0, 0, 36), (1, 1, 46), (2, 2, 56), (3, 2147483647, 66)], 0, 0)) (e_T 36 (e_L 36 (0, ei_load 0 2 37, 0, 0)) (e_L 37 (0, ei_getf eft elay 11 3 40, 0, 0)))) (e_T 43 (e_T 40 (e_L 40 (0, ei_getf eft elay 7 1 43, 0, 0)) (e_L 43 (0, ei_load 1 0 44, 0, 0))) (e_T 44 (e_L 44 (0, ei_ald elay false 45, 0, 0)) (e_L 45 (1, e_nof, 1, 0)))))) (e_T 56 (e_T 50 (e_T 46 (e_L 46 (0, ei_load 0 2 47, 0, 0)) (e_T 47 (e_L 47 (0, ei_getf eft elay 11 3 50, 0, 0)) (e_L 50 (0, ei_getf eft elay 7 0 53, 0, 0)))) (e_T 54 (e_T 53 (e_L 53 (0, ei_load 1 0 54, 0, 0)) (e_L 54 (0, ei_ald elay false 55, 0, 0))) (e_T 55 (e_L 55 (1, e_nof, 1, 0)) (e_L 56 (0, ei_load 0 2 57, 0, 0))))) (e_T 63 (e_T 57 (e_L 57 (0, ei_getf eft elay 11 3 60, 0, 0)) (e_T 60 (e_L 60 (0, ei_getf eft elay 7 2 63, 0, 0)) (e_L 63 (0, ei_load 1 0 64, 0, 0)))) (e_T 65 (e_T 64 (e_L 64 (0, ei_ald elay false 65, 0, 0)) (e_L 65 (1, e_nof, 1, 0))) (e_T 66 (e_L 66 (0, ei_push (0, (-1)) 67, 0, 0)) (e_L 67 (1, e_nof, 1, 0)))))))
set_option maxRecDepth 20000 in
set_option maxHeartbeats 4000000 in
theorem te_233_0_ok : ∀ pc, e_EOq eft cls elay eI n_233 pc (te_233_0 pc) :=
  (e_Tok2
  (e_Tok2
  (e_Tok2
  (e_Tok2
  (e_Lok (e_st (I := eI) (er_iload_n (i := 1) (x_dk dn_233_0_ok 0 rfl))))
  (e_Tok2
  (e_Lok (e_ca (I := eI) (q' := n_245) rfl (xr_callS (q' := n_245) (ix := 178) (n := 1) (in_t5 (List.mem_of_getElem? (i := 22) rfl) rfl) good_w (in_t1 (List.mem_of_getElem? (i := 1) rfl) rfl) (in_t5 (List.mem_of_getElem? (i := 20) rfl) rfl) (in_t5 (List.mem_of_getElem? (i := 21) rfl) rfl) (by decide +kernel) (by decide +kernel) (x_dk dn_233_0_ok 1 rfl))))
  (e_Lok (e_st (I := eI) (er_ifne (off := 5) (tg := 9) (x_dk dn_233_0_ok 2 rfl) (by decide))))))
  (e_Tok2
  (e_Lok (e_st (I := eI) (er_iconst (n := (-1)) (z := (-1)) (v := (-1)) (x_dk dn_233_0_ok 3 rfl) (by decide) (by decide))))
  (e_Tok2
  (e_Lok (e_rt (I := eI) (k := 1) ⟨(x_dk dn_233_0_ok 4 rfl), rfl⟩))
  (e_Lok (e_st (I := eI) (er_iload_n (i := 2) (x_dk dn_233_0_ok 5 rfl)))))))
  (e_Tok2
  (e_Tok2
  (e_Lok (e_st (I := eI) (er_tsw (dflt := 56) (lo := 0) (hi := 2) (offs := #[26, 36, 46]) (len := 26) (n := 3) (x_dk dn_233_0_ok 6 rfl) (by decide) (by decide +kernel))))
  (e_Tok2
  (e_Lok (e_st (I := eI) (er_aload_n (i := 0) (x_dk dn_233_0_ok 7 rfl))))
  (e_Lok (e_st (I := eI) (er_getf (ci := 11) (k := 3) (ix := 32) (N := 15) (C := RX11) (T := TX11) rfl in_X11 (by decide) (in_t4 (List.mem_of_getElem? (i := 111) rfl) rfl) (x_dk dn_233_0_ok 8 rfl))))))
  (e_Tok2
  (e_Tok2
  (e_Lok (e_st (I := eI) (er_getf (ci := 7) (k := 1) (ix := 360) (N := 8) (C := RX7) (T := TX7) rfl in_X7 (by decide) (in_t1 (List.mem_of_getElem? (i := 140) rfl) rfl) (x_dk dn_233_0_ok 9 rfl))))
  (e_Lok (e_st (I := eI) (er_iload_n (i := 1) (x_dk dn_233_0_ok 10 rfl)))))
  (e_Tok2
  (e_Lok (e_st (I := eI) (er_iaload (x_dk dn_233_0_ok 11 rfl))))
  (e_Lok (e_rt (I := eI) (k := 1) ⟨(x_dk dn_233_0_ok 12 rfl), rfl⟩))))))
  (e_Tok2
  (e_Tok2
  (e_Tok2
  (e_Lok (e_st (I := eI) (er_aload_n (i := 0) (x_dk dn_233_0_ok 13 rfl))))
  (e_Tok2
  (e_Lok (e_st (I := eI) (er_getf (ci := 11) (k := 3) (ix := 32) (N := 15) (C := RX11) (T := TX11) rfl in_X11 (by decide) (in_t4 (List.mem_of_getElem? (i := 111) rfl) rfl) (x_dk dn_233_0_ok 14 rfl))))
  (e_Lok (e_st (I := eI) (er_getf (ci := 7) (k := 0) (ix := 362) (N := 8) (C := RX7) (T := TX7) rfl in_X7 (by decide) (in_t1 (List.mem_of_getElem? (i := 137) rfl) rfl) (x_dk dn_233_0_ok 15 rfl))))))
  (e_Tok2
  (e_Tok2
  (e_Lok (e_st (I := eI) (er_iload_n (i := 1) (x_dk dn_233_0_ok 16 rfl))))
  (e_Lok (e_st (I := eI) (er_iaload (x_dk dn_233_0_ok 17 rfl)))))
  (e_Tok2
  (e_Lok (e_rt (I := eI) (k := 1) ⟨(x_dk dn_233_0_ok 18 rfl), rfl⟩))
  (e_Lok (e_st (I := eI) (er_aload_n (i := 0) (x_dk dn_233_0_ok 19 rfl)))))))
  (e_Tok2
  (e_Tok2
  (e_Lok (e_st (I := eI) (er_getf (ci := 11) (k := 3) (ix := 32) (N := 15) (C := RX11) (T := TX11) rfl in_X11 (by decide) (in_t4 (List.mem_of_getElem? (i := 111) rfl) rfl) (x_dk dn_233_0_ok 20 rfl))))
  (e_Tok2
  (e_Lok (e_st (I := eI) (er_getf (ci := 7) (k := 2) (ix := 365) (N := 8) (C := RX7) (T := TX7) rfl in_X7 (by decide) (in_t1 (List.mem_of_getElem? (i := 143) rfl) rfl) (x_dk dn_233_0_ok 21 rfl))))
  (e_Lok (e_st (I := eI) (er_iload_n (i := 1) (x_dk dn_233_0_ok 22 rfl))))))
  (e_Tok2
  (e_Tok2
  (e_Lok (e_st (I := eI) (er_iaload (x_dk dn_233_0_ok 23 rfl))))
  (e_Lok (e_rt (I := eI) (k := 1) ⟨(x_dk dn_233_0_ok 24 rfl), rfl⟩)))
  (e_Tok2
  (e_Lok (e_st (I := eI) (er_iconst (n := (-1)) (z := (-1)) (v := (-1)) (x_dk dn_233_0_ok 25 rfl) (by decide) (by decide))))
  (e_Lok (e_rt (I := eI) (k := 1) ⟨(x_dk dn_233_0_ok 26 rfl), rfl⟩)))))))
def te_233 : Nat → eE := te_233_0
theorem te_233_ok : ∀ pc, e_EOq eft cls elay eI n_233 pc (te_233 pc) := te_233_0_ok
def dn_234_0 : List (Nat × Instr × Nat) := [(0, .iload_n 1, 1), (1, .iconst 0, 1), (2, .bipush 7, 2), (4, .invokestatic 82, 3), (7, .ifCond .eq 15, 3), (10, .aload_n 0, 1), (11, .getfield 19, 3), (14, .getfield 368, 3), (17, .iload_n 1, 1), (18, .iaload, 1), (19, .goto 4, 3), (22, .iconst (-1), 1), (23, .ireturn, 1)]
set_option maxRecDepth 20000 in
theorem dn_234_0_ok : dn_234_0.all (fun q => decide (decode prog_1_method_46_code q.1 = .ok (q.2.1, q.2.2))) = true := by decide +kernel
def te_234_0 : Nat → eE := (e_T 10 (e_T 2 (e_T 0 (e_L 0 (0, ei_load 1 0 1, 0, 0)) (e_T 1 (e_L 1 (0, ei_push (0, 0) 2, 0, 0)) (e_L 2 (0, ei_push (0, 7) 4, 0, 0)))) (e_T 4 (e_L 4 (2, e_nof, 242, 3)) (e_T 7 (e_L 7 (0, ei_if1 0 22 10, 0, 0)) (e_L 10 (0, ei_load 0 2 11, 0, 0))))) (e_T 17 (e_T 11 (e_L 11 (0, ei_getf eft elay 11 1 14, 0, 0)) (e_T 14 (e_L 14 (0, ei_getf eft elay 3 5 17, 0, 0)) (e_L 17 (0, ei_load 1 0 18, 0, 0)))) (e_T 19 (e_T 18 (e_L 18 (0, ei_ald elay false 19, 0, 0)) (e_L 19 (0, ei_goto 23, 0, 0))) (e_T 22 (e_L 22 (0, ei_push (0, (-1)) 23, 0, 0)) (e_L 23 (1, e_nof, 1, 0))))))
set_option maxRecDepth 20000 in
set_option maxHeartbeats 4000000 in
theorem te_234_0_ok : ∀ pc, e_EOq eft cls elay eI n_234 pc (te_234_0 pc) :=
  (e_Tok2
  (e_Tok2
  (e_Tok2
  (e_Lok (e_st (I := eI) (er_iload_n (i := 1) (x_dk dn_234_0_ok 0 rfl))))
  (e_Tok2
  (e_Lok (e_st (I := eI) (er_iconst (n := 0) (z := 0) (v := 0) (x_dk dn_234_0_ok 1 rfl) (by decide) (by decide))))
  (e_Lok (e_st (I := eI) (er_bipush (n := 7) (z := 7) (v := 7) (x_dk dn_234_0_ok 2 rfl) (by decide) (by decide))))))
  (e_Tok2
  (e_Lok (e_ca (I := eI) (q' := n_242) rfl (xr_callS (q' := n_242) (ix := 82) (n := 3) (in_t4 (List.mem_of_getElem? (i := 168) rfl) rfl) good_w (in_t1 (List.mem_of_getElem? (i := 1) rfl) rfl) (in_t4 (List.mem_of_getElem? (i := 166) rfl) rfl) (in_t4 (List.mem_of_getElem? (i := 167) rfl) rfl) (by decide +kernel) (by decide +kernel) (x_dk dn_234_0_ok 3 rfl))))
  (e_Tok2
  (e_Lok (e_st (I := eI) (er_ifeq (off := 15) (tg := 22) (x_dk dn_234_0_ok 4 rfl) (by decide))))
  (e_Lok (e_st (I := eI) (er_aload_n (i := 0) (x_dk dn_234_0_ok 5 rfl)))))))
  (e_Tok2
  (e_Tok2
  (e_Lok (e_st (I := eI) (er_getf (ci := 11) (k := 1) (ix := 19) (N := 15) (C := RX11) (T := TX11) rfl in_X11 (by decide) (in_t4 (List.mem_of_getElem? (i := 109) rfl) rfl) (x_dk dn_234_0_ok 6 rfl))))
  (e_Tok2
  (e_Lok (e_st (I := eI) (er_getf (ci := 3) (k := 5) (ix := 368) (N := 12) (C := RX3) (T := TX3) rfl in_X3 (by decide) (in_t3 (List.mem_of_getElem? (i := 99) rfl) rfl) (x_dk dn_234_0_ok 7 rfl))))
  (e_Lok (e_st (I := eI) (er_iload_n (i := 1) (x_dk dn_234_0_ok 8 rfl))))))
  (e_Tok2
  (e_Tok2
  (e_Lok (e_st (I := eI) (er_iaload (x_dk dn_234_0_ok 9 rfl))))
  (e_Lok (e_st (I := eI) (er_goto (off := 4) (tg := 23) (x_dk dn_234_0_ok 10 rfl) (by decide)))))
  (e_Tok2
  (e_Lok (e_st (I := eI) (er_iconst (n := (-1)) (z := (-1)) (v := (-1)) (x_dk dn_234_0_ok 11 rfl) (by decide) (by decide))))
  (e_Lok (e_rt (I := eI) (k := 1) ⟨(x_dk dn_234_0_ok 12 rfl), rfl⟩))))))
def te_234 : Nat → eE := te_234_0
theorem te_234_ok : ∀ pc, e_EOq eft cls elay eI n_234 pc (te_234 pc) := te_234_0_ok
def dn_235_0 : List (Nat × Instr × Nat) := [(0, .iload_n 1, 1), (1, .iconst 0, 1), (2, .aload_n 0, 1), (3, .getfield 37, 3), (6, .getfield 371, 3), (9, .iconst 1, 1), (10, .isub, 1), (11, .invokestatic 82, 3), (14, .ifCond .ne 5, 3), (17, .iconst (-1), 1), (18, .ireturn, 1), (19, .aload_n 0, 1), (20, .getfield 37, 3), (23, .getfield 374, 3), (26, .iload_n 1, 1), (27, .iaload, 1), (28, .istore_n 3, 1), (29, .iload_n 3, 1), (30, .iconst 4, 1), (31, .bipush 7, 2), (33, .invokestatic 82, 3), (36, .ifCond .eq 14, 3), (39, .aload_n 0, 1), (40, .getfield 27, 3), (43, .iload_n 3, 1), (44, .iconst 4, 1), (45, .isub, 1), (46, .aaload, 1), (47, .goto 4, 3), (50, .aconst_null, 1), (51, .astore 4, 2), (53, .iload_n 2, 1), (54, .tableswitch 107 0 3 #[30, 32, 60, 88], 30), (84, .iload_n 3, 1), (85, .ireturn, 1), (86, .aload 4, 2), (88, .ifnull 17, 3), (91, .aload 4, 2), (93, .getfield 329, 3), (96, .aload 4, 2), (98, .getfield 112, 3), (101, .iaload, 1), (102, .goto 11, 3), (105, .aload_n 0, 1), (106, .getfield 37, 3), (109, .iload_n 1, 1), (110, .invokevirtual 377, 3), (113, .ireturn, 1), (114, .aload 4, 2), (116, .ifnull 17, 3), (119, .aload 4, 2), (121, .getfield 332, 3), (124, .aload 4, 2), (126, .getfield 112, 3), (129, .iaload, 1), (130, .goto 11, 3), (133, .aload_n 0, 1), (134, .getfield 37, 3), (137, .iload_n 1, 1), (138, .invokevirtual 380, 3), (141, .ireturn, 1), (142, .iload_n 3, 1), (143, .iconst 4, 1), (144, .if_icmp .ge 15, 3), (147, .aload_n 0, 1), (148, .getfield 37, 3), (151, .getfield 383, 3), (154, .iload_n 1, 1), (155, .iaload, 1), (156, .goto 4, 3), (159, .iconst 0, 1), (160, .ireturn, 1), (161, .iconst (-1), 1), (162, .ireturn, 1)]
set_option maxRecDepth 20000 in
theorem dn_235_0_ok : dn_235_0.all (fun q => decide (decode prog_1_method_47_code q.1 = .ok (q.2.1, q.2.2))) = true := by decide +kernel
def te_235_0 : Nat → eE := (e_T 29 (e_T 14 (e_T 3 (e_T 1 (e_T 0 (e_L 0 (0, ei_load 1 0 1, 0, 0)) (e_L 1 (0, ei_push (0, 0) 2, 0, 0))) (e_T 2 (e_L 2 (0, ei_load 0 2 3, 0, 0)) (e_L 3 (0, ei_getf eft elay 11 4 6, 0, 0)))) (e_T 9 (e_T 6 (e_L 6 (0, ei_getf eft elay 4 1 9, 0, 0)) (e_L 9 (0, ei_push (0, 1) 10, 0, 0))) (e_T 10 (e_L 10 (0, ei_bin eF_sub 11, 0, 0)) (e_T 11 (e_L 11 (2, e_nof, 242, 3)) (e_L 14 (0, ei_if1 1 19 17, 0, 0)))))) (e_T 20 (e_T 18 (e_T 17 (e_L 17 (0, ei_push (0, (-1)) 18, 0, 0)) (e_L 18 (1, e_nof, 1, 0))) (e_T 19 (e_L 19 (0, ei_load 0 2 20, 0, 0)) (e_L 20 (0, ei_getf eft elay 11 4 23, 0, 0)))) (e_T 26 (e_T 23 (e_L 23 (0, ei_getf eft elay 4 14 26, 0, 0)) (e_L 26 (0, ei_load 1 0 27, 0, 0))) (e_T 27 (e_L 27 (0, ei_ald elay false 28, 0, 0)) (e_T 28 (e_L 28 (0, ei_stor 3 0 29, 0, 0)) (e_L 29 (0, ei_load 3 0 30, 0, 0))))))) (e_T 45 (e_T 36 (e_T 31 (e_T 30 (e_L 30 (0, ei_push (0, 4) 31, 0, 0)) (e_L 31 (0, ei_push (0, 7) 33, 0, 0))) (e_T 33 (e_L 33 (2, e_nof, 242, 3)) (e_L 36 (0, ei_if1 0 50 39, 0, 0)))) (e_T 40 (e_T 39 (e_L 39 (0, ei_load 0 2 40, 0, 0)) (e_L 40 (0, ei_getf eft elay 11 2 43, 0, 0))) (e_T 43 (e_L 43 (0, ei_load 3 0 44, 0, 0)) (e_T 44 (e_L 44 (0, ei_push (0, 4) 45, 0, 0)) (e_L 45 (0, ei_bin eF_sub 46, 0, 0)))))) (e_T 53 (e_T 47 (e_T 46 (e_L 46 (0, ei_aald elay 47, 0, 0)) (e_L 47 (0, ei_goto 51, 0, 0))) (e_T 50 (e_L 50 (0, ei_push (2, 0) 51, 0, 0)) (e_T 51 (e_L 51 (0, ei_stor 4 2 53, 0, 0)) (e_L 53 (0, ei_load 2 0 54, 0, 0))))) (e_T 84 (e_T 54 (e_L 54 (0, ei_sw [((-2147483648), (-1), 161), (0, 0, 84), (1, 1, 86), (2, 2, 114), (3, 3, 142), (4, 2147483647, 161)], 0, 0)) (e_L 84 (0, ei_load 3 0 85, 0, 0))) (e_T 85 (e_L 85 (1, e_nof, 1, 0)) (e_T 86 (e_L 86 (0, ei_load 4 2 88, 0, 0)) (e_L 88 (0, ei_null 105 91, 0, 0))))))))
set_option maxRecDepth 20000 in
set_option maxHeartbeats 4000000 in
theorem te_235_0_ok : ∀ pc, e_EOq eft cls elay eI n_235 pc (te_235_0 pc) :=
  (e_Tok2
  (e_Tok2
  (e_Tok2
  (e_Tok2
  (e_Tok2
  (e_Lok (e_st (I := eI) (er_iload_n (i := 1) (x_dk dn_235_0_ok 0 rfl))))
  (e_Lok (e_st (I := eI) (er_iconst (n := 0) (z := 0) (v := 0) (x_dk dn_235_0_ok 1 rfl) (by decide) (by decide)))))
  (e_Tok2
  (e_Lok (e_st (I := eI) (er_aload_n (i := 0) (x_dk dn_235_0_ok 2 rfl))))
  (e_Lok (e_st (I := eI) (er_getf (ci := 11) (k := 4) (ix := 37) (N := 15) (C := RX11) (T := TX11) rfl in_X11 (by decide) (in_t4 (List.mem_of_getElem? (i := 112) rfl) rfl) (x_dk dn_235_0_ok 3 rfl))))))
  (e_Tok2
  (e_Tok2
  (e_Lok (e_st (I := eI) (er_getf (ci := 4) (k := 1) (ix := 371) (N := 20) (C := RX4) (T := TX4) rfl in_X4 (by decide) (in_t1 (List.mem_of_getElem? (i := 178) rfl) rfl) (x_dk dn_235_0_ok 4 rfl))))
  (e_Lok (e_st (I := eI) (er_iconst (n := 1) (z := 1) (v := 1) (x_dk dn_235_0_ok 5 rfl) (by decide) (by decide)))))
  (e_Tok2
  (e_Lok (e_st (I := eI) (er_isub (x_dk dn_235_0_ok 6 rfl))))
  (e_Tok2
  (e_Lok (e_ca (I := eI) (q' := n_242) rfl (xr_callS (q' := n_242) (ix := 82) (n := 3) (in_t4 (List.mem_of_getElem? (i := 168) rfl) rfl) good_w (in_t1 (List.mem_of_getElem? (i := 1) rfl) rfl) (in_t4 (List.mem_of_getElem? (i := 166) rfl) rfl) (in_t4 (List.mem_of_getElem? (i := 167) rfl) rfl) (by decide +kernel) (by decide +kernel) (x_dk dn_235_0_ok 7 rfl))))
  (e_Lok (e_st (I := eI) (er_ifne (off := 5) (tg := 19) (x_dk dn_235_0_ok 8 rfl) (by decide))))))))
  (e_Tok2
  (e_Tok2
  (e_Tok2
  (e_Lok (e_st (I := eI) (er_iconst (n := (-1)) (z := (-1)) (v := (-1)) (x_dk dn_235_0_ok 9 rfl) (by decide) (by decide))))
  (e_Lok (e_rt (I := eI) (k := 1) ⟨(x_dk dn_235_0_ok 10 rfl), rfl⟩)))
  (e_Tok2
  (e_Lok (e_st (I := eI) (er_aload_n (i := 0) (x_dk dn_235_0_ok 11 rfl))))
  (e_Lok (e_st (I := eI) (er_getf (ci := 11) (k := 4) (ix := 37) (N := 15) (C := RX11) (T := TX11) rfl in_X11 (by decide) (in_t4 (List.mem_of_getElem? (i := 112) rfl) rfl) (x_dk dn_235_0_ok 12 rfl))))))
  (e_Tok2
  (e_Tok2
  (e_Lok (e_st (I := eI) (er_getf (ci := 4) (k := 14) (ix := 374) (N := 20) (C := RX4) (T := TX4) rfl in_X4 (by decide) (in_t1 (List.mem_of_getElem? (i := 197) rfl) rfl) (x_dk dn_235_0_ok 13 rfl))))
  (e_Lok (e_st (I := eI) (er_iload_n (i := 1) (x_dk dn_235_0_ok 14 rfl)))))
  (e_Tok2
  (e_Lok (e_st (I := eI) (er_iaload (x_dk dn_235_0_ok 15 rfl))))
  (e_Tok2
  (e_Lok (e_st (I := eI) (er_istore_n (i := 3) (x_dk dn_235_0_ok 16 rfl) (by decide +kernel))))
  (e_Lok (e_st (I := eI) (er_iload_n (i := 3) (x_dk dn_235_0_ok 17 rfl)))))))))
  (e_Tok2
  (e_Tok2
  (e_Tok2
  (e_Tok2
  (e_Lok (e_st (I := eI) (er_iconst (n := 4) (z := 4) (v := 4) (x_dk dn_235_0_ok 18 rfl) (by decide) (by decide))))
  (e_Lok (e_st (I := eI) (er_bipush (n := 7) (z := 7) (v := 7) (x_dk dn_235_0_ok 19 rfl) (by decide) (by decide)))))
  (e_Tok2
  (e_Lok (e_ca (I := eI) (q' := n_242) rfl (xr_callS (q' := n_242) (ix := 82) (n := 3) (in_t4 (List.mem_of_getElem? (i := 168) rfl) rfl) good_w (in_t1 (List.mem_of_getElem? (i := 1) rfl) rfl) (in_t4 (List.mem_of_getElem? (i := 166) rfl) rfl) (in_t4 (List.mem_of_getElem? (i := 167) rfl) rfl) (by decide +kernel) (by decide +kernel) (x_dk dn_235_0_ok 20 rfl))))
  (e_Lok (e_st (I := eI) (er_ifeq (off := 14) (tg := 50) (x_dk dn_235_0_ok 21 rfl) (by decide))))))
  (e_Tok2
  (e_Tok2
  (e_Lok (e_st (I := eI) (er_aload_n (i := 0) (x_dk dn_235_0_ok 22 rfl))))
  (e_Lok (e_st (I := eI) (er_getf (ci := 11) (k := 2) (ix := 27) (N := 15) (C := RX11) (T := TX11) rfl in_X11 (by decide) (in_t4 (List.mem_of_getElem? (i := 110) rfl) rfl) (x_dk dn_235_0_ok 23 rfl)))))
  (e_Tok2
  (e_Lok (e_st (I := eI) (er_iload_n (i := 3) (x_dk dn_235_0_ok 24 rfl))))
  (e_Tok2
  (e_Lok (e_st (I := eI) (er_iconst (n := 4) (z := 4) (v := 4) (x_dk dn_235_0_ok 25 rfl) (by decide) (by decide))))
  (e_Lok (e_st (I := eI) (er_isub (x_dk dn_235_0_ok 26 rfl))))))))
  (e_Tok2
  (e_Tok2
  (e_Tok2
  (e_Lok (e_st (I := eI) (er_aaload (x_dk dn_235_0_ok 27 rfl))))
  (e_Lok (e_st (I := eI) (er_goto (off := 4) (tg := 51) (x_dk dn_235_0_ok 28 rfl) (by decide)))))
  (e_Tok2
  (e_Lok (e_st (I := eI) (er_null (x_dk dn_235_0_ok 29 rfl))))
  (e_Tok2
  (e_Lok (e_st (I := eI) (er_astore (i := 4) (x_dk dn_235_0_ok 30 rfl) (by decide +kernel))))
  (e_Lok (e_st (I := eI) (er_iload_n (i := 2) (x_dk dn_235_0_ok 31 rfl)))))))
  (e_Tok2
  (e_Tok2
  (e_Lok (e_st (I := eI) (er_tsw (dflt := 107) (lo := 0) (hi := 3) (offs := #[30, 32, 60, 88]) (len := 30) (n := 4) (x_dk dn_235_0_ok 32 rfl) (by decide) (by decide +kernel))))
  (e_Lok (e_st (I := eI) (er_iload_n (i := 3) (x_dk dn_235_0_ok 33 rfl)))))
  (e_Tok2
  (e_Lok (e_rt (I := eI) (k := 1) ⟨(x_dk dn_235_0_ok 34 rfl), rfl⟩))
  (e_Tok2
  (e_Lok (e_st (I := eI) (er_aload (i := 4) (x_dk dn_235_0_ok 35 rfl))))
  (e_Lok (e_st (I := eI) (er_ifnull (off := 17) (tg := 105) (x_dk dn_235_0_ok 36 rfl) (by decide))))))))))
def te_235_37 : Nat → eE := (e_T 129 (e_T 109 (e_T 98 (e_T 93 (e_T 91 (e_L 91 (0, ei_load 4 2 93, 0, 0)) (e_L 93 (0, ei_getf eft elay 0 1 96, 0, 0))) (e_T 96 (e_L 96 (0, ei_load 4 2 98, 0, 0)) (e_L 98 (0, ei_getf eft elay 0 8 101, 0, 0)))) (e_T 102 (e_T 101 (e_L 101 (0, ei_ald elay false 102, 0, 0)) (e_L 102 (0, ei_goto 113, 0, 0))) (e_T 105 (e_L 105 (0, ei_load 0 2 106, 0, 0)) (e_T 106 (e_L 106 (0, ei_getf eft elay 11 4 109, 0, 0)) (e_L 109 (0, ei_load 1 0 110, 0, 0)))))) (e_T 116 (e_T 113 (e_T 110 (e_L 110 (2, e_nof, 81, 2)) (e_L 113 (1, e_nof, 1, 0))) (e_T 114 (e_L 114 (0, ei_load 4 2 116, 0, 0)) (e_L 116 (0, ei_null 133 119, 0, 0)))) (e_T 121 (e_T 119 (e_L 119 (0, ei_load 4 2 121, 0, 0)) (e_L 121 (0, ei_getf eft elay 0 2 124, 0, 0))) (e_T 124 (e_L 124 (0, ei_load 4 2 126, 0, 0)) (e_T 126 (e_L 126 (0, ei_getf eft elay 0 8 129, 0, 0)) (e_L 129 (0, ei_ald elay false 130, 0, 0))))))) (e_T 144 (e_T 137 (e_T 133 (e_T 130 (e_L 130 (0, ei_goto 141, 0, 0)) (e_L 133 (0, ei_load 0 2 134, 0, 0))) (e_T 134 (e_L 134 (0, ei_getf eft elay 11 4 137, 0, 0)) (e_L 137 (0, ei_load 1 0 138, 0, 0)))) (e_T 141 (e_T 138 (e_L 138 (2, e_nof, 82, 2)) (e_L 141 (1, e_nof, 1, 0))) (e_T 142 (e_L 142 (0, ei_load 3 0 143, 0, 0)) (e_T 143 (e_L 143 (0, ei_push (0, 4) 144, 0, 0)) (e_L 144 (0, ei_if2 3 159 147, 0, 0)))))) (e_T 155 (e_T 148 (e_T 147 (e_L 147 (0, ei_load 0 2 148, 0, 0)) (e_L 148 (0, ei_getf eft elay 11 4 151, 0, 0))) (e_T 151 (e_L 151 (0, ei_getf eft elay 4 15 154, 0, 0)) (e_T 154 (e_L 154 (0, ei_load 1 0 155, 0, 0)) (e_L 155 (0, ei_ald elay false 156, 0, 0))))) (e_T 159 (e_T 156 (e_L 156 (0, ei_goto 160, 0, 0)) (e_L 159 (0, ei_push (0, 0) 160, 0, 0))) (e_T 160 (e_L 160 (1, e_nof, 1, 0)) (e_T 161 (e_L 161 (0, ei_push (0, (-1)) 162, 0, 0)) (e_L 162 (1, e_nof, 1, 0))))))))
set_option maxRecDepth 20000 in
set_option maxHeartbeats 4000000 in
theorem te_235_37_ok : ∀ pc, e_EOq eft cls elay eI n_235 pc (te_235_37 pc) :=
  (e_Tok2
  (e_Tok2
  (e_Tok2
  (e_Tok2
  (e_Tok2
  (e_Lok (e_st (I := eI) (er_aload (i := 4) (x_dk dn_235_0_ok 37 rfl))))
  (e_Lok (e_st (I := eI) (er_getf (ci := 0) (k := 1) (ix := 329) (N := 20) (C := RX0) (T := TX0) rfl in_X0 (by decide) (in_t2 (List.mem_of_getElem? (i := 151) rfl) rfl) (x_dk dn_235_0_ok 38 rfl)))))
  (e_Tok2
  (e_Lok (e_st (I := eI) (er_aload (i := 4) (x_dk dn_235_0_ok 39 rfl))))
  (e_Lok (e_st (I := eI) (er_getf (ci := 0) (k := 8) (ix := 112) (N := 20) (C := RX0) (T := TX0) rfl in_X0 (by decide) (in_t2 (List.mem_of_getElem? (i := 171) rfl) rfl) (x_dk dn_235_0_ok 40 rfl))))))
  (e_Tok2
  (e_Tok2
  (e_Lok (e_st (I := eI) (er_iaload (x_dk dn_235_0_ok 41 rfl))))
  (e_Lok (e_st (I := eI) (er_goto (off := 11) (tg := 113) (x_dk dn_235_0_ok 42 rfl) (by decide)))))
  (e_Tok2
  (e_Lok (e_st (I := eI) (er_aload_n (i := 0) (x_dk dn_235_0_ok 43 rfl))))
  (e_Tok2
  (e_Lok (e_st (I := eI) (er_getf (ci := 11) (k := 4) (ix := 37) (N := 15) (C := RX11) (T := TX11) rfl in_X11 (by decide) (in_t4 (List.mem_of_getElem? (i := 112) rfl) rfl) (x_dk dn_235_0_ok 44 rfl))))
  (e_Lok (e_st (I := eI) (er_iload_n (i := 1) (x_dk dn_235_0_ok 45 rfl))))))))
  (e_Tok2
  (e_Tok2
  (e_Tok2
  (e_Lok (e_ca (I := eI) (q' := n_81) rfl (xr_callV (q' := n_81) (ix := 377) (n := 1) (in_t7 (List.mem_of_getElem? (i := 202) rfl) rfl) good_w (in_t1 (List.mem_of_getElem? (i := 6) rfl) rfl) (in_t9 (List.mem_of_getElem? (i := 50) rfl) rfl) (in_t7 (List.mem_of_getElem? (i := 200) rfl) rfl) (in_t7 (List.mem_of_getElem? (i := 201) rfl) rfl) (by decide +kernel) (by decide +kernel) (by decide +kernel) (x_dk dn_235_0_ok 46 rfl))))
  (e_Lok (e_rt (I := eI) (k := 1) ⟨(x_dk dn_235_0_ok 47 rfl), rfl⟩)))
  (e_Tok2
  (e_Lok (e_st (I := eI) (er_aload (i := 4) (x_dk dn_235_0_ok 48 rfl))))
  (e_Lok (e_st (I := eI) (er_ifnull (off := 17) (tg := 133) (x_dk dn_235_0_ok 49 rfl) (by decide))))))
  (e_Tok2
  (e_Tok2
  (e_Lok (e_st (I := eI) (er_aload (i := 4) (x_dk dn_235_0_ok 50 rfl))))
  (e_Lok (e_st (I := eI) (er_getf (ci := 0) (k := 2) (ix := 332) (N := 20) (C := RX0) (T := TX0) rfl in_X0 (by decide) (in_t2 (List.mem_of_getElem? (i := 155) rfl) rfl) (x_dk dn_235_0_ok 51 rfl)))))
  (e_Tok2
  (e_Lok (e_st (I := eI) (er_aload (i := 4) (x_dk dn_235_0_ok 52 rfl))))
  (e_Tok2
  (e_Lok (e_st (I := eI) (er_getf (ci := 0) (k := 8) (ix := 112) (N := 20) (C := RX0) (T := TX0) rfl in_X0 (by decide) (in_t2 (List.mem_of_getElem? (i := 171) rfl) rfl) (x_dk dn_235_0_ok 53 rfl))))
  (e_Lok (e_st (I := eI) (er_iaload (x_dk dn_235_0_ok 54 rfl)))))))))
  (e_Tok2
  (e_Tok2
  (e_Tok2
  (e_Tok2
  (e_Lok (e_st (I := eI) (er_goto (off := 11) (tg := 141) (x_dk dn_235_0_ok 55 rfl) (by decide))))
  (e_Lok (e_st (I := eI) (er_aload_n (i := 0) (x_dk dn_235_0_ok 56 rfl)))))
  (e_Tok2
  (e_Lok (e_st (I := eI) (er_getf (ci := 11) (k := 4) (ix := 37) (N := 15) (C := RX11) (T := TX11) rfl in_X11 (by decide) (in_t4 (List.mem_of_getElem? (i := 112) rfl) rfl) (x_dk dn_235_0_ok 57 rfl))))
  (e_Lok (e_st (I := eI) (er_iload_n (i := 1) (x_dk dn_235_0_ok 58 rfl))))))
  (e_Tok2
  (e_Tok2
  (e_Lok (e_ca (I := eI) (q' := n_82) rfl (xr_callV (q' := n_82) (ix := 380) (n := 1) (in_t7 (List.mem_of_getElem? (i := 206) rfl) rfl) good_w (in_t1 (List.mem_of_getElem? (i := 6) rfl) rfl) (in_t9 (List.mem_of_getElem? (i := 51) rfl) rfl) (in_t7 (List.mem_of_getElem? (i := 204) rfl) rfl) (in_t7 (List.mem_of_getElem? (i := 205) rfl) rfl) (by decide +kernel) (by decide +kernel) (by decide +kernel) (x_dk dn_235_0_ok 59 rfl))))
  (e_Lok (e_rt (I := eI) (k := 1) ⟨(x_dk dn_235_0_ok 60 rfl), rfl⟩)))
  (e_Tok2
  (e_Lok (e_st (I := eI) (er_iload_n (i := 3) (x_dk dn_235_0_ok 61 rfl))))
  (e_Tok2
  (e_Lok (e_st (I := eI) (er_iconst (n := 4) (z := 4) (v := 4) (x_dk dn_235_0_ok 62 rfl) (by decide) (by decide))))
  (e_Lok (e_st (I := eI) (er_icmpge (off := 15) (tg := 159) (x_dk dn_235_0_ok 63 rfl) (by decide))))))))
  (e_Tok2
  (e_Tok2
  (e_Tok2
  (e_Lok (e_st (I := eI) (er_aload_n (i := 0) (x_dk dn_235_0_ok 64 rfl))))
  (e_Lok (e_st (I := eI) (er_getf (ci := 11) (k := 4) (ix := 37) (N := 15) (C := RX11) (T := TX11) rfl in_X11 (by decide) (in_t4 (List.mem_of_getElem? (i := 112) rfl) rfl) (x_dk dn_235_0_ok 65 rfl)))))
  (e_Tok2
  (e_Lok (e_st (I := eI) (er_getf (ci := 4) (k := 15) (ix := 383) (N := 20) (C := RX4) (T := TX4) rfl in_X4 (by decide) (in_t1 (List.mem_of_getElem? (i := 199) rfl) rfl) (x_dk dn_235_0_ok 66 rfl))))
  (e_Tok2
  (e_Lok (e_st (I := eI) (er_iload_n (i := 1) (x_dk dn_235_0_ok 67 rfl))))
  (e_Lok (e_st (I := eI) (er_iaload (x_dk dn_235_0_ok 68 rfl)))))))
  (e_Tok2
  (e_Tok2
  (e_Lok (e_st (I := eI) (er_goto (off := 4) (tg := 160) (x_dk dn_235_0_ok 69 rfl) (by decide))))
  (e_Lok (e_st (I := eI) (er_iconst (n := 0) (z := 0) (v := 0) (x_dk dn_235_0_ok 70 rfl) (by decide) (by decide)))))
  (e_Tok2
  (e_Lok (e_rt (I := eI) (k := 1) ⟨(x_dk dn_235_0_ok 71 rfl), rfl⟩))
  (e_Tok2
  (e_Lok (e_st (I := eI) (er_iconst (n := (-1)) (z := (-1)) (v := (-1)) (x_dk dn_235_0_ok 72 rfl) (by decide) (by decide))))
  (e_Lok (e_rt (I := eI) (k := 1) ⟨(x_dk dn_235_0_ok 73 rfl), rfl⟩))))))))
def te_235 : Nat → eE := (e_T 88 te_235_0 te_235_37)
theorem te_235_ok : ∀ pc, e_EOq eft cls elay eI n_235 pc (te_235 pc) := (e_Tok2 (te_235_0_ok) (te_235_37_ok))
def dn_236_0 : List (Nat × Instr × Nat) := [(0, .iload_n 1, 1), (1, .tableswitch 71 0 3 #[31, 47, 55, 63], 31), (32, .aload_n 0, 1), (33, .getfield 42, 3), (36, .getfield 274, 3), (39, .ifCond .eq 7, 3), (42, .iconst 1, 1), (43, .goto 4, 3), (46, .iconst 0, 1), (47, .ireturn, 1), (48, .aload_n 0, 1), (49, .getfield 42, 3), (52, .getfield 385, 3), (55, .ireturn, 1), (56, .aload_n 0, 1), (57, .getfield 42, 3), (60, .getfield 388, 3), (63, .ireturn, 1), (64, .aload_n 0, 1), (65, .getfield 42, 3), (68, .getfield 391, 3), (71, .ireturn, 1), (72, .iload_n 1, 1), (73, .iconst 4, 1), (74, .iconst 3, 1), (75, .aload_n 0, 1), (76, .getfield 42, 3), (79, .getfield 204, 3), (82, .iadd, 1), (83, .invokestatic 82, 3), (86, .ifCond .eq 16, 3), (89, .aload_n 0, 1), (90, .getfield 42, 3), (93, .iload_n 1, 1), (94, .iconst 4, 1), (95, .isub, 1), (96, .invokevirtual 394, 3), (99, .goto 4, 3), (102, .iconst (-1), 1), (103, .ireturn, 1)]
set_option maxRecDepth 20000 in
theorem dn_236_0_ok : dn_236_0.all (fun q => decide (decode prog_1_method_48_code q.1 = .ok (q.2.1, q.2.2))) = true := by decide +kernel
def te_236_0 : Nat → eE := (e_T 65 (e_T 47 (e_T 36 (e_T 1 (e_T 0 (e_L 0 (0, ei_load 1 0 1, 0, 0)) (e_L 1 (0, ei_sw [((-2147483648), (-1), 72), (0, 0, 32), (1, 1, 48), (2, 2, 56), (3, 3, 64), (4, 2147483647, 72)], 0, 0))) (e_T 32 (e_L 32 (0, ei_load 0 2 33, 0, 0)) (e_T 33 (e_L 33 (0, ei_getf eft elay 11 5 36, 0, 0)) (e_L 36 (0, ei_getf eft elay 2 3 39, 0, 0))))) (e_T 42 (e_T 39 (e_L 39 (0, ei_if1 0 46 42, 0, 0)) (e_L 42 (0, ei_push (0, 1) 43, 0, 0))) (e_T 43 (e_L 43 (0, ei_goto 47, 0, 0)) (e_T 46 (e_L 46 (0, ei_push (0, 0) 47, 0, 0)) (e_L 47 (1, e_nof, 1, 0)))))) (e_T 56 (e_T 49 (e_T 48 (e_L 48 (0, ei_load 0 2 49, 0, 0)) (e_L 49 (0, ei_getf eft elay 11 5 52, 0, 0))) (e_T 52 (e_L 52 (0, ei_getf eft elay 2 4 55, 0, 0)) (e_T 55 (e_L 55 (1, e_nof, 1, 0)) (e_L 56 (0, ei_load 0 2 57, 0, 0))))) (e_T 60 (e_T 57 (e_L 57 (0, ei_getf eft elay 11 5 60, 0, 0)) (e_L 60 (0, ei_getf eft elay 2 5 63, 0, 0))) (e_T 63 (e_L 63 (1, e_nof, 1, 0)) (e_T 64 (e_L 64 (0, ei_load 0 2 65, 0, 0)) (e_L 65 (0, ei_getf eft elay 11 5 68, 0, 0))))))) (e_T 83 (e_T 74 (e_T 71 (e_T 68 (e_L 68 (0, ei_getf eft elay 2 6 71, 0, 0)) (e_L 71 (1, e_nof, 1, 0))) (e_T 72 (e_L 72 (0, ei_load 1 0 73, 0, 0)) (e_T 73 (e_L 73 (0, ei_push (0, 4) 74, 0, 0)) (e_L 74 (0, ei_push (0, 3) 75, 0, 0))))) (e_T 76 (e_T 75 (e_L 75 (0, ei_load 0 2 76, 0, 0)) (e_L 76 (0, ei_getf eft elay 11 5 79, 0, 0))) (e_T 79 (e_L 79 (0, ei_getf eft elay 2 2 82, 0, 0)) (e_T 82 (e_L 82 (0, ei_bin eF_add 83, 0, 0)) (e_L 83 (2, e_nof, 242, 3)))))) (e_T 94 (e_T 89 (e_T 86 (e_L 86 (0, ei_if1 0 102 89, 0, 0)) (e_L 89 (0, ei_load 0 2 90, 0, 0))) (e_T 90 (e_L 90 (0, ei_getf eft elay 11 5 93, 0, 0)) (e_T 93 (e_L 93 (0, ei_load 1 0 94, 0, 0)) (e_L 94 (0, ei_push (0, 4) 95, 0, 0))))) (e_T 96 (e_T 95 (e_L 95 (0, ei_bin eF_sub 96, 0, 0)) (e_L 96 (2, e_nof, 30, 2))) (e_T 99 (e_L 99 (0, ei_goto 103, 0, 0)) (e_T 102 (e_L 102 (0, ei_push (0, (-1)) 103, 0, 0)) (e_L 103 (1, e_nof, 1, 0))))))))
set_option maxRecDepth 20000 in
set_option maxHeartbeats 4000000 in
theorem te_236_0_ok : ∀ pc, e_EOq eft cls elay eI n_236 pc (te_236_0 pc) :=
  (e_Tok2
  (e_Tok2
  (e_Tok2
  (e_Tok2
  (e_Tok2
  (e_Lok (e_st (I := eI) (er_iload_n (i := 1) (x_dk dn_236_0_ok 0 rfl))))
  (e_Lok (e_st (I := eI) (er_tsw (dflt := 71) (lo := 0) (hi := 3) (offs := #[31, 47, 55, 63]) (len := 31) (n := 4) (x_dk dn_236_0_ok 1 rfl) (by decide) (by decide +kernel)))))
  (e_Tok2
  (e_Lok (e_st (I := eI) (er_aload_n (i := 0) (x_dk dn_236_0_ok 2 rfl))))
  (e_Tok2
  (e_Lok (e_st (I := eI) (er_getf (ci := 11) (k := 5) (ix := 42) (N := 15) (C := RX11) (T := TX11) rfl in_X11 (by decide) (in_t4 (List.mem_of_getElem? (i := 113) rfl) rfl) (x_dk dn_236_0_ok 3 rfl))))
  (e_Lok (e_st (I := eI) (er_getf (ci := 2) (k := 3) (ix := 274) (N := 15) (C := RX2) (T := TX2) rfl in_X2 (by decide) (in_t2 (List.mem_of_getElem? (i := 21) rfl) rfl) (x_dk dn_236_0_ok 4 rfl)))))))
  (e_Tok2
  (e_Tok2
  (e_Lok (e_st (I := eI) (er_ifeq (off := 7) (tg := 46) (x_dk dn_236_0_ok 5 rfl) (by decide))))
  (e_Lok (e_st (I := eI) (er_iconst (n := 1) (z := 1) (v := 1) (x_dk dn_236_0_ok 6 rfl) (by decide) (by decide)))))
  (e_Tok2
  (e_Lok (e_st (I := eI) (er_goto (off := 4) (tg := 47) (x_dk dn_236_0_ok 7 rfl) (by decide))))
  (e_Tok2
  (e_Lok (e_st (I := eI) (er_iconst (n := 0) (z := 0) (v := 0) (x_dk dn_236_0_ok 8 rfl) (by decide) (by decide))))
  (e_Lok (e_rt (I := eI) (k := 1) ⟨(x_dk dn_236_0_ok 9 rfl), rfl⟩))))))
  (e_Tok2
  (e_Tok2
  (e_Tok2
  (e_Lok (e_st (I := eI) (er_aload_n (i := 0) (x_dk dn_236_0_ok 10 rfl))))
  (e_Lok (e_st (I := eI) (er_getf (ci := 11) (k := 5) (ix := 42) (N := 15) (C := RX11) (T := TX11) rfl in_X11 (by decide) (in_t4 (List.mem_of_getElem? (i := 113) rfl) rfl) (x_dk dn_236_0_ok 11 rfl)))))
  (e_Tok2
  (e_Lok (e_st (I := eI) (er_getf (ci := 2) (k := 4) (ix := 385) (N := 15) (C := RX2) (T := TX2) rfl in_X2 (by decide) (in_t2 (List.mem_of_getElem? (i := 23) rfl) rfl) (x_dk dn_236_0_ok 12 rfl))))
  (e_Tok2
  (e_Lok (e_rt (I := eI) (k := 1) ⟨(x_dk dn_236_0_ok 13 rfl), rfl⟩))
  (e_Lok (e_st (I := eI) (er_aload_n (i := 0) (x_dk dn_236_0_ok 14 rfl)))))))
  (e_Tok2
  (e_Tok2
  (e_Lok (e_st (I := eI) (er_getf (ci := 11) (k := 5) (ix := 42) (N := 15) (C := RX11) (T := TX11) rfl in_X11 (by decide) (in_t4 (List.mem_of_getElem? (i := 113) rfl) rfl) (x_dk dn_236_0_ok 15 rfl))))
  (e_Lok (e_st (I := eI) (er_getf (ci := 2) (k := 5) (ix := 388) (N := 15) (C := RX2) (T := TX2) rfl in_X2 (by decide) (in_t2 (List.mem_of_getElem? (i := 25) rfl) rfl) (x_dk dn_236_0_ok 16 rfl)))))
  (e_Tok2
  (e_Lok (e_rt (I := eI) (k := 1) ⟨(x_dk dn_236_0_ok 17 rfl), rfl⟩))
  (e_Tok2
  (e_Lok (e_st (I := eI) (er_aload_n (i := 0) (x_dk dn_236_0_ok 18 rfl))))
  (e_Lok (e_st (I := eI) (er_getf (ci := 11) (k := 5) (ix := 42) (N := 15) (C := RX11) (T := TX11) rfl in_X11 (by decide) (in_t4 (List.mem_of_getElem? (i := 113) rfl) rfl) (x_dk dn_236_0_ok 19 rfl)))))))))
  (e_Tok2
  (e_Tok2
  (e_Tok2
  (e_Tok2
  (e_Lok (e_st (I := eI) (er_getf (ci := 2) (k := 6) (ix := 391) (N := 15) (C := RX2) (T := TX2) rfl in_X2 (by decide) (in_t2 (List.mem_of_getElem? (i := 27) rfl) rfl) (x_dk dn_236_0_ok 20 rfl))))
  (e_Lok (e_rt (I := eI) (k := 1) ⟨(x_dk dn_236_0_ok 21 rfl), rfl⟩)))
  (e_Tok2
  (e_Lok (e_st (I := eI) (er_iload_n (i := 1) (x_dk dn_236_0_ok 22 rfl))))
  (e_Tok2
  (e_Lok (e_st (I := eI) (er_iconst (n := 4) (z := 4) (v := 4) (x_dk dn_236_0_ok 23 rfl) (by decide) (by decide))))
  (e_Lok (e_st (I := eI) (er_iconst (n := 3) (z := 3) (v := 3) (x_dk dn_236_0_ok 24 rfl) (by decide) (by decide)))))))
  (e_Tok2
  (e_Tok2
  (e_Lok (e_st (I := eI) (er_aload_n (i := 0) (x_dk dn_236_0_ok 25 rfl))))
  (e_Lok (e_st (I := eI) (er_getf (ci := 11) (k := 5) (ix := 42) (N := 15) (C := RX11) (T := TX11) rfl in_X11 (by decide) (in_t4 (List.mem_of_getElem? (i := 113) rfl) rfl) (x_dk dn_236_0_ok 26 rfl)))))
  (e_Tok2
  (e_Lok (e_st (I := eI) (er_getf (ci := 2) (k := 2) (ix := 204) (N := 15) (C := RX2) (T := TX2) rfl in_X2 (by decide) (in_t2 (List.mem_of_getElem? (i := 18) rfl) rfl) (x_dk dn_236_0_ok 27 rfl))))
  (e_Tok2
  (e_Lok (e_st (I := eI) (er_iadd (x_dk dn_236_0_ok 28 rfl))))
  (e_Lok (e_ca (I := eI) (q' := n_242) rfl (xr_callS (q' := n_242) (ix := 82) (n := 3) (in_t4 (List.mem_of_getElem? (i := 168) rfl) rfl) good_w (in_t1 (List.mem_of_getElem? (i := 1) rfl) rfl) (in_t4 (List.mem_of_getElem? (i := 166) rfl) rfl) (in_t4 (List.mem_of_getElem? (i := 167) rfl) rfl) (by decide +kernel) (by decide +kernel) (x_dk dn_236_0_ok 29 rfl))))))))
  (e_Tok2
  (e_Tok2
  (e_Tok2
  (e_Lok (e_st (I := eI) (er_ifeq (off := 16) (tg := 102) (x_dk dn_236_0_ok 30 rfl) (by decide))))
  (e_Lok (e_st (I := eI) (er_aload_n (i := 0) (x_dk dn_236_0_ok 31 rfl)))))
  (e_Tok2
  (e_Lok (e_st (I := eI) (er_getf (ci := 11) (k := 5) (ix := 42) (N := 15) (C := RX11) (T := TX11) rfl in_X11 (by decide) (in_t4 (List.mem_of_getElem? (i := 113) rfl) rfl) (x_dk dn_236_0_ok 32 rfl))))
  (e_Tok2
  (e_Lok (e_st (I := eI) (er_iload_n (i := 1) (x_dk dn_236_0_ok 33 rfl))))
  (e_Lok (e_st (I := eI) (er_iconst (n := 4) (z := 4) (v := 4) (x_dk dn_236_0_ok 34 rfl) (by decide) (by decide)))))))
  (e_Tok2
  (e_Tok2
  (e_Lok (e_st (I := eI) (er_isub (x_dk dn_236_0_ok 35 rfl))))
  (e_Lok (e_ca (I := eI) (q' := n_30) rfl (xr_callV (q' := n_30) (ix := 394) (n := 1) (in_t9 (List.mem_of_getElem? (i := 59) rfl) rfl) good_w (in_t1 (List.mem_of_getElem? (i := 7) rfl) rfl) (in_t9 (List.mem_of_getElem? (i := 56) rfl) rfl) (in_t9 (List.mem_of_getElem? (i := 57) rfl) rfl) (in_t9 (List.mem_of_getElem? (i := 58) rfl) rfl) (by decide +kernel) (by decide +kernel) (by decide +kernel) (x_dk dn_236_0_ok 36 rfl)))))
  (e_Tok2
  (e_Lok (e_st (I := eI) (er_goto (off := 4) (tg := 103) (x_dk dn_236_0_ok 37 rfl) (by decide))))
  (e_Tok2
  (e_Lok (e_st (I := eI) (er_iconst (n := (-1)) (z := (-1)) (v := (-1)) (x_dk dn_236_0_ok 38 rfl) (by decide) (by decide))))
  (e_Lok (e_rt (I := eI) (k := 1) ⟨(x_dk dn_236_0_ok 39 rfl), rfl⟩))))))))
def te_236 : Nat → eE := te_236_0
theorem te_236_ok : ∀ pc, e_EOq eft cls elay eI n_236 pc (te_236 pc) := te_236_0_ok
def dn_237_0 : List (Nat × Instr × Nat) := [(0, .aload_n 0, 1), (1, .getfield 42, 3), (4, .getfield 397, 3), (7, .ireturn, 1)]
set_option maxRecDepth 20000 in
theorem dn_237_0_ok : dn_237_0.all (fun q => decide (decode prog_1_method_49_code q.1 = .ok (q.2.1, q.2.2))) = true := by decide +kernel
def te_237_0 : Nat → eE := (e_T 1 (e_T 0 (e_L 0 (0, ei_load 0 2 1, 0, 0)) (e_L 1 (0, ei_getf eft elay 11 5 4, 0, 0))) (e_T 4 (e_L 4 (0, ei_getf eft elay 2 1 7, 0, 0)) (e_L 7 (1, e_nof, 1, 0))))
set_option maxRecDepth 20000 in
set_option maxHeartbeats 4000000 in
theorem te_237_0_ok : ∀ pc, e_EOq eft cls elay eI n_237 pc (te_237_0 pc) :=
  (e_Tok2
  (e_Tok2
  (e_Lok (e_st (I := eI) (er_aload_n (i := 0) (x_dk dn_237_0_ok 0 rfl))))
  (e_Lok (e_st (I := eI) (er_getf (ci := 11) (k := 5) (ix := 42) (N := 15) (C := RX11) (T := TX11) rfl in_X11 (by decide) (in_t4 (List.mem_of_getElem? (i := 113) rfl) rfl) (x_dk dn_237_0_ok 1 rfl)))))
  (e_Tok2
  (e_Lok (e_st (I := eI) (er_getf (ci := 2) (k := 1) (ix := 397) (N := 15) (C := RX2) (T := TX2) rfl in_X2 (by decide) (in_t2 (List.mem_of_getElem? (i := 16) rfl) rfl) (x_dk dn_237_0_ok 2 rfl))))
  (e_Lok (e_rt (I := eI) (k := 1) ⟨(x_dk dn_237_0_ok 3 rfl), rfl⟩))))
def te_237 : Nat → eE := te_237_0
theorem te_237_ok : ∀ pc, e_EOq eft cls elay eI n_237 pc (te_237 pc) := te_237_0_ok
def dn_238_0 : List (Nat × Instr × Nat) := [(0, .iload_n 1, 1), (1, .iconst 0, 1), (2, .aload_n 0, 1), (3, .getfield 42, 3), (6, .getfield 397, 3), (9, .sipush 2000, 3), (12, .invokestatic 258, 3), (15, .iconst 1, 1), (16, .isub, 1), (17, .invokestatic 82, 3), (20, .ifCond .eq 12, 3), (23, .iload_n 2, 1), (24, .iconst 0, 1), (25, .iconst 3, 1), (26, .invokestatic 82, 3), (29, .ifCond .ne 5, 3), (32, .iconst (-1), 1), (33, .ireturn, 1), (34, .aload_n 0, 1), (35, .getfield 42, 3), (38, .getfield 400, 3), (41, .iload_n 1, 1), (42, .iconst 4, 1), (43, .imul, 1), (44, .iload_n 2, 1), (45, .iadd, 1), (46, .iaload, 1), (47, .ireturn, 1)]
set_option maxRecDepth 20000 in
theorem dn_238_0_ok : dn_238_0.all (fun q => decide (decode prog_1_method_50_code q.1 = .ok (q.2.1, q.2.2))) = true := by decide +kernel
def te_238_0 : Nat → eE := (e_T 25 (e_T 12 (e_T 2 (e_T 0 (e_L 0 (0, ei_load 1 0 1, 0, 0)) (e_T 1 (e_L 1 (0, ei_push (0, 0) 2, 0, 0)) (e_L 2 (0, ei_load 0 2 3, 0, 0)))) (e_T 6 (e_T 3 (e_L 3 (0, ei_getf eft elay 11 5 6, 0, 0)) (e_L 6 (0, ei_getf eft elay 2 1 9, 0, 0))) (e_T 9 (e_L 9 (0, ei_push (0, 2000) 12, 0, 0)) (e_L 12 (0, ei_m2 eM_min 15, 0, 0))))) (e_T 17 (e_T 15 (e_L 15 (0, ei_push (0, 1) 16, 0, 0)) (e_T 16 (e_L 16 (0, ei_bin eF_sub 17, 0, 0)) (e_L 17 (2, e_nof, 242, 3)))) (e_T 23 (e_T 20 (e_L 20 (0, ei_if1 0 32 23, 0, 0)) (e_L 23 (0, ei_load 2 0 24, 0, 0))) (e_T 24 (e_L 24 (0, ei_push (0, 0) 25, 0, 0)) (e_L 25 (0, ei_push (0, 3) 26, 0, 0)))))) (e_T 38 (e_T 32 (e_T 26 (e_L 26 (2, e_nof, 242, 3)) (e_T 29 (e_L 29 (0, ei_if1 1 34 32, 0, 0)) (e_L 32 (0, ei_push (0, (-1)) 33, 0, 0)))) (e_T 34 (e_T 33 (e_L 33 (1, e_nof, 1, 0)) (e_L 34 (0, ei_load 0 2 35, 0, 0))) (e_T 35 (e_L 35 (0, ei_getf eft elay 11 5 38, 0, 0)) (e_L 38 (0, ei_getf eft elay 2 8 41, 0, 0))))) (e_T 43 (e_T 41 (e_L 41 (0, ei_load 1 0 42, 0, 0)) (e_T 42 (e_L 42 (0, ei_push (0, 4) 43, 0, 0)) (e_L 43 (0, ei_bin eF_mul 44, 0, 0)))) (e_T 45 (e_T 44 (e_L 44 (0, ei_load 2 0 45, 0, 0)) (e_L 45 (0, ei_bin eF_add 46, 0, 0))) (e_T 46 (e_L 46 (0, ei_ald elay false 47, 0, 0)) (e_L 47 (1, e_nof, 1, 0)))))))
set_option maxRecDepth 20000 in
set_option maxHeartbeats 4000000 in
theorem te_238_0_ok : ∀ pc, e_EOq eft cls elay eI n_238 pc (te_238_0 pc) :=
  (e_Tok2
  (e_Tok2
  (e_Tok2
  (e_Tok2
  (e_Lok (e_st (I := eI) (er_iload_n (i := 1) (x_dk dn_238_0_ok 0 rfl))))
  (e_Tok2
  (e_Lok (e_st (I := eI) (er_iconst (n := 0) (z := 0) (v := 0) (x_dk dn_238_0_ok 1 rfl) (by decide) (by decide))))
  (e_Lok (e_st (I := eI) (er_aload_n (i := 0) (x_dk dn_238_0_ok 2 rfl))))))
  (e_Tok2
  (e_Tok2
  (e_Lok (e_st (I := eI) (er_getf (ci := 11) (k := 5) (ix := 42) (N := 15) (C := RX11) (T := TX11) rfl in_X11 (by decide) (in_t4 (List.mem_of_getElem? (i := 113) rfl) rfl) (x_dk dn_238_0_ok 3 rfl))))
  (e_Lok (e_st (I := eI) (er_getf (ci := 2) (k := 1) (ix := 397) (N := 15) (C := RX2) (T := TX2) rfl in_X2 (by decide) (in_t2 (List.mem_of_getElem? (i := 16) rfl) rfl) (x_dk dn_238_0_ok 4 rfl)))))
  (e_Tok2
  (e_Lok (e_st (I := eI) (er_sipush (n := 2000) (z := 2000) (v := 2000) (x_dk dn_238_0_ok 5 rfl) (by decide) (by decide))))
  (e_Lok (e_st (I := eI) (er_min (ix := 258) (in_t7 (List.mem_of_getElem? (i := 46) rfl) rfl) (in_t5 (List.mem_of_getElem? (i := 187) rfl) rfl) (in_t1 (List.mem_of_getElem? (i := 15) rfl) rfl) (in_t5 (List.mem_of_getElem? (i := 188) rfl) rfl) (x_dk dn_238_0_ok 6 rfl)))))))
  (e_Tok2
  (e_Tok2
  (e_Lok (e_st (I := eI) (er_iconst (n := 1) (z := 1) (v := 1) (x_dk dn_238_0_ok 7 rfl) (by decide) (by decide))))
  (e_Tok2
  (e_Lok (e_st (I := eI) (er_isub (x_dk dn_238_0_ok 8 rfl))))
  (e_Lok (e_ca (I := eI) (q' := n_242) rfl (xr_callS (q' := n_242) (ix := 82) (n := 3) (in_t4 (List.mem_of_getElem? (i := 168) rfl) rfl) good_w (in_t1 (List.mem_of_getElem? (i := 1) rfl) rfl) (in_t4 (List.mem_of_getElem? (i := 166) rfl) rfl) (in_t4 (List.mem_of_getElem? (i := 167) rfl) rfl) (by decide +kernel) (by decide +kernel) (x_dk dn_238_0_ok 9 rfl))))))
  (e_Tok2
  (e_Tok2
  (e_Lok (e_st (I := eI) (er_ifeq (off := 12) (tg := 32) (x_dk dn_238_0_ok 10 rfl) (by decide))))
  (e_Lok (e_st (I := eI) (er_iload_n (i := 2) (x_dk dn_238_0_ok 11 rfl)))))
  (e_Tok2
  (e_Lok (e_st (I := eI) (er_iconst (n := 0) (z := 0) (v := 0) (x_dk dn_238_0_ok 12 rfl) (by decide) (by decide))))
  (e_Lok (e_st (I := eI) (er_iconst (n := 3) (z := 3) (v := 3) (x_dk dn_238_0_ok 13 rfl) (by decide) (by decide))))))))
  (e_Tok2
  (e_Tok2
  (e_Tok2
  (e_Lok (e_ca (I := eI) (q' := n_242) rfl (xr_callS (q' := n_242) (ix := 82) (n := 3) (in_t4 (List.mem_of_getElem? (i := 168) rfl) rfl) good_w (in_t1 (List.mem_of_getElem? (i := 1) rfl) rfl) (in_t4 (List.mem_of_getElem? (i := 166) rfl) rfl) (in_t4 (List.mem_of_getElem? (i := 167) rfl) rfl) (by decide +kernel) (by decide +kernel) (x_dk dn_238_0_ok 14 rfl))))
  (e_Tok2
  (e_Lok (e_st (I := eI) (er_ifne (off := 5) (tg := 34) (x_dk dn_238_0_ok 15 rfl) (by decide))))
  (e_Lok (e_st (I := eI) (er_iconst (n := (-1)) (z := (-1)) (v := (-1)) (x_dk dn_238_0_ok 16 rfl) (by decide) (by decide))))))
  (e_Tok2
  (e_Tok2
  (e_Lok (e_rt (I := eI) (k := 1) ⟨(x_dk dn_238_0_ok 17 rfl), rfl⟩))
  (e_Lok (e_st (I := eI) (er_aload_n (i := 0) (x_dk dn_238_0_ok 18 rfl)))))
  (e_Tok2
  (e_Lok (e_st (I := eI) (er_getf (ci := 11) (k := 5) (ix := 42) (N := 15) (C := RX11) (T := TX11) rfl in_X11 (by decide) (in_t4 (List.mem_of_getElem? (i := 113) rfl) rfl) (x_dk dn_238_0_ok 19 rfl))))
  (e_Lok (e_st (I := eI) (er_getf (ci := 2) (k := 8) (ix := 400) (N := 15) (C := RX2) (T := TX2) rfl in_X2 (by decide) (in_t2 (List.mem_of_getElem? (i := 32) rfl) rfl) (x_dk dn_238_0_ok 20 rfl)))))))
  (e_Tok2
  (e_Tok2
  (e_Lok (e_st (I := eI) (er_iload_n (i := 1) (x_dk dn_238_0_ok 21 rfl))))
  (e_Tok2
  (e_Lok (e_st (I := eI) (er_iconst (n := 4) (z := 4) (v := 4) (x_dk dn_238_0_ok 22 rfl) (by decide) (by decide))))
  (e_Lok (e_st (I := eI) (er_imul (x_dk dn_238_0_ok 23 rfl))))))
  (e_Tok2
  (e_Tok2
  (e_Lok (e_st (I := eI) (er_iload_n (i := 2) (x_dk dn_238_0_ok 24 rfl))))
  (e_Lok (e_st (I := eI) (er_iadd (x_dk dn_238_0_ok 25 rfl)))))
  (e_Tok2
  (e_Lok (e_st (I := eI) (er_iaload (x_dk dn_238_0_ok 26 rfl))))
  (e_Lok (e_rt (I := eI) (k := 1) ⟨(x_dk dn_238_0_ok 27 rfl), rfl⟩)))))))
def te_238 : Nat → eE := te_238_0
theorem te_238_ok : ∀ pc, e_EOq eft cls elay eI n_238 pc (te_238 pc) := te_238_0_ok
def dn_239_0 : List (Nat × Instr × Nat) := [(0, .aload_n 0, 1), (1, .iload_n 1, 1), (2, .invokevirtual 103, 3), (5, .ifCond .eq 14, 3), (8, .iload_n 2, 1), (9, .iconst 0, 1), (10, .sipush 2000, 3), (13, .invokestatic 82, 3), (16, .ifCond .ne 5, 3), (19, .iconst (-1), 1), (20, .ireturn, 1), (21, .aload_n 0, 1), (22, .getfield 46, 3), (25, .aload_n 0, 1), (26, .getfield 27, 3), (29, .aload_n 0, 1), (30, .getfield 94, 3), (33, .iload_n 1, 1), (34, .iconst 0, 1), (35, .iload_n 2, 1), (36, .invokevirtual 403, 3), (39, .ifCond .eq 7, 3), (42, .iconst 1, 1), (43, .goto 4, 3), (46, .iconst 0, 1), (47, .ireturn, 1)]
set_option maxRecDepth 20000 in
theorem dn_239_0_ok : dn_239_0.all (fun q => decide (decode prog_1_method_51_code q.1 = .ok (q.2.1, q.2.2))) = true := by decide +kernel
def te_239_0 : Nat → eE := (e_T 22 (e_T 9 (e_T 2 (e_T 0 (e_L 0 (0, ei_load 0 2 1, 0, 0)) (e_T 1 (e_L 1 (0, ei_load 1 0 2, 0, 0)) (e_L 2 (2, e_nof, 246, 2)))) (e_T 5 (e_L 5 (0, ei_if1 0 19 8, 0, 0)) (e_T 8 (e_L 8 (0, ei_load 2 0 9, 0, 0)) (e_L 9 (0, ei_push (0, 0) 10, 0, 0))))) (e_T 16 (e_T 10 (e_L 10 (0, ei_push (0, 2000) 13, 0, 0)) (e_T 13 (e_L 13 (2, e_nof, 242, 3)) (e_L 16 (0, ei_if1 1 21 19, 0, 0)))) (e_T 20 (e_T 19 (e_L 19 (0, ei_push (0, (-1)) 20, 0, 0)) (e_L 20 (1, e_nof, 1, 0))) (e_T 21 (e_L 21 (0, ei_load 0 2 22, 0, 0)) (e_L 22 (0, ei_getf eft elay 11 6 25, 0, 0)))))) (e_T 34 (e_T 29 (e_T 25 (e_L 25 (0, ei_load 0 2 26, 0, 0)) (e_T 26 (e_L 26 (0, ei_getf eft elay 11 2 29, 0, 0)) (e_L 29 (0, ei_load 0 2 30, 0, 0)))) (e_T 30 (e_L 30 (0, ei_getf eft elay 11 11 33, 0, 0)) (e_T 33 (e_L 33 (0, ei_load 1 0 34, 0, 0)) (e_L 34 (0, ei_push (0, 0) 35, 0, 0))))) (e_T 39 (e_T 35 (e_L 35 (0, ei_load 2 0 36, 0, 0)) (e_T 36 (e_L 36 (2, e_nof, 171, 6)) (e_L 39 (0, ei_if1 0 46 42, 0, 0)))) (e_T 43 (e_T 42 (e_L 42 (0, ei_push (0, 1) 43, 0, 0)) (e_L 43 (0, ei_goto 47, 0, 0))) (e_T 46 (e_L 46 (0, ei_push (0, 0) 47, 0, 0)) (e_L 47 (1, e_nof, 1, 0)))))))
set_option maxRecDepth 20000 in
set_option maxHeartbeats 4000000 in
theorem te_239_0_ok : ∀ pc, e_EOq eft cls elay eI n_239 pc (te_239_0 pc) :=
  (e_Tok2
  (e_Tok2
  (e_Tok2
  (e_Tok2
  (e_Lok (e_st (I := eI) (er_aload_n (i := 0) (x_dk dn_239_0_ok 0 rfl))))
  (e_Tok2
  (e_Lok (e_st (I := eI) (er_iload_n (i := 1) (x_dk dn_239_0_ok 1 rfl))))
  (e_Lok (e_ca (I := eI) (q' := n_246) rfl (xr_callV (q' := n_246) (ix := 103) (n := 1) (in_t4 (List.mem_of_getElem? (i := 184) rfl) rfl) good_w (in_t1 (List.mem_of_getElem? (i := 1) rfl) rfl) (in_t4 (List.mem_of_getElem? (i := 181) rfl) rfl) (in_t4 (List.mem_of_getElem? (i := 183) rfl) rfl) (in_s1 (List.mem_of_getElem? (i := 8) rfl)) (by decide +kernel) (by decide +kernel) (by decide +kernel) (x_dk dn_239_0_ok 2 rfl))))))
  (e_Tok2
  (e_Lok (e_st (I := eI) (er_ifeq (off := 14) (tg := 19) (x_dk dn_239_0_ok 3 rfl) (by decide))))
  (e_Tok2
  (e_Lok (e_st (I := eI) (er_iload_n (i := 2) (x_dk dn_239_0_ok 4 rfl))))
  (e_Lok (e_st (I := eI) (er_iconst (n := 0) (z := 0) (v := 0) (x_dk dn_239_0_ok 5 rfl) (by decide) (by decide)))))))
  (e_Tok2
  (e_Tok2
  (e_Lok (e_st (I := eI) (er_sipush (n := 2000) (z := 2000) (v := 2000) (x_dk dn_239_0_ok 6 rfl) (by decide) (by decide))))
  (e_Tok2
  (e_Lok (e_ca (I := eI) (q' := n_242) rfl (xr_callS (q' := n_242) (ix := 82) (n := 3) (in_t4 (List.mem_of_getElem? (i := 168) rfl) rfl) good_w (in_t1 (List.mem_of_getElem? (i := 1) rfl) rfl) (in_t4 (List.mem_of_getElem? (i := 166) rfl) rfl) (in_t4 (List.mem_of_getElem? (i := 167) rfl) rfl) (by decide +kernel) (by decide +kernel) (x_dk dn_239_0_ok 7 rfl))))
  (e_Lok (e_st (I := eI) (er_ifne (off := 5) (tg := 21) (x_dk dn_239_0_ok 8 rfl) (by decide))))))
  (e_Tok2
  (e_Tok2
  (e_Lok (e_st (I := eI) (er_iconst (n := (-1)) (z := (-1)) (v := (-1)) (x_dk dn_239_0_ok 9 rfl) (by decide) (by decide))))
  (e_Lok (e_rt (I := eI) (k := 1) ⟨(x_dk dn_239_0_ok 10 rfl), rfl⟩)))
  (e_Tok2
  (e_Lok (e_st (I := eI) (er_aload_n (i := 0) (x_dk dn_239_0_ok 11 rfl))))
  (e_Lok (e_st (I := eI) (er_getf (ci := 11) (k := 6) (ix := 46) (N := 15) (C := RX11) (T := TX11) rfl in_X11 (by decide) (in_t4 (List.mem_of_getElem? (i := 114) rfl) rfl) (x_dk dn_239_0_ok 12 rfl))))))))
  (e_Tok2
  (e_Tok2
  (e_Tok2
  (e_Lok (e_st (I := eI) (er_aload_n (i := 0) (x_dk dn_239_0_ok 13 rfl))))
  (e_Tok2
  (e_Lok (e_st (I := eI) (er_getf (ci := 11) (k := 2) (ix := 27) (N := 15) (C := RX11) (T := TX11) rfl in_X11 (by decide) (in_t4 (List.mem_of_getElem? (i := 110) rfl) rfl) (x_dk dn_239_0_ok 14 rfl))))
  (e_Lok (e_st (I := eI) (er_aload_n (i := 0) (x_dk dn_239_0_ok 15 rfl))))))
  (e_Tok2
  (e_Lok (e_st (I := eI) (er_getf (ci := 11) (k := 11) (ix := 94) (N := 15) (C := RX11) (T := TX11) rfl in_X11 (by decide) (in_t4 (List.mem_of_getElem? (i := 119) rfl) rfl) (x_dk dn_239_0_ok 16 rfl))))
  (e_Tok2
  (e_Lok (e_st (I := eI) (er_iload_n (i := 1) (x_dk dn_239_0_ok 17 rfl))))
  (e_Lok (e_st (I := eI) (er_iconst (n := 0) (z := 0) (v := 0) (x_dk dn_239_0_ok 18 rfl) (by decide) (by decide)))))))
  (e_Tok2
  (e_Tok2
  (e_Lok (e_st (I := eI) (er_iload_n (i := 2) (x_dk dn_239_0_ok 19 rfl))))
  (e_Tok2
  (e_Lok (e_ca (I := eI) (q' := n_171) rfl (xr_callV (q' := n_171) (ix := 403) (n := 5) (in_t8 (List.mem_of_getElem? (i := 91) rfl) rfl) good_w (in_t1 (List.mem_of_getElem? (i := 11) rfl) rfl) (in_t8 (List.mem_of_getElem? (i := 88) rfl) rfl) (in_t8 (List.mem_of_getElem? (i := 89) rfl) rfl) (in_t8 (List.mem_of_getElem? (i := 90) rfl) rfl) (by decide +kernel) (by decide +kernel) (by decide +kernel) (x_dk dn_239_0_ok 20 rfl))))
  (e_Lok (e_st (I := eI) (er_ifeq (off := 7) (tg := 46) (x_dk dn_239_0_ok 21 rfl) (by decide))))))
  (e_Tok2
  (e_Tok2
  (e_Lok (e_st (I := eI) (er_iconst (n := 1) (z := 1) (v := 1) (x_dk dn_239_0_ok 22 rfl) (by decide) (by decide))))
  (e_Lok (e_st (I := eI) (er_goto (off := 4) (tg := 47) (x_dk dn_239_0_ok 23 rfl) (by decide)))))
  (e_Tok2
  (e_Lok (e_st (I := eI) (er_iconst (n := 0) (z := 0) (v := 0) (x_dk dn_239_0_ok 24 rfl) (by decide) (by decide))))
  (e_Lok (e_rt (I := eI) (k := 1) ⟨(x_dk dn_239_0_ok 25 rfl), rfl⟩)))))))
def te_239 : Nat → eE := te_239_0
theorem te_239_ok : ∀ pc, e_EOq eft cls elay eI n_239 pc (te_239 pc) := te_239_0_ok
def dn_240_0 : List (Nat × Instr × Nat) := [(0, .iload_n 1, 1), (1, .tableswitch 122 0 8 #[51, 56, 64, 72, 80, 88, 96, 101, 109], 51), (52, .aload_n 0, 1), (53, .getfield 94, 3), (56, .ireturn, 1), (57, .aload_n 0, 1), (58, .getfield 46, 3), (61, .getfield 149, 3), (64, .ireturn, 1), (65, .aload_n 0, 1), (66, .getfield 37, 3), (69, .getfield 167, 3), (72, .ireturn, 1), (73, .aload_n 0, 1), (74, .getfield 37, 3), (77, .getfield 371, 3), (80, .ireturn, 1), (81, .aload_n 0, 1), (82, .getfield 46, 3), (85, .getfield 198, 3), (88, .ireturn, 1), (89, .aload_n 0, 1), (90, .getfield 42, 3), (93, .getfield 204, 3), (96, .ireturn, 1), (97, .aload_n 0, 1), (98, .getfield 246, 3), (101, .ireturn, 1), (102, .aload_n 0, 1), (103, .getfield 10, 3), (106, .getfield 74, 3), (109, .ireturn, 1), (110, .aload_n 0, 1), (111, .getfield 91, 3), (114, .ifCond .eq 7, 3), (117, .iconst 1, 1), (118, .goto 4, 3), (121, .iconst 0, 1), (122, .ireturn, 1), (123, .iconst (-1), 1), (124, .ireturn, 1)]
set_option maxRecDepth 20000 in
theorem dn_240_0_ok : dn_240_0.all (fun q => decide (decode prog_1_method_52_code q.1 = .ok (q.2.1, q.2.2))) = true := by decide +kernel
def te_240_0 : Nat → eE := (e_T 65 (e_T 56 (e_T 1 (e_T 0 (e_L 0 (0, ei_load 1 0 1, 0, 0)) (e_L 1 (0, ei_sw [((-2147483648), (-1), 123), (0, 0, 52), (1, 1, 57), (2, 2, 65), (3, 3, 73), (4, 4, 81), (5, 5, 89), (6, 6, 97), (7, 7, 102), (8, 8, 110), (9, 2147483647, 123)], 0, 0))) (e_T 52 (e_L 52 (0, ei_load 0 2 53, 0, 0)) (e_T 53 (e_L 53 (0, ei_getf eft elay 11 11 56, 0, 0)) (e_L 56 (1, e_nof, 1, 0))))) (e_T 58 (e_T 57 (e_L 57 (0, ei_load 0 2 58, 0, 0)) (e_L 58 (0, ei_getf eft elay 11 6 61, 0, 0))) (e_T 61 (e_L 61 (0, ei_getf eft elay 9 0 64, 0, 0)) (e_T 64 (e_L 64 (1, e_nof, 1, 0)) (e_L 65 (0, ei_load 0 2 66, 0, 0)))))) (e_T 74 (e_T 69 (e_T 66 (e_L 66 (0, ei_getf eft elay 11 4 69, 0, 0)) (e_L 69 (0, ei_getf eft elay 4 0 72, 0, 0))) (e_T 72 (e_L 72 (1, e_nof, 1, 0)) (e_T 73 (e_L 73 (0, ei_load 0 2 74, 0, 0)) (e_L 74 (0, ei_getf eft elay 11 4 77, 0, 0))))) (e_T 80 (e_T 77 (e_L 77 (0, ei_getf eft elay 4 1 80, 0, 0)) (e_L 80 (1, e_nof, 1, 0))) (e_T 81 (e_L 81 (0, ei_load 0 2 82, 0, 0)) (e_T 82 (e_L 82 (0, ei_getf eft elay 11 6 85, 0, 0)) (e_L 85 (0, ei_getf eft elay 9 1 88, 0, 0)))))))
set_option maxRecDepth 20000 in
set_option maxHeartbeats 4000000 in
theorem te_240_0_ok : ∀ pc, e_EOq eft cls elay eI n_240 pc (te_240_0 pc) :=
  (e_Tok2
  (e_Tok2
  (e_Tok2
  (e_Tok2
  (e_Lok (e_st (I := eI) (er_iload_n (i := 1) (x_dk dn_240_0_ok 0 rfl))))
  (e_Lok (e_st (I := eI) (er_tsw (dflt := 122) (lo := 0) (hi := 8) (offs := #[51, 56, 64, 72, 80, 88, 96, 101, 109]) (len := 51) (n := 9) (x_dk dn_240_0_ok 1 rfl) (by decide) (by decide +kernel)))))
  (e_Tok2
  (e_Lok (e_st (I := eI) (er_aload_n (i := 0) (x_dk dn_240_0_ok 2 rfl))))
  (e_Tok2
  (e_Lok (e_st (I := eI) (er_getf (ci := 11) (k := 11) (ix := 94) (N := 15) (C := RX11) (T := TX11) rfl in_X11 (by decide) (in_t4 (List.mem_of_getElem? (i := 119) rfl) rfl) (x_dk dn_240_0_ok 3 rfl))))
  (e_Lok (e_rt (I := eI) (k := 1) ⟨(x_dk dn_240_0_ok 4 rfl), rfl⟩)))))
  (e_Tok2
  (e_Tok2
  (e_Lok (e_st (I := eI) (er_aload_n (i := 0) (x_dk dn_240_0_ok 5 rfl))))
  (e_Lok (e_st (I := eI) (er_getf (ci := 11) (k := 6) (ix := 46) (N := 15) (C := RX11) (T := TX11) rfl in_X11 (by decide) (in_t4 (List.mem_of_getElem? (i := 114) rfl) rfl) (x_dk dn_240_0_ok 6 rfl)))))
  (e_Tok2
  (e_Lok (e_st (I := eI) (er_getf (ci := 9) (k := 0) (ix := 149) (N := 17) (C := RX9) (T := TX9) rfl in_X9 (by decide) (in_t3 (List.mem_of_getElem? (i := 138) rfl) rfl) (x_dk dn_240_0_ok 7 rfl))))
  (e_Tok2
  (e_Lok (e_rt (I := eI) (k := 1) ⟨(x_dk dn_240_0_ok 8 rfl), rfl⟩))
  (e_Lok (e_st (I := eI) (er_aload_n (i := 0) (x_dk dn_240_0_ok 9 rfl))))))))
  (e_Tok2
  (e_Tok2
  (e_Tok2
  (e_Lok (e_st (I := eI) (er_getf (ci := 11) (k := 4) (ix := 37) (N := 15) (C := RX11) (T := TX11) rfl in_X11 (by decide) (in_t4 (List.mem_of_getElem? (i := 112) rfl) rfl) (x_dk dn_240_0_ok 10 rfl))))
  (e_Lok (e_st (I := eI) (er_getf (ci := 4) (k := 0) (ix := 167) (N := 20) (C := RX4) (T := TX4) rfl in_X4 (by decide) (in_t1 (List.mem_of_getElem? (i := 176) rfl) rfl) (x_dk dn_240_0_ok 11 rfl)))))
  (e_Tok2
  (e_Lok (e_rt (I := eI) (k := 1) ⟨(x_dk dn_240_0_ok 12 rfl), rfl⟩))
  (e_Tok2
  (e_Lok (e_st (I := eI) (er_aload_n (i := 0) (x_dk dn_240_0_ok 13 rfl))))
  (e_Lok (e_st (I := eI) (er_getf (ci := 11) (k := 4) (ix := 37) (N := 15) (C := RX11) (T := TX11) rfl in_X11 (by decide) (in_t4 (List.mem_of_getElem? (i := 112) rfl) rfl) (x_dk dn_240_0_ok 14 rfl)))))))
  (e_Tok2
  (e_Tok2
  (e_Lok (e_st (I := eI) (er_getf (ci := 4) (k := 1) (ix := 371) (N := 20) (C := RX4) (T := TX4) rfl in_X4 (by decide) (in_t1 (List.mem_of_getElem? (i := 178) rfl) rfl) (x_dk dn_240_0_ok 15 rfl))))
  (e_Lok (e_rt (I := eI) (k := 1) ⟨(x_dk dn_240_0_ok 16 rfl), rfl⟩)))
  (e_Tok2
  (e_Lok (e_st (I := eI) (er_aload_n (i := 0) (x_dk dn_240_0_ok 17 rfl))))
  (e_Tok2
  (e_Lok (e_st (I := eI) (er_getf (ci := 11) (k := 6) (ix := 46) (N := 15) (C := RX11) (T := TX11) rfl in_X11 (by decide) (in_t4 (List.mem_of_getElem? (i := 114) rfl) rfl) (x_dk dn_240_0_ok 18 rfl))))
  (e_Lok (e_st (I := eI) (er_getf (ci := 9) (k := 1) (ix := 198) (N := 17) (C := RX9) (T := TX9) rfl in_X9 (by decide) (in_t3 (List.mem_of_getElem? (i := 140) rfl) rfl) (x_dk dn_240_0_ok 19 rfl)))))))))
def te_240_20 : Nat → eE := (e_T 103 (e_T 96 (e_T 89 (e_T 88 (e_L 88 (1, e_nof, 1, 0)) (e_L 89 (0, ei_load 0 2 90, 0, 0))) (e_T 90 (e_L 90 (0, ei_getf eft elay 11 5 93, 0, 0)) (e_T 93 (e_L 93 (0, ei_getf eft elay 2 2 96, 0, 0)) (e_L 96 (1, e_nof, 1, 0))))) (e_T 98 (e_T 97 (e_L 97 (0, ei_load 0 2 98, 0, 0)) (e_L 98 (0, ei_getf eft elay 11 12 101, 0, 0))) (e_T 101 (e_L 101 (1, e_nof, 1, 0)) (e_T 102 (e_L 102 (0, ei_load 0 2 103, 0, 0)) (e_L 103 (0, ei_getf eft elay 11 0 106, 0, 0)))))) (e_T 114 (e_T 109 (e_T 106 (e_L 106 (0, ei_getf eft elay 8 0 109, 0, 0)) (e_L 109 (1, e_nof, 1, 0))) (e_T 110 (e_L 110 (0, ei_load 0 2 111, 0, 0)) (e_T 111 (e_L 111 (0, ei_getf eft elay 11 13 114, 0, 0)) (e_L 114 (0, ei_if1 0 121 117, 0, 0))))) (e_T 121 (e_T 117 (e_L 117 (0, ei_push (0, 1) 118, 0, 0)) (e_T 118 (e_L 118 (0, ei_goto 122, 0, 0)) (e_L 121 (0, ei_push (0, 0) 122, 0, 0)))) (e_T 122 (e_L 122 (1, e_nof, 1, 0)) (e_T 123 (e_L 123 (0, ei_push (0, (-1)) 124, 0, 0)) (e_L 124 (1, e_nof, 1, 0)))))))
set_option maxRecDepth 20000 in
set_option maxHeartbeats 4000000 in
theorem te_240_20_ok : ∀ pc, e_EOq eft cls elay eI n_240 pc (te_240_20 pc) :=
  (e_Tok2
  (e_Tok2
  (e_Tok2
  (e_Tok2
  (e_Lok (e_rt (I := eI) (k := 1) ⟨(x_dk dn_240_0_ok 20 rfl), rfl⟩))
  (e_Lok (e_st (I := eI) (er_aload_n (i := 0) (x_dk dn_240_0_ok 21 rfl)))))
  (e_Tok2
  (e_Lok (e_st (I := eI) (er_getf (ci := 11) (k := 5) (ix := 42) (N := 15) (C := RX11) (T := TX11) rfl in_X11 (by decide) (in_t4 (List.mem_of_getElem? (i := 113) rfl) rfl) (x_dk dn_240_0_ok 22 rfl))))
  (e_Tok2
  (e_Lok (e_st (I := eI) (er_getf (ci := 2) (k := 2) (ix := 204) (N := 15) (C := RX2) (T := TX2) rfl in_X2 (by decide) (in_t2 (List.mem_of_getElem? (i := 18) rfl) rfl) (x_dk dn_240_0_ok 23 rfl))))
  (e_Lok (e_rt (I := eI) (k := 1) ⟨(x_dk dn_240_0_ok 24 rfl), rfl⟩)))))
  (e_Tok2
  (e_Tok2
  (e_Lok (e_st (I := eI) (er_aload_n (i := 0) (x_dk dn_240_0_ok 25 rfl))))
  (e_Lok (e_st (I := eI) (er_getf (ci := 11) (k := 12) (ix := 246) (N := 15) (C := RX11) (T := TX11) rfl in_X11 (by decide) (in_t4 (List.mem_of_getElem? (i := 120) rfl) rfl) (x_dk dn_240_0_ok 26 rfl)))))
  (e_Tok2
  (e_Lok (e_rt (I := eI) (k := 1) ⟨(x_dk dn_240_0_ok 27 rfl), rfl⟩))
  (e_Tok2
  (e_Lok (e_st (I := eI) (er_aload_n (i := 0) (x_dk dn_240_0_ok 28 rfl))))
  (e_Lok (e_st (I := eI) (er_getf (ci := 11) (k := 0) (ix := 10) (N := 15) (C := RX11) (T := TX11) rfl in_X11 (by decide) (in_t4 (List.mem_of_getElem? (i := 108) rfl) rfl) (x_dk dn_240_0_ok 29 rfl))))))))
  (e_Tok2
  (e_Tok2
  (e_Tok2
  (e_Lok (e_st (I := eI) (er_getf (ci := 8) (k := 0) (ix := 74) (N := 17) (C := RX8) (T := TX8) rfl in_X8 (by decide) (in_t1 (List.mem_of_getElem? (i := 65) rfl) rfl) (x_dk dn_240_0_ok 30 rfl))))
  (e_Lok (e_rt (I := eI) (k := 1) ⟨(x_dk dn_240_0_ok 31 rfl), rfl⟩)))
  (e_Tok2
  (e_Lok (e_st (I := eI) (er_aload_n (i := 0) (x_dk dn_240_0_ok 32 rfl))))
  (e_Tok2
  (e_Lok (e_st (I := eI) (er_getf (ci := 11) (k := 13) (ix := 91) (N := 15) (C := RX11) (T := TX11) rfl in_X11 (by decide) (in_t4 (List.mem_of_getElem? (i := 121) rfl) rfl) (x_dk dn_240_0_ok 33 rfl))))
  (e_Lok (e_st (I := eI) (er_ifeq (off := 7) (tg := 121) (x_dk dn_240_0_ok 34 rfl) (by decide)))))))
  (e_Tok2
  (e_Tok2
  (e_Lok (e_st (I := eI) (er_iconst (n := 1) (z := 1) (v := 1) (x_dk dn_240_0_ok 35 rfl) (by decide) (by decide))))
  (e_Tok2
  (e_Lok (e_st (I := eI) (er_goto (off := 4) (tg := 122) (x_dk dn_240_0_ok 36 rfl) (by decide))))
  (e_Lok (e_st (I := eI) (er_iconst (n := 0) (z := 0) (v := 0) (x_dk dn_240_0_ok 37 rfl) (by decide) (by decide))))))
  (e_Tok2
  (e_Lok (e_rt (I := eI) (k := 1) ⟨(x_dk dn_240_0_ok 38 rfl), rfl⟩))
  (e_Tok2
  (e_Lok (e_st (I := eI) (er_iconst (n := (-1)) (z := (-1)) (v := (-1)) (x_dk dn_240_0_ok 39 rfl) (by decide) (by decide))))
  (e_Lok (e_rt (I := eI) (k := 1) ⟨(x_dk dn_240_0_ok 40 rfl), rfl⟩)))))))
def te_240 : Nat → eE := (e_T 85 te_240_0 te_240_20)
theorem te_240_ok : ∀ pc, e_EOq eft cls elay eI n_240 pc (te_240 pc) := (e_Tok2 (te_240_0_ok) (te_240_20_ok))
def dn_241_0 : List (Nat × Instr × Nat) := [(0, .iload_n 1, 1), (1, .iconst 0, 1), (2, .iconst 3, 1), (3, .invokestatic 82, 3), (6, .ifCond .eq 12, 3), (9, .aload_n 0, 1), (10, .getfield 64, 3), (13, .iload_n 1, 1), (14, .iaload, 1), (15, .goto 4, 3), (18, .iconst (-1), 1), (19, .ireturn, 1)]
set_option maxRecDepth 20000 in
theorem dn_241_0_ok : dn_241_0.all (fun q => decide (decode prog_1_method_53_code q.1 = .ok (q.2.1, q.2.2))) = true := by decide +kernel
def te_241_0 : Nat → eE := (e_T 9 (e_T 2 (e_T 0 (e_L 0 (0, ei_load 1 0 1, 0, 0)) (e_T 1 (e_L 1 (0, ei_push (0, 0) 2, 0, 0)) (e_L 2 (0, ei_push (0, 3) 3, 0, 0)))) (e_T 3 (e_L 3 (2, e_nof, 242, 3)) (e_T 6 (e_L 6 (0, ei_if1 0 18 9, 0, 0)) (e_L 9 (0, ei_load 0 2 10, 0, 0))))) (e_T 14 (e_T 10 (e_L 10 (0, ei_getf eft elay 11 10 13, 0, 0)) (e_T 13 (e_L 13 (0, ei_load 1 0 14, 0, 0)) (e_L 14 (0, ei_ald elay false 15, 0, 0)))) (e_T 15 (e_L 15 (0, ei_goto 19, 0, 0)) (e_T 18 (e_L 18 (0, ei_push (0, (-1)) 19, 0, 0)) (e_L 19 (1, e_nof, 1, 0))))))
set_option maxRecDepth 20000 in
set_option maxHeartbeats 4000000 in
theorem te_241_0_ok : ∀ pc, e_EOq eft cls elay eI n_241 pc (te_241_0 pc) :=
  (e_Tok2
  (e_Tok2
  (e_Tok2
  (e_Lok (e_st (I := eI) (er_iload_n (i := 1) (x_dk dn_241_0_ok 0 rfl))))
  (e_Tok2
  (e_Lok (e_st (I := eI) (er_iconst (n := 0) (z := 0) (v := 0) (x_dk dn_241_0_ok 1 rfl) (by decide) (by decide))))
  (e_Lok (e_st (I := eI) (er_iconst (n := 3) (z := 3) (v := 3) (x_dk dn_241_0_ok 2 rfl) (by decide) (by decide))))))
  (e_Tok2
  (e_Lok (e_ca (I := eI) (q' := n_242) rfl (xr_callS (q' := n_242) (ix := 82) (n := 3) (in_t4 (List.mem_of_getElem? (i := 168) rfl) rfl) good_w (in_t1 (List.mem_of_getElem? (i := 1) rfl) rfl) (in_t4 (List.mem_of_getElem? (i := 166) rfl) rfl) (in_t4 (List.mem_of_getElem? (i := 167) rfl) rfl) (by decide +kernel) (by decide +kernel) (x_dk dn_241_0_ok 3 rfl))))
  (e_Tok2
  (e_Lok (e_st (I := eI) (er_ifeq (off := 12) (tg := 18) (x_dk dn_241_0_ok 4 rfl) (by decide))))
  (e_Lok (e_st (I := eI) (er_aload_n (i := 0) (x_dk dn_241_0_ok 5 rfl)))))))
  (e_Tok2
  (e_Tok2
  (e_Lok (e_st (I := eI) (er_getf (ci := 11) (k := 10) (ix := 64) (N := 15) (C := RX11) (T := TX11) rfl in_X11 (by decide) (in_t4 (List.mem_of_getElem? (i := 118) rfl) rfl) (x_dk dn_241_0_ok 6 rfl))))
  (e_Tok2
  (e_Lok (e_st (I := eI) (er_iload_n (i := 1) (x_dk dn_241_0_ok 7 rfl))))
  (e_Lok (e_st (I := eI) (er_iaload (x_dk dn_241_0_ok 8 rfl))))))
  (e_Tok2
  (e_Lok (e_st (I := eI) (er_goto (off := 4) (tg := 19) (x_dk dn_241_0_ok 9 rfl) (by decide))))
  (e_Tok2
  (e_Lok (e_st (I := eI) (er_iconst (n := (-1)) (z := (-1)) (v := (-1)) (x_dk dn_241_0_ok 10 rfl) (by decide) (by decide))))
  (e_Lok (e_rt (I := eI) (k := 1) ⟨(x_dk dn_241_0_ok 11 rfl), rfl⟩))))))
def te_241 : Nat → eE := te_241_0
theorem te_241_ok : ∀ pc, e_EOq eft cls elay eI n_241 pc (te_241 pc) := te_241_0_ok
def dn_242_0 : List (Nat × Instr × Nat) := [(0, .iload_n 1, 1), (1, .iload_n 0, 1), (2, .if_icmp .gt 12, 3), (5, .iload_n 0, 1), (6, .iload_n 2, 1), (7, .if_icmp .gt 7, 3), (10, .iconst 1, 1), (11, .goto 4, 3), (14, .iconst 0, 1), (15, .ireturn, 1)]
set_option maxRecDepth 20000 in
theorem dn_242_0_ok : dn_242_0.all (fun q => decide (decode prog_1_method_54_code q.1 = .ok (q.2.1, q.2.2))) = true := by decide +kernel
def te_242_0 : Nat → eE := (e_T 6 (e_T 1 (e_T 0 (e_L 0 (0, ei_load 1 0 1, 0, 0)) (e_L 1 (0, ei_load 0 0 2, 0, 0))) (e_T 2 (e_L 2 (0, ei_if2 4 14 5, 0, 0)) (e_T 5 (e_L 5 (0, ei_load 0 0 6, 0, 0)) (e_L 6 (0, ei_load 2 0 7, 0, 0))))) (e_T 10 (e_T 7 (e_L 7 (0, ei_if2 4 14 10, 0, 0)) (e_L 10 (0, ei_push (0, 1) 11, 0, 0))) (e_T 11 (e_L 11 (0, ei_goto 15, 0, 0)) (e_T 14 (e_L 14 (0, ei_push (0, 0) 15, 0, 0)) (e_L 15 (1, e_nof, 4, 0))))))
set_option maxRecDepth 20000 in
set_option maxHeartbeats 4000000 in
theorem te_242_0_ok : ∀ pc, e_EOq eft cls elay eI n_242 pc (te_242_0 pc) :=
  (e_Tok2
  (e_Tok2
  (e_Tok2
  (e_Lok (e_st (I := eI) (er_iload_n (i := 1) (x_dk dn_242_0_ok 0 rfl))))
  (e_Lok (e_st (I := eI) (er_iload_n (i := 0) (x_dk dn_242_0_ok 1 rfl)))))
  (e_Tok2
  (e_Lok (e_st (I := eI) (er_icmpgt (off := 12) (tg := 14) (x_dk dn_242_0_ok 2 rfl) (by decide))))
  (e_Tok2
  (e_Lok (e_st (I := eI) (er_iload_n (i := 0) (x_dk dn_242_0_ok 3 rfl))))
  (e_Lok (e_st (I := eI) (er_iload_n (i := 2) (x_dk dn_242_0_ok 4 rfl)))))))
  (e_Tok2
  (e_Tok2
  (e_Lok (e_st (I := eI) (er_icmpgt (off := 7) (tg := 14) (x_dk dn_242_0_ok 5 rfl) (by decide))))
  (e_Lok (e_st (I := eI) (er_iconst (n := 1) (z := 1) (v := 1) (x_dk dn_242_0_ok 6 rfl) (by decide) (by decide)))))
  (e_Tok2
  (e_Lok (e_st (I := eI) (er_goto (off := 4) (tg := 15) (x_dk dn_242_0_ok 7 rfl) (by decide))))
  (e_Tok2
  (e_Lok (e_st (I := eI) (er_iconst (n := 0) (z := 0) (v := 0) (x_dk dn_242_0_ok 8 rfl) (by decide) (by decide))))
  (e_Lok (e_rt (I := eI) (k := 4) ⟨(x_dk dn_242_0_ok 9 rfl), rfl⟩))))))
def te_242 : Nat → eE := te_242_0
theorem te_242_ok : ∀ pc, e_EOq eft cls elay eI n_242 pc (te_242 pc) := te_242_0_ok
def dn_243_0 : List (Nat × Instr × Nat) := [(0, .iload_n 0, 1), (1, .sipush (-16000), 3), (4, .sipush 16000, 3), (7, .invokestatic 82, 3), (10, .ifCond .eq 20, 3), (13, .iload_n 1, 1), (14, .sipush (-16000), 3), (17, .sipush 16000, 3), (20, .invokestatic 82, 3), (23, .ifCond .eq 7, 3), (26, .iconst 1, 1), (27, .goto 4, 3), (30, .iconst 0, 1), (31, .ireturn, 1)]
set_option maxRecDepth 20000 in
theorem dn_243_0_ok : dn_243_0.all (fun q => decide (decode prog_1_method_55_code q.1 = .ok (q.2.1, q.2.2))) = true := by decide +kernel
def te_243_0 : Nat → eE := (e_T 14 (e_T 4 (e_T 0 (e_L 0 (0, ei_load 0 0 1, 0, 0)) (e_T 1 (e_L 1 (0, ei_push (0, (-16000)) 4, 0, 0)) (e_L 4 (0, ei_push (0, 16000) 7, 0, 0)))) (e_T 10 (e_T 7 (e_L 7 (2, e_nof, 242, 3)) (e_L 10 (0, ei_if1 0 30 13, 0, 0))) (e_T 13 (e_L 13 (0, ei_load 1 0 14, 0, 0)) (e_L 14 (0, ei_push (0, (-16000)) 17, 0, 0))))) (e_T 23 (e_T 17 (e_L 17 (0, ei_push (0, 16000) 20, 0, 0)) (e_T 20 (e_L 20 (2, e_nof, 242, 3)) (e_L 23 (0, ei_if1 0 30 26, 0, 0)))) (e_T 27 (e_T 26 (e_L 26 (0, ei_push (0, 1) 27, 0, 0)) (e_L 27 (0, ei_goto 31, 0, 0))) (e_T 30 (e_L 30 (0, ei_push (0, 0) 31, 0, 0)) (e_L 31 (1, e_nof, 4, 0))))))
set_option maxRecDepth 20000 in
set_option maxHeartbeats 4000000 in
theorem te_243_0_ok : ∀ pc, e_EOq eft cls elay eI n_243 pc (te_243_0 pc) :=
  (e_Tok2
  (e_Tok2
  (e_Tok2
  (e_Lok (e_st (I := eI) (er_iload_n (i := 0) (x_dk dn_243_0_ok 0 rfl))))
  (e_Tok2
  (e_Lok (e_st (I := eI) (er_sipush (n := (-16000)) (z := (-16000)) (v := (-16000)) (x_dk dn_243_0_ok 1 rfl) (by decide) (by decide))))
  (e_Lok (e_st (I := eI) (er_sipush (n := 16000) (z := 16000) (v := 16000) (x_dk dn_243_0_ok 2 rfl) (by decide) (by decide))))))
  (e_Tok2
  (e_Tok2
  (e_Lok (e_ca (I := eI) (q' := n_242) rfl (xr_callS (q' := n_242) (ix := 82) (n := 3) (in_t4 (List.mem_of_getElem? (i := 168) rfl) rfl) good_w (in_t1 (List.mem_of_getElem? (i := 1) rfl) rfl) (in_t4 (List.mem_of_getElem? (i := 166) rfl) rfl) (in_t4 (List.mem_of_getElem? (i := 167) rfl) rfl) (by decide +kernel) (by decide +kernel) (x_dk dn_243_0_ok 3 rfl))))
  (e_Lok (e_st (I := eI) (er_ifeq (off := 20) (tg := 30) (x_dk dn_243_0_ok 4 rfl) (by decide)))))
  (e_Tok2
  (e_Lok (e_st (I := eI) (er_iload_n (i := 1) (x_dk dn_243_0_ok 5 rfl))))
  (e_Lok (e_st (I := eI) (er_sipush (n := (-16000)) (z := (-16000)) (v := (-16000)) (x_dk dn_243_0_ok 6 rfl) (by decide) (by decide)))))))
  (e_Tok2
  (e_Tok2
  (e_Lok (e_st (I := eI) (er_sipush (n := 16000) (z := 16000) (v := 16000) (x_dk dn_243_0_ok 7 rfl) (by decide) (by decide))))
  (e_Tok2
  (e_Lok (e_ca (I := eI) (q' := n_242) rfl (xr_callS (q' := n_242) (ix := 82) (n := 3) (in_t4 (List.mem_of_getElem? (i := 168) rfl) rfl) good_w (in_t1 (List.mem_of_getElem? (i := 1) rfl) rfl) (in_t4 (List.mem_of_getElem? (i := 166) rfl) rfl) (in_t4 (List.mem_of_getElem? (i := 167) rfl) rfl) (by decide +kernel) (by decide +kernel) (x_dk dn_243_0_ok 8 rfl))))
  (e_Lok (e_st (I := eI) (er_ifeq (off := 7) (tg := 30) (x_dk dn_243_0_ok 9 rfl) (by decide))))))
  (e_Tok2
  (e_Tok2
  (e_Lok (e_st (I := eI) (er_iconst (n := 1) (z := 1) (v := 1) (x_dk dn_243_0_ok 10 rfl) (by decide) (by decide))))
  (e_Lok (e_st (I := eI) (er_goto (off := 4) (tg := 31) (x_dk dn_243_0_ok 11 rfl) (by decide)))))
  (e_Tok2
  (e_Lok (e_st (I := eI) (er_iconst (n := 0) (z := 0) (v := 0) (x_dk dn_243_0_ok 12 rfl) (by decide) (by decide))))
  (e_Lok (e_rt (I := eI) (k := 4) ⟨(x_dk dn_243_0_ok 13 rfl), rfl⟩))))))
def te_243 : Nat → eE := te_243_0
theorem te_243_ok : ∀ pc, e_EOq eft cls elay eI n_243 pc (te_243 pc) := te_243_0_ok
def dn_244_0 : List (Nat × Instr × Nat) := [(0, .iload_n 0, 1), (1, .iload_n 1, 1), (2, .invokestatic 138, 3), (5, .ifCond .eq 33, 3), (8, .iload_n 2, 1), (9, .iconst 0, 1), (10, .sipush 16000, 3), (13, .iload_n 0, 1), (14, .isub, 1), (15, .invokestatic 82, 3), (18, .ifCond .eq 20, 3), (21, .iload_n 3, 1), (22, .iconst 0, 1), (23, .sipush 16000, 3), (26, .iload_n 1, 1), (27, .isub, 1), (28, .invokestatic 82, 3), (31, .ifCond .eq 7, 3), (34, .iconst 1, 1), (35, .goto 4, 3), (38, .iconst 0, 1), (39, .ireturn, 1)]
set_option maxRecDepth 20000 in
theorem dn_244_0_ok : dn_244_0.all (fun q => decide (decode prog_1_method_56_code q.1 = .ok (q.2.1, q.2.2))) = true := by decide +kernel
def te_244_0 : Nat → eE := (e_T 18 (e_T 8 (e_T 1 (e_T 0 (e_L 0 (0, ei_load 0 0 1, 0, 0)) (e_L 1 (0, ei_load 1 0 2, 0, 0))) (e_T 2 (e_L 2 (2, e_nof, 243, 2)) (e_T 5 (e_L 5 (0, ei_if1 0 38 8, 0, 0)) (e_L 8 (0, ei_load 2 0 9, 0, 0))))) (e_T 13 (e_T 9 (e_L 9 (0, ei_push (0, 0) 10, 0, 0)) (e_T 10 (e_L 10 (0, ei_push (0, 16000) 13, 0, 0)) (e_L 13 (0, ei_load 0 0 14, 0, 0)))) (e_T 14 (e_L 14 (0, ei_bin eF_sub 15, 0, 0)) (e_T 15 (e_L 15 (2, e_nof, 242, 3)) (e_L 18 (0, ei_if1 0 38 21, 0, 0)))))) (e_T 27 (e_T 22 (e_T 21 (e_L 21 (0, ei_load 3 0 22, 0, 0)) (e_L 22 (0, ei_push (0, 0) 23, 0, 0))) (e_T 23 (e_L 23 (0, ei_push (0, 16000) 26, 0, 0)) (e_T 26 (e_L 26 (0, ei_load 1 0 27, 0, 0)) (e_L 27 (0, ei_bin eF_sub 28, 0, 0))))) (e_T 34 (e_T 28 (e_L 28 (2, e_nof, 242, 3)) (e_T 31 (e_L 31 (0, ei_if1 0 38 34, 0, 0)) (e_L 34 (0, ei_push (0, 1) 35, 0, 0)))) (e_T 35 (e_L 35 (0, ei_goto 39, 0, 0)) (e_T 38 (e_L 38 (0, ei_push (0, 0) 39, 0, 0)) (e_L 39 (1, e_nof, 4, 0)))))))
set_option maxRecDepth 20000 in
set_option maxHeartbeats 4000000 in
theorem te_244_0_ok : ∀ pc, e_EOq eft cls elay eI n_244 pc (te_244_0 pc) :=
  (e_Tok2
  (e_Tok2
  (e_Tok2
  (e_Tok2
  (e_Lok (e_st (I := eI) (er_iload_n (i := 0) (x_dk dn_244_0_ok 0 rfl))))
  (e_Lok (e_st (I := eI) (er_iload_n (i := 1) (x_dk dn_244_0_ok 1 rfl)))))
  (e_Tok2
  (e_Lok (e_ca (I := eI) (q' := n_243) rfl (xr_callS (q' := n_243) (ix := 138) (n := 2) (in_t4 (List.mem_of_getElem? (i := 212) rfl) rfl) good_w (in_t1 (List.mem_of_getElem? (i := 1) rfl) rfl) (in_t4 (List.mem_of_getElem? (i := 210) rfl) rfl) (in_t4 (List.mem_of_getElem? (i := 211) rfl) rfl) (by decide +kernel) (by decide +kernel) (x_dk dn_244_0_ok 2 rfl))))
  (e_Tok2
  (e_Lok (e_st (I := eI) (er_ifeq (off := 33) (tg := 38) (x_dk dn_244_0_ok 3 rfl) (by decide))))
  (e_Lok (e_st (I := eI) (er_iload_n (i := 2) (x_dk dn_244_0_ok 4 rfl)))))))
  (e_Tok2
  (e_Tok2
  (e_Lok (e_st (I := eI) (er_iconst (n := 0) (z := 0) (v := 0) (x_dk dn_244_0_ok 5 rfl) (by decide) (by decide))))
  (e_Tok2
  (e_Lok (e_st (I := eI) (er_sipush (n := 16000) (z := 16000) (v := 16000) (x_dk dn_244_0_ok 6 rfl) (by decide) (by decide))))
  (e_Lok (e_st (I := eI) (er_iload_n (i := 0) (x_dk dn_244_0_ok 7 rfl))))))
  (e_Tok2
  (e_Lok (e_st (I := eI) (er_isub (x_dk dn_244_0_ok 8 rfl))))
  (e_Tok2
  (e_Lok (e_ca (I := eI) (q' := n_242) rfl (xr_callS (q' := n_242) (ix := 82) (n := 3) (in_t4 (List.mem_of_getElem? (i := 168) rfl) rfl) good_w (in_t1 (List.mem_of_getElem? (i := 1) rfl) rfl) (in_t4 (List.mem_of_getElem? (i := 166) rfl) rfl) (in_t4 (List.mem_of_getElem? (i := 167) rfl) rfl) (by decide +kernel) (by decide +kernel) (x_dk dn_244_0_ok 9 rfl))))
  (e_Lok (e_st (I := eI) (er_ifeq (off := 20) (tg := 38) (x_dk dn_244_0_ok 10 rfl) (by decide))))))))
  (e_Tok2
  (e_Tok2
  (e_Tok2
  (e_Lok (e_st (I := eI) (er_iload_n (i := 3) (x_dk dn_244_0_ok 11 rfl))))
  (e_Lok (e_st (I := eI) (er_iconst (n := 0) (z := 0) (v := 0) (x_dk dn_244_0_ok 12 rfl) (by decide) (by decide)))))
  (e_Tok2
  (e_Lok (e_st (I := eI) (er_sipush (n := 16000) (z := 16000) (v := 16000) (x_dk dn_244_0_ok 13 rfl) (by decide) (by decide))))
  (e_Tok2
  (e_Lok (e_st (I := eI) (er_iload_n (i := 1) (x_dk dn_244_0_ok 14 rfl))))
  (e_Lok (e_st (I := eI) (er_isub (x_dk dn_244_0_ok 15 rfl)))))))
  (e_Tok2
  (e_Tok2
  (e_Lok (e_ca (I := eI) (q' := n_242) rfl (xr_callS (q' := n_242) (ix := 82) (n := 3) (in_t4 (List.mem_of_getElem? (i := 168) rfl) rfl) good_w (in_t1 (List.mem_of_getElem? (i := 1) rfl) rfl) (in_t4 (List.mem_of_getElem? (i := 166) rfl) rfl) (in_t4 (List.mem_of_getElem? (i := 167) rfl) rfl) (by decide +kernel) (by decide +kernel) (x_dk dn_244_0_ok 16 rfl))))
  (e_Tok2
  (e_Lok (e_st (I := eI) (er_ifeq (off := 7) (tg := 38) (x_dk dn_244_0_ok 17 rfl) (by decide))))
  (e_Lok (e_st (I := eI) (er_iconst (n := 1) (z := 1) (v := 1) (x_dk dn_244_0_ok 18 rfl) (by decide) (by decide))))))
  (e_Tok2
  (e_Lok (e_st (I := eI) (er_goto (off := 4) (tg := 39) (x_dk dn_244_0_ok 19 rfl) (by decide))))
  (e_Tok2
  (e_Lok (e_st (I := eI) (er_iconst (n := 0) (z := 0) (v := 0) (x_dk dn_244_0_ok 20 rfl) (by decide) (by decide))))
  (e_Lok (e_rt (I := eI) (k := 4) ⟨(x_dk dn_244_0_ok 21 rfl), rfl⟩)))))))
def te_244 : Nat → eE := te_244_0
theorem te_244_ok : ∀ pc, e_EOq eft cls elay eI n_244 pc (te_244 pc) := te_244_0_ok
end
