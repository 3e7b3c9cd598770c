noncomputable section
theorem ho_450 : (xm_y n_450).cls = "RobotCellHouseModel" := rfl
def dn_450_0_0 : List (Nat × Instr × Nat) := [(0, .iload_n 1, 1), (1, .tableswitch 104 0 8 #[51, 56, 61, 66, 71, 76, 81, 86, 91], 51), (52, .aload_n 0, 1), (53, .getfield 269, 3), (56, .ireturn, 1), (57, .aload_n 0, 1), (58, .getfield 273, 3), (61, .ireturn, 1), (62, .aload_n 0, 1), (63, .getfield 276, 3), (66, .ireturn, 1), (67, .aload_n 0, 1), (68, .getfield 279, 3), (71, .ireturn, 1), (72, .aload_n 0, 1), (73, .getfield 282, 3), (76, .ireturn, 1), (77, .aload_n 0, 1), (78, .getfield 285, 3), (81, .ireturn, 1), (82, .aload_n 0, 1), (83, .getfield 288, 3), (86, .ireturn, 1), (87, .aload_n 0, 1), (88, .getfield 317, 3)]
set_option maxRecDepth 20000 in
theorem dn_450_0_0_ok : dn_450_0_0.all (fun q => decide (decode (xm_b n_450) q.1 = .ok (q.2.1, q.2.2))) = true := xa_g_ok (by decide +kernel)
def dn_450_0_1 : List (Nat × Instr × Nat) := [(91, .ireturn, 1), (92, .aload_n 0, 1), (93, .getfield 265, 3), (96, .ifCond .eq 7, 3), (99, .iconst 1, 1), (100, .goto 4, 3), (103, .iconst 0, 1), (104, .ireturn, 1), (105, .iconst (-1), 1), (106, .ireturn, 1)]
set_option maxRecDepth 20000 in
theorem dn_450_0_1_ok : dn_450_0_1.all (fun q => decide (decode (xm_b n_450) q.1 = .ok (q.2.1, q.2.2))) = true := xa_g_ok (by decide +kernel)
def te_450_0 : Nat → eE := (e_T 76 (e_T 61 (e_T 53 (e_T 1 (e_T 0 (e_L 0 (0, ei_load 1 0 1, 0, 0)) (e_L 1 (0, ei_sw [((-2147483648), (-1), 105), (0, 0, 52), (1, 1, 57), (2, 2, 62), (3, 3, 67), (4, 4, 72), (5, 5, 77), (6, 6, 82), (7, 7, 87), (8, 8, 92), (9, 2147483647, 105)], 0, 0))) (e_T 52 (e_L 52 (0, ei_load 0 2 53, 0, 0)) (e_L 53 (0, ei_getf eft elay 12 10 56, 0, 0)))) (e_T 57 (e_T 56 (e_L 56 (1, e_nof, 1, 0)) (e_L 57 (0, ei_load 0 2 58, 0, 0))) (e_T 58 (e_L 58 (0, ei_getf eft elay 12 23 61, 0, 0)) (e_L 61 (1, e_nof, 1, 0))))) (e_T 67 (e_T 63 (e_T 62 (e_L 62 (0, ei_load 0 2 63, 0, 0)) (e_L 63 (0, ei_getf eft elay 12 30 66, 0, 0))) (e_T 66 (e_L 66 (1, e_nof, 1, 0)) (e_L 67 (0, ei_load 0 2 68, 0, 0)))) (e_T 71 (e_T 68 (e_L 68 (0, ei_getf eft elay 12 40 71, 0, 0)) (e_L 71 (1, e_nof, 1, 0))) (e_T 72 (e_L 72 (0, ei_load 0 2 73, 0, 0)) (e_T 73 (e_L 73 (0, ei_getf eft elay 12 42 76, 0, 0)) (e_L 76 (1, e_nof, 1, 0))))))) (e_T 91 (e_T 82 (e_T 78 (e_T 77 (e_L 77 (0, ei_load 0 2 78, 0, 0)) (e_L 78 (0, ei_getf eft elay 12 49 81, 0, 0))) (e_T 81 (e_L 81 (1, e_nof, 1, 0)) (e_L 82 (0, ei_load 0 2 83, 0, 0)))) (e_T 86 (e_T 83 (e_L 83 (0, ei_getf eft elay 12 5 86, 0, 0)) (e_L 86 (1, e_nof, 1, 0))) (e_T 87 (e_L 87 (0, ei_load 0 2 88, 0, 0)) (e_T 88 (e_L 88 (0, ei_getf eft elay 12 9 91, 0, 0)) (e_L 91 (1, e_nof, 1, 0)))))) (e_T 99 (e_T 93 (e_T 92 (e_L 92 (0, ei_load 0 2 93, 0, 0)) (e_L 93 (0, ei_getf eft elay 12 3 96, 0, 0))) (e_T 96 (e_L 96 (0, ei_if1 0 103 99, 0, 0)) (e_L 99 (0, ei_push (0, 1) 100, 0, 0)))) (e_T 103 (e_T 100 (e_L 100 (0, ei_goto 104, 0, 0)) (e_L 103 (0, ei_push (0, 0) 104, 0, 0))) (e_T 104 (e_L 104 (1, e_nof, 1, 0)) (e_T 105 (e_L 105 (0, ei_push (0, (-1)) 106, 0, 0)) (e_L 106 (1, e_nof, 1, 0))))))))
set_option maxRecDepth 20000 in
set_option maxHeartbeats 4000000 in
theorem te_450_0_ok : ∀ pc, e_EOq eft cls elay eI n_450 pc (te_450_0 pc) :=
  (e_Tok2
  (e_Tok2
  (e_Tok2
  (e_Tok2
  (e_Tok2
  (e_Lok (ld_iload_n_1 (x_dk dn_450_0_0_ok 0 rfl)))
  (e_Lok (e_st (I := eI) (er_tsw (dflt := 104) (lo := 0) (hi := 8) (offs := #[51, 56, 61, 66, 71, 76, 81, 86, 91]) (len := 51) (n := 9) (x_dk dn_450_0_0_ok 1 rfl) (by decide) (by decide +kernel)) nx_sw)))
  (e_Tok2
  (e_Lok (ld_aload_n_0 (x_dk dn_450_0_0_ok 2 rfl)))
  (e_Lok (lk_12_269g ho_450 (x_dk dn_450_0_0_ok 3 rfl)))))
  (e_Tok2
  (e_Tok2
  (e_Lok (e_rt (I := eI) (k := 1) ⟨(x_dk dn_450_0_0_ok 4 rfl), rfl⟩))
  (e_Lok (ld_aload_n_0 (x_dk dn_450_0_0_ok 5 rfl))))
  (e_Tok2
  (e_Lok (lk_12_273g ho_450 (x_dk dn_450_0_0_ok 6 rfl)))
  (e_Lok (e_rt (I := eI) (k := 1) ⟨(x_dk dn_450_0_0_ok 7 rfl), rfl⟩)))))
  (e_Tok2
  (e_Tok2
  (e_Tok2
  (e_Lok (ld_aload_n_0 (x_dk dn_450_0_0_ok 8 rfl)))
  (e_Lok (lk_12_276g ho_450 (x_dk dn_450_0_0_ok 9 rfl))))
  (e_Tok2
  (e_Lok (e_rt (I := eI) (k := 1) ⟨(x_dk dn_450_0_0_ok 10 rfl), rfl⟩))
  (e_Lok (ld_aload_n_0 (x_dk dn_450_0_0_ok 11 rfl)))))
  (e_Tok2
  (e_Tok2
  (e_Lok (lk_12_279g ho_450 (x_dk dn_450_0_0_ok 12 rfl)))
  (e_Lok (e_rt (I := eI) (k := 1) ⟨(x_dk dn_450_0_0_ok 13 rfl), rfl⟩)))
  (e_Tok2
  (e_Lok (ld_aload_n_0 (x_dk dn_450_0_0_ok 14 rfl)))
  (e_Tok2
  (e_Lok (lk_12_282g ho_450 (x_dk dn_450_0_0_ok 15 rfl)))
  (e_Lok (e_rt (I := eI) (k := 1) ⟨(x_dk dn_450_0_0_ok 16 rfl), rfl⟩)))))))
  (e_Tok2
  (e_Tok2
  (e_Tok2
  (e_Tok2
  (e_Lok (ld_aload_n_0 (x_dk dn_450_0_0_ok 17 rfl)))
  (e_Lok (lk_12_285g ho_450 (x_dk dn_450_0_0_ok 18 rfl))))
  (e_Tok2
  (e_Lok (e_rt (I := eI) (k := 1) ⟨(x_dk dn_450_0_0_ok 19 rfl), rfl⟩))
  (e_Lok (ld_aload_n_0 (x_dk dn_450_0_0_ok 20 rfl)))))
  (e_Tok2
  (e_Tok2
  (e_Lok (lk_12_288g ho_450 (x_dk dn_450_0_0_ok 21 rfl)))
  (e_Lok (e_rt (I := eI) (k := 1) ⟨(x_dk dn_450_0_0_ok 22 rfl), rfl⟩)))
  (e_Tok2
  (e_Lok (ld_aload_n_0 (x_dk dn_450_0_0_ok 23 rfl)))
  (e_Tok2
  (e_Lok (lk_12_317g ho_450 (x_dk dn_450_0_0_ok 24 rfl)))
  (e_Lok (e_rt (I := eI) (k := 1) ⟨(x_dk dn_450_0_1_ok 0 rfl), rfl⟩))))))
  (e_Tok2
  (e_Tok2
  (e_Tok2
  (e_Lok (ld_aload_n_0 (x_dk dn_450_0_1_ok 1 rfl)))
  (e_Lok (lk_12_265g ho_450 (x_dk dn_450_0_1_ok 2 rfl))))
  (e_Tok2
  (e_Lok (e_st (I := eI) (er_ifeq (off := 7) (tg := 103) (x_dk dn_450_0_1_ok 3 rfl) (by decide)) nx_if1))
  (e_Lok (ps_iconst_1 (x_dk dn_450_0_1_ok 4 rfl)))))
  (e_Tok2
  (e_Tok2
  (e_Lok (e_st (I := eI) (er_goto (off := 4) (tg := 104) (x_dk dn_450_0_1_ok 5 rfl) (by decide)) nx_goto))
  (e_Lok (ps_iconst_0 (x_dk dn_450_0_1_ok 6 rfl))))
  (e_Tok2
  (e_Lok (e_rt (I := eI) (k := 1) ⟨(x_dk dn_450_0_1_ok 7 rfl), rfl⟩))
  (e_Tok2
  (e_Lok (ps_iconst_m1 (x_dk dn_450_0_1_ok 8 rfl)))
  (e_Lok (e_rt (I := eI) (k := 1) ⟨(x_dk dn_450_0_1_ok 9 rfl), rfl⟩))))))))
def te_450 : Nat → eE := te_450_0
theorem te_450_ok : ∀ pc, e_EOq eft cls elay eI n_450 pc (te_450 pc) := te_450_0_ok
theorem ho_451 : (xm_y n_451).cls = "RobotCellHouseModel" := rfl
def dn_451_0_0 : List (Nat × Instr × Nat) := [(0, .iload_n 1, 1), (1, .i2l, 1), (2, .lconst 0, 1), (3, .ldc2_w 348, 3), (6, .invokestatic 301, 3), (9, .ifCond .eq 12, 3), (12, .aload_n 0, 1), (13, .getfield 24, 3), (16, .iload_n 1, 1), (17, .iaload, 1), (18, .goto 4, 3), (21, .iconst (-1), 1), (22, .ireturn, 1)]
set_option maxRecDepth 20000 in
theorem dn_451_0_0_ok : dn_451_0_0.all (fun q => decide (decode (xm_b n_451) q.1 = .ok (q.2.1, q.2.2))) = true := xa_g_ok (by decide +kernel)
def te_451_0 : Nat → eE := (e_T 9 (e_T 2 (e_T 0 (e_L 0 (0, ei_load 1 0 1, 0, 0)) (e_T 1 (e_L 1 (0, ei_un (fun x => (4, x)) 2, 0, 0)) (e_L 2 (0, ei_push (4, 0) 3, 0, 0)))) (e_T 3 (e_L 3 (0, ei_push (4, 3) 6, 0, 0)) (e_T 6 (e_L 6 (2, e_nof, 266, 3)) (e_L 9 (0, ei_if1 0 21 12, 0, 0))))) (e_T 16 (e_T 12 (e_L 12 (0, ei_load 0 2 13, 0, 0)) (e_T 13 (e_L 13 (0, ei_getf eft elay 12 7 16, 0, 0)) (e_L 16 (0, ei_load 1 0 17, 0, 0)))) (e_T 18 (e_T 17 (e_L 17 (0, ei_ald elay false 18, 0, 0)) (e_L 18 (0, ei_goto 22, 0, 0))) (e_T 21 (e_L 21 (0, ei_push (0, (-1)) 22, 0, 0)) (e_L 22 (1, e_nof, 1, 0))))))
set_option maxRecDepth 20000 in
set_option maxHeartbeats 4000000 in
theorem te_451_0_ok : ∀ pc, e_EOq eft cls elay eI n_451 pc (te_451_0 pc) :=
  (e_Tok2
  (e_Tok2
  (e_Tok2
  (e_Lok (ld_iload_n_1 (x_dk dn_451_0_0_ok 0 rfl)))
  (e_Tok2
  (e_Lok (e_st (I := eI) (er_i2l (x_dk dn_451_0_0_ok 1 rfl)) (nx_un (fun _ => rfl))))
  (e_Lok (ps_lconst_0 (x_dk dn_451_0_0_ok 2 rfl)))))
  (e_Tok2
  (e_Lok (e_st (I := eI) (er_ldc2 (ix := 348) (z := 3) (v := 3) (x_dk dn_451_0_0_ok 3 rfl) (in_t11 (List.mem_of_getElem? (i := 71) rfl) rfl) (by decide)) (nx_push (Or.inl rfl))))
  (e_Tok2
  (e_Lok (lk_12_301 ho_451 (x_dk dn_451_0_0_ok 4 rfl)))
  (e_Lok (e_st (I := eI) (er_ifeq (off := 12) (tg := 21) (x_dk dn_451_0_0_ok 5 rfl) (by decide)) nx_if1)))))
  (e_Tok2
  (e_Tok2
  (e_Lok (ld_aload_n_0 (x_dk dn_451_0_0_ok 6 rfl)))
  (e_Tok2
  (e_Lok (lk_12_24g ho_451 (x_dk dn_451_0_0_ok 7 rfl)))
  (e_Lok (ld_iload_n_1 (x_dk dn_451_0_0_ok 8 rfl)))))
  (e_Tok2
  (e_Tok2
  (e_Lok (sm_iaload (x_dk dn_451_0_0_ok 9 rfl)))
  (e_Lok (e_st (I := eI) (er_goto (off := 4) (tg := 22) (x_dk dn_451_0_0_ok 10 rfl) (by decide)) nx_goto)))
  (e_Tok2
  (e_Lok (ps_iconst_m1 (x_dk dn_451_0_0_ok 11 rfl)))
  (e_Lok (e_rt (I := eI) (k := 1) ⟨(x_dk dn_451_0_0_ok 12 rfl), rfl⟩))))))
def te_451 : Nat → eE := te_451_0
theorem te_451_ok : ∀ pc, e_EOq eft cls elay eI n_451 pc (te_451 pc) := te_451_0_ok
theorem ho_452 : (xm_y n_452).cls = "java/util/Arrays" := rfl
def dn_452_0_0 : List (Nat × Instr × Nat) := [(0, .iconst 0, 1), (1, .istore_n 2, 1), (2, .aload_n 0, 1), (3, .arraylength, 1), (4, .istore_n 3, 1), (5, .iload_n 2, 1), (6, .iload_n 3, 1), (7, .if_icmp .ge 13, 3), (10, .aload_n 0, 1), (11, .iload_n 2, 1), (12, .iload_n 1, 1), (13, .iastore, 1), (14, .iinc 2 1, 3), (17, .goto (-12), 3), (20, .return_, 1)]
set_option maxRecDepth 20000 in
theorem dn_452_0_0_ok : dn_452_0_0.all (fun q => decide (decode (xm_b n_452) q.1 = .ok (q.2.1, q.2.2))) = true := xa_g_ok (by decide +kernel)
def te_452_0 : Nat → eE := (e_T 6 (e_T 2 (e_T 0 (e_L 0 (0, ei_push (0, 0) 1, 0, 0)) (e_T 1 (e_L 1 (0, ei_stor 2 0 2, 0, 0)) (e_L 2 (0, ei_load 0 2 3, 0, 0)))) (e_T 4 (e_T 3 (e_L 3 (0, ei_alen elay 4, 0, 0)) (e_L 4 (0, ei_stor 3 0 5, 0, 0))) (e_T 5 (e_L 5 (0, ei_load 2 0 6, 0, 0)) (e_L 6 (0, ei_load 3 0 7, 0, 0))))) (e_T 12 (e_T 10 (e_T 7 (e_L 7 (0, ei_if2 3 20 10, 0, 0)) (e_L 10 (0, ei_load 0 2 11, 0, 0))) (e_T 11 (e_L 11 (0, ei_load 2 0 12, 0, 0)) (e_L 12 (0, ei_load 1 0 13, 0, 0)))) (e_T 14 (e_T 13 (e_L 13 (0, ei_ast elay false 14, 0, 0)) (e_L 14 (0, ei_inc 2 1 17, 0, 0))) (e_T 17 (e_L 17 (0, ei_goto 5, 0, 0)) (e_L 20 (1, e_nof, 0, 0))))))
set_option maxRecDepth 20000 in
set_option maxHeartbeats 4000000 in
theorem te_452_0_ok : ∀ pc, e_EOq eft cls elay eI n_452 pc (te_452_0 pc) :=
  (e_Tok2
  (e_Tok2
  (e_Tok2
  (e_Lok (ps_iconst_0 (x_dk dn_452_0_0_ok 0 rfl)))
  (e_Tok2
  (e_Lok (e_st (I := eI) (er_istore_n (i := 2) (x_dk dn_452_0_0_ok 1 rfl) (by decide +kernel)) nx_stor))
  (e_Lok (ld_aload_n_0 (x_dk dn_452_0_0_ok 2 rfl)))))
  (e_Tok2
  (e_Tok2
  (e_Lok (e_st (I := eI) (er_alen (x_dk dn_452_0_0_ok 3 rfl)) nx_alen))
  (e_Lok (e_st (I := eI) (er_istore_n (i := 3) (x_dk dn_452_0_0_ok 4 rfl) (by decide +kernel)) nx_stor)))
  (e_Tok2
  (e_Lok (ld_iload_n_2 (x_dk dn_452_0_0_ok 5 rfl)))
  (e_Lok (ld_iload_n_3 (x_dk dn_452_0_0_ok 6 rfl))))))
  (e_Tok2
  (e_Tok2
  (e_Tok2
  (e_Lok (e_st (I := eI) (er_icmpge (off := 13) (tg := 20) (x_dk dn_452_0_0_ok 7 rfl) (by decide)) nx_if2))
  (e_Lok (ld_aload_n_0 (x_dk dn_452_0_0_ok 8 rfl))))
  (e_Tok2
  (e_Lok (ld_iload_n_2 (x_dk dn_452_0_0_ok 9 rfl)))
  (e_Lok (ld_iload_n_1 (x_dk dn_452_0_0_ok 10 rfl)))))
  (e_Tok2
  (e_Tok2
  (e_Lok (sm_iastore (x_dk dn_452_0_0_ok 11 rfl)))
  (e_Lok (e_st (I := eI) (er_iinc (i := 2) (n := 1) (x_dk dn_452_0_0_ok 12 rfl) (by decide +kernel) (by decide)) nx_inc)))
  (e_Tok2
  (e_Lok (e_st (I := eI) (er_goto (off := (-12)) (tg := 5) (x_dk dn_452_0_0_ok 13 rfl) (by decide)) nx_goto))
  (e_Lok (e_rt (I := eI) (k := 0) ⟨(x_dk dn_452_0_0_ok 14 rfl), rfl⟩))))))
def te_452 : Nat → eE := te_452_0
theorem te_452_ok : ∀ pc, e_EOq eft cls elay eI n_452 pc (te_452 pc) := te_452_0_ok
end
