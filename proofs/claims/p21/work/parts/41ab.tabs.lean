noncomputable section
theorem ho_18 : (xm_y n_18).cls = "RobotCellHouse$Arm" := rfl
def dn_18_0_0 : List (Nat × Instr × Nat) := [(0, .iconst 0, 1), (1, .istore_n 1, 1), (2, .iconst 0, 1), (3, .istore_n 2, 1), (4, .iload_n 2, 1), (5, .aload_n 0, 1), (6, .getfield 44, 3), (9, .if_icmp .ge 23, 3), (12, .iload_n 1, 1), (13, .aload_n 0, 1), (14, .getfield 11, 3), (17, .iload_n 2, 1), (18, .aaload, 1), (19, .invokevirtual 158, 3), (22, .invokestatic 161, 3), (25, .istore_n 1, 1), (26, .iinc 2 1, 3), (29, .goto (-25), 3), (32, .iload_n 1, 1), (33, .ireturn, 1)]
set_option maxRecDepth 20000 in
theorem dn_18_0_0_ok : dn_18_0_0.all (fun q => decide (decode (xm_b n_18) q.1 = .ok (q.2.1, q.2.2))) = true := xa_g_ok (by decide +kernel)
def te_18_0 : Nat → eE := (e_T 13 (e_T 4 (e_T 1 (e_T 0 (e_L 0 (0, ei_push (0, 0) 1, 0, 0)) (e_L 1 (0, ei_stor 1 0 2, 0, 0))) (e_T 2 (e_L 2 (0, ei_push (0, 0) 3, 0, 0)) (e_T 3 (e_L 3 (0, ei_stor 2 0 4, 0, 0)) (e_L 4 (0, ei_load 2 0 5, 0, 0))))) (e_T 6 (e_T 5 (e_L 5 (0, ei_load 0 2 6, 0, 0)) (e_L 6 (0, ei_getf eft elay 0 8 9, 0, 0))) (e_T 9 (e_L 9 (0, ei_if2 3 32 12, 0, 0)) (e_T 12 (e_L 12 (0, ei_load 1 0 13, 0, 0)) (e_L 13 (0, ei_load 0 2 14, 0, 0)))))) (e_T 22 (e_T 17 (e_T 14 (e_L 14 (0, ei_getf eft elay 0 0 17, 0, 0)) (e_L 17 (0, ei_load 2 0 18, 0, 0))) (e_T 18 (e_L 18 (0, ei_aald elay 19, 0, 0)) (e_T 19 (e_L 19 (2, e_nof, 93, 1)) (e_L 22 (0, ei_m2 eM_max 25, 0, 0))))) (e_T 26 (e_T 25 (e_L 25 (0, ei_stor 1 0 26, 0, 0)) (e_L 26 (0, ei_inc 2 1 29, 0, 0))) (e_T 29 (e_L 29 (0, ei_goto 4, 0, 0)) (e_T 32 (e_L 32 (0, ei_load 1 0 33, 0, 0)) (e_L 33 (1, e_nof, 1, 0)))))))
set_option maxRecDepth 20000 in
set_option maxHeartbeats 4000000 in
theorem te_18_0_ok : ∀ pc, e_EOq eft cls elay eI n_18 pc (te_18_0 pc) :=
  (e_Tok2
  (e_Tok2
  (e_Tok2
  (e_Tok2
  (e_Lok (ps_iconst_0 (x_dk dn_18_0_0_ok 0 rfl)))
  (e_Lok (e_st (I := eI) (er_istore_n (i := 1) (x_dk dn_18_0_0_ok 1 rfl) (by decide +kernel)) nx_stor)))
  (e_Tok2
  (e_Lok (ps_iconst_0 (x_dk dn_18_0_0_ok 2 rfl)))
  (e_Tok2
  (e_Lok (e_st (I := eI) (er_istore_n (i := 2) (x_dk dn_18_0_0_ok 3 rfl) (by decide +kernel)) nx_stor))
  (e_Lok (ld_iload_n_2 (x_dk dn_18_0_0_ok 4 rfl))))))
  (e_Tok2
  (e_Tok2
  (e_Lok (ld_aload_n_0 (x_dk dn_18_0_0_ok 5 rfl)))
  (e_Lok (lk_0_44g ho_18 (x_dk dn_18_0_0_ok 6 rfl))))
  (e_Tok2
  (e_Lok (e_st (I := eI) (er_icmpge (off := 23) (tg := 32) (x_dk dn_18_0_0_ok 7 rfl) (by decide)) nx_if2))
  (e_Tok2
  (e_Lok (ld_iload_n_1 (x_dk dn_18_0_0_ok 8 rfl)))
  (e_Lok (ld_aload_n_0 (x_dk dn_18_0_0_ok 9 rfl)))))))
  (e_Tok2
  (e_Tok2
  (e_Tok2
  (e_Lok (lk_0_11g ho_18 (x_dk dn_18_0_0_ok 10 rfl)))
  (e_Lok (ld_iload_n_2 (x_dk dn_18_0_0_ok 11 rfl))))
  (e_Tok2
  (e_Lok (e_st (I := eI) (er_aaload (x_dk dn_18_0_0_ok 12 rfl)) nx_aald))
  (e_Tok2
  (e_Lok (lk_0_158 ho_18 (x_dk dn_18_0_0_ok 13 rfl)))
  (e_Lok (e_st (I := eI) (er_max (ix := 161) (in_t8 (List.mem_of_getElem? (i := 69) rfl) rfl) (in_t5 (List.mem_of_getElem? (i := 184) rfl) rfl) (in_t1 (List.mem_of_getElem? (i := 15) rfl) rfl) (in_t5 (List.mem_of_getElem? (i := 185) rfl) rfl) (x_dk dn_18_0_0_ok 14 rfl)) nx_m2)))))
  (e_Tok2
  (e_Tok2
  (e_Lok (e_st (I := eI) (er_istore_n (i := 1) (x_dk dn_18_0_0_ok 15 rfl) (by decide +kernel)) nx_stor))
  (e_Lok (e_st (I := eI) (er_iinc (i := 2) (n := 1) (x_dk dn_18_0_0_ok 16 rfl) (by decide +kernel) (by decide)) nx_inc)))
  (e_Tok2
  (e_Lok (e_st (I := eI) (er_goto (off := (-25)) (tg := 4) (x_dk dn_18_0_0_ok 17 rfl) (by decide)) nx_goto))
  (e_Tok2
  (e_Lok (ld_iload_n_1 (x_dk dn_18_0_0_ok 18 rfl)))
  (e_Lok (e_rt (I := eI) (k := 1) ⟨(x_dk dn_18_0_0_ok 19 rfl), rfl⟩)))))))
def te_18 : Nat → eE := te_18_0
theorem te_18_ok : ∀ pc, e_EOq eft cls elay eI n_18 pc (te_18 pc) := te_18_0_ok
theorem ho_19 : (xm_y n_19).cls = "RobotCellHouse$Arm" := rfl
def dn_19_0_0 : List (Nat × Instr × Nat) := [(0, .iconst 0, 1), (1, .istore_n 2, 1), (2, .iconst 0, 1), (3, .istore_n 3, 1), (4, .iload_n 3, 1), (5, .aload_n 0, 1), (6, .getfield 44, 3), (9, .if_icmp .ge 25, 3), (12, .aload_n 0, 1), (13, .getfield 11, 3), (16, .iload_n 3, 1), (17, .aaload, 1), (18, .iload_n 1, 1), (19, .invokevirtual 167, 3), (22, .ifCond .eq 6, 3), (25, .iinc 2 1, 3), (28, .iinc 3 1, 3), (31, .goto (-27), 3), (34, .iload_n 2, 1), (35, .ireturn, 1)]
set_option maxRecDepth 20000 in
theorem dn_19_0_0_ok : dn_19_0_0.all (fun q => decide (decode (xm_b n_19) q.1 = .ok (q.2.1, q.2.2))) = true := xa_g_ok (by decide +kernel)
def te_19_0 : Nat → eE := (e_T 13 (e_T 4 (e_T 1 (e_T 0 (e_L 0 (0, ei_push (0, 0) 1, 0, 0)) (e_L 1 (0, ei_stor 2 0 2, 0, 0))) (e_T 2 (e_L 2 (0, ei_push (0, 0) 3, 0, 0)) (e_T 3 (e_L 3 (0, ei_stor 3 0 4, 0, 0)) (e_L 4 (0, ei_load 3 0 5, 0, 0))))) (e_T 6 (e_T 5 (e_L 5 (0, ei_load 0 2 6, 0, 0)) (e_L 6 (0, ei_getf eft elay 0 8 9, 0, 0))) (e_T 9 (e_L 9 (0, ei_if2 3 34 12, 0, 0)) (e_T 12 (e_L 12 (0, ei_load 0 2 13, 0, 0)) (e_L 13 (0, ei_getf eft elay 0 0 16, 0, 0)))))) (e_T 22 (e_T 17 (e_T 16 (e_L 16 (0, ei_load 3 0 17, 0, 0)) (e_L 17 (0, ei_aald elay 18, 0, 0))) (e_T 18 (e_L 18 (0, ei_load 1 0 19, 0, 0)) (e_T 19 (e_L 19 (2, e_nof, 94, 2)) (e_L 22 (0, ei_if1 0 28 25, 0, 0))))) (e_T 28 (e_T 25 (e_L 25 (0, ei_inc 2 1 28, 0, 0)) (e_L 28 (0, ei_inc 3 1 31, 0, 0))) (e_T 31 (e_L 31 (0, ei_goto 4, 0, 0)) (e_T 34 (e_L 34 (0, ei_load 2 0 35, 0, 0)) (e_L 35 (1, e_nof, 1, 0)))))))
set_option maxRecDepth 20000 in
set_option maxHeartbeats 4000000 in
theorem te_19_0_ok : ∀ pc, e_EOq eft cls elay eI n_19 pc (te_19_0 pc) :=
  (e_Tok2
  (e_Tok2
  (e_Tok2
  (e_Tok2
  (e_Lok (ps_iconst_0 (x_dk dn_19_0_0_ok 0 rfl)))
  (e_Lok (e_st (I := eI) (er_istore_n (i := 2) (x_dk dn_19_0_0_ok 1 rfl) (by decide +kernel)) nx_stor)))
  (e_Tok2
  (e_Lok (ps_iconst_0 (x_dk dn_19_0_0_ok 2 rfl)))
  (e_Tok2
  (e_Lok (e_st (I := eI) (er_istore_n (i := 3) (x_dk dn_19_0_0_ok 3 rfl) (by decide +kernel)) nx_stor))
  (e_Lok (ld_iload_n_3 (x_dk dn_19_0_0_ok 4 rfl))))))
  (e_Tok2
  (e_Tok2
  (e_Lok (ld_aload_n_0 (x_dk dn_19_0_0_ok 5 rfl)))
  (e_Lok (lk_0_44g ho_19 (x_dk dn_19_0_0_ok 6 rfl))))
  (e_Tok2
  (e_Lok (e_st (I := eI) (er_icmpge (off := 25) (tg := 34) (x_dk dn_19_0_0_ok 7 rfl) (by decide)) nx_if2))
  (e_Tok2
  (e_Lok (ld_aload_n_0 (x_dk dn_19_0_0_ok 8 rfl)))
  (e_Lok (lk_0_11g ho_19 (x_dk dn_19_0_0_ok 9 rfl)))))))
  (e_Tok2
  (e_Tok2
  (e_Tok2
  (e_Lok (ld_iload_n_3 (x_dk dn_19_0_0_ok 10 rfl)))
  (e_Lok (e_st (I := eI) (er_aaload (x_dk dn_19_0_0_ok 11 rfl)) nx_aald)))
  (e_Tok2
  (e_Lok (ld_iload_n_1 (x_dk dn_19_0_0_ok 12 rfl)))
  (e_Tok2
  (e_Lok (lk_0_167 ho_19 (x_dk dn_19_0_0_ok 13 rfl)))
  (e_Lok (e_st (I := eI) (er_ifeq (off := 6) (tg := 28) (x_dk dn_19_0_0_ok 14 rfl) (by decide)) nx_if1)))))
  (e_Tok2
  (e_Tok2
  (e_Lok (e_st (I := eI) (er_iinc (i := 2) (n := 1) (x_dk dn_19_0_0_ok 15 rfl) (by decide +kernel) (by decide)) nx_inc))
  (e_Lok (e_st (I := eI) (er_iinc (i := 3) (n := 1) (x_dk dn_19_0_0_ok 16 rfl) (by decide +kernel) (by decide)) nx_inc)))
  (e_Tok2
  (e_Lok (e_st (I := eI) (er_goto (off := (-27)) (tg := 4) (x_dk dn_19_0_0_ok 17 rfl) (by decide)) nx_goto))
  (e_Tok2
  (e_Lok (ld_iload_n_2 (x_dk dn_19_0_0_ok 18 rfl)))
  (e_Lok (e_rt (I := eI) (k := 1) ⟨(x_dk dn_19_0_0_ok 19 rfl), rfl⟩)))))))
def te_19 : Nat → eE := te_19_0
theorem te_19_ok : ∀ pc, e_EOq eft cls elay eI n_19 pc (te_19 pc) := te_19_0_ok
theorem ho_20 : (xm_y n_20).cls = "RobotCellHouse$Code" := rfl
def dn_20_0_0 : List (Nat × Instr × Nat) := [(0, .aload_n 0, 1), (1, .iconst 0, 1), (2, .putfield 18, 3), (5, .aload_n 0, 1), (6, .iconst 0, 1), (7, .putfield 22, 3), (10, .aload_n 0, 1), (11, .iconst 0, 1), (12, .putfield 25, 3), (15, .return_, 1)]
set_option maxRecDepth 20000 in
theorem dn_20_0_0_ok : dn_20_0_0.all (fun q => decide (decode (xm_b n_20) q.1 = .ok (q.2.1, q.2.2))) = true := xa_g_ok (by decide +kernel)
def te_20_0 : Nat → eE := (e_T 6 (e_T 1 (e_T 0 (e_L 0 (0, ei_load 0 2 1, 0, 0)) (e_L 1 (0, ei_push (0, 0) 2, 0, 0))) (e_T 2 (e_L 2 (0, ei_putf eft elay 1 0 0 5, 0, 0)) (e_T 5 (e_L 5 (0, ei_load 0 2 6, 0, 0)) (e_L 6 (0, ei_push (0, 0) 7, 0, 0))))) (e_T 10 (e_T 7 (e_L 7 (0, ei_putf eft elay 1 1 0 10, 0, 0)) (e_L 10 (0, ei_load 0 2 11, 0, 0))) (e_T 11 (e_L 11 (0, ei_push (0, 0) 12, 0, 0)) (e_T 12 (e_L 12 (0, ei_putf eft elay 1 2 0 15, 0, 0)) (e_L 15 (1, e_nof, 0, 0))))))
set_option maxRecDepth 20000 in
set_option maxHeartbeats 4000000 in
theorem te_20_0_ok : ∀ pc, e_EOq eft cls elay eI n_20 pc (te_20_0 pc) :=
  (e_Tok2
  (e_Tok2
  (e_Tok2
  (e_Lok (ld_aload_n_0 (x_dk dn_20_0_0_ok 0 rfl)))
  (e_Lok (ps_iconst_0 (x_dk dn_20_0_0_ok 1 rfl))))
  (e_Tok2
  (e_Lok (lk_1_18p ho_20 (x_dk dn_20_0_0_ok 2 rfl)))
  (e_Tok2
  (e_Lok (ld_aload_n_0 (x_dk dn_20_0_0_ok 3 rfl)))
  (e_Lok (ps_iconst_0 (x_dk dn_20_0_0_ok 4 rfl))))))
  (e_Tok2
  (e_Tok2
  (e_Lok (lk_1_22p ho_20 (x_dk dn_20_0_0_ok 5 rfl)))
  (e_Lok (ld_aload_n_0 (x_dk dn_20_0_0_ok 6 rfl))))
  (e_Tok2
  (e_Lok (ps_iconst_0 (x_dk dn_20_0_0_ok 7 rfl)))
  (e_Tok2
  (e_Lok (lk_1_25p ho_20 (x_dk dn_20_0_0_ok 8 rfl)))
  (e_Lok (e_rt (I := eI) (k := 0) ⟨(x_dk dn_20_0_0_ok 9 rfl), rfl⟩))))))
def te_20 : Nat → eE := te_20_0
theorem te_20_ok : ∀ pc, e_EOq eft cls elay eI n_20 pc (te_20 pc) := te_20_0_ok
theorem ho_21 : (xm_y n_21).cls = "RobotCellHouse$Code" := rfl
def dn_21_0_0 : List (Nat × Instr × Nat) := [(0, .aload_n 0, 1), (1, .getfield 18, 3), (4, .sipush 4000, 3), (7, .if_icmp .lt 10, 3), (10, .aload_n 0, 1), (11, .getfield 18, 3), (14, .iconst 1, 1), (15, .isub, 1), (16, .ireturn, 1), (17, .aload_n 0, 1), (18, .getfield 15, 3), (21, .aload_n 0, 1), (22, .getfield 18, 3), (25, .iload_n 2, 1), (26, .bipush 6, 2), (28, .ishl, 1), (29, .iload_n 1, 1), (30, .ior, 1), (31, .iastore, 1), (32, .aload_n 0, 1), (33, .dup, 1), (34, .getfield 18, 3), (37, .iconst 1, 1), (38, .iadd, 1), (39, .putfield 18, 3)]
set_option maxRecDepth 20000 in
theorem dn_21_0_0_ok : dn_21_0_0.all (fun q => decide (decode (xm_b n_21) q.1 = .ok (q.2.1, q.2.2))) = true := xa_g_ok (by decide +kernel)
def dn_21_0_1 : List (Nat × Instr × Nat) := [(42, .aload_n 0, 1), (43, .getfield 18, 3), (46, .iconst 1, 1), (47, .isub, 1), (48, .ireturn, 1)]
set_option maxRecDepth 20000 in
theorem dn_21_0_1_ok : dn_21_0_1.all (fun q => decide (decode (xm_b n_21) q.1 = .ok (q.2.1, q.2.2))) = true := xa_g_ok (by decide +kernel)
def te_21_0 : Nat → eE := (e_T 26 (e_T 14 (e_T 4 (e_T 0 (e_L 0 (0, ei_load 0 2 1, 0, 0)) (e_T 1 (e_L 1 (0, ei_getf eft elay 1 0 4, 0, 0)) (e_L 4 (0, ei_push (0, 4000) 7, 0, 0)))) (e_T 10 (e_T 7 (e_L 7 (0, ei_if2 2 17 10, 0, 0)) (e_L 10 (0, ei_load 0 2 11, 0, 0))) (e_T 11 (e_L 11 (0, ei_getf eft elay 1 0 14, 0, 0)) (e_L 14 (0, ei_push (0, 1) 15, 0, 0))))) (e_T 18 (e_T 16 (e_T 15 (e_L 15 (0, ei_bin eF_sub 16, 0, 0)) (e_L 16 (1, e_nof, 1, 0))) (e_T 17 (e_L 17 (0, ei_load 0 2 18, 0, 0)) (e_L 18 (0, ei_getf eft elay 1 4 21, 0, 0)))) (e_T 22 (e_T 21 (e_L 21 (0, ei_load 0 2 22, 0, 0)) (e_L 22 (0, ei_getf eft elay 1 0 25, 0, 0))) (e_T 25 (e_L 25 (0, ei_load 2 0 26, 0, 0)) (e_L 26 (0, ei_push (0, 6) 28, 0, 0)))))) (e_T 34 (e_T 30 (e_T 28 (e_L 28 (0, ei_bin (eB (fun x y => x <<< (y &&& 31))) 29, 0, 0)) (e_T 29 (e_L 29 (0, ei_load 1 0 30, 0, 0)) (e_L 30 (0, ei_bin (eB (fun x y => x ||| y)) 31, 0, 0)))) (e_T 32 (e_T 31 (e_L 31 (0, ei_ast elay false 32, 0, 0)) (e_L 32 (0, ei_load 0 2 33, 0, 0))) (e_T 33 (e_L 33 (0, ei_stk ef_dup 34, 0, 0)) (e_L 34 (0, ei_getf eft elay 1 0 37, 0, 0))))) (e_T 42 (e_T 38 (e_T 37 (e_L 37 (0, ei_push (0, 1) 38, 0, 0)) (e_L 38 (0, ei_bin eF_add 39, 0, 0))) (e_T 39 (e_L 39 (0, ei_putf eft elay 1 0 0 42, 0, 0)) (e_L 42 (0, ei_load 0 2 43, 0, 0)))) (e_T 46 (e_T 43 (e_L 43 (0, ei_getf eft elay 1 0 46, 0, 0)) (e_L 46 (0, ei_push (0, 1) 47, 0, 0))) (e_T 47 (e_L 47 (0, ei_bin eF_sub 48, 0, 0)) (e_L 48 (1, e_nof, 1, 0)))))))
set_option maxRecDepth 20000 in
set_option maxHeartbeats 4000000 in
theorem te_21_0_ok : ∀ pc, e_EOq eft cls elay eI n_21 pc (te_21_0 pc) :=
  (e_Tok2
  (e_Tok2
  (e_Tok2
  (e_Tok2
  (e_Lok (ld_aload_n_0 (x_dk dn_21_0_0_ok 0 rfl)))
  (e_Tok2
  (e_Lok (lk_1_18g ho_21 (x_dk dn_21_0_0_ok 1 rfl)))
  (e_Lok (ps_sipush_4000 (x_dk dn_21_0_0_ok 2 rfl)))))
  (e_Tok2
  (e_Tok2
  (e_Lok (e_st (I := eI) (er_icmplt (off := 10) (tg := 17) (x_dk dn_21_0_0_ok 3 rfl) (by decide)) nx_if2))
  (e_Lok (ld_aload_n_0 (x_dk dn_21_0_0_ok 4 rfl))))
  (e_Tok2
  (e_Lok (lk_1_18g ho_21 (x_dk dn_21_0_0_ok 5 rfl)))
  (e_Lok (ps_iconst_1 (x_dk dn_21_0_0_ok 6 rfl))))))
  (e_Tok2
  (e_Tok2
  (e_Tok2
  (e_Lok (sm_isub (x_dk dn_21_0_0_ok 7 rfl)))
  (e_Lok (e_rt (I := eI) (k := 1) ⟨(x_dk dn_21_0_0_ok 8 rfl), rfl⟩)))
  (e_Tok2
  (e_Lok (ld_aload_n_0 (x_dk dn_21_0_0_ok 9 rfl)))
  (e_Lok (lk_1_15g ho_21 (x_dk dn_21_0_0_ok 10 rfl)))))
  (e_Tok2
  (e_Tok2
  (e_Lok (ld_aload_n_0 (x_dk dn_21_0_0_ok 11 rfl)))
  (e_Lok (lk_1_18g ho_21 (x_dk dn_21_0_0_ok 12 rfl))))
  (e_Tok2
  (e_Lok (ld_iload_n_2 (x_dk dn_21_0_0_ok 13 rfl)))
  (e_Lok (ps_bipush_6 (x_dk dn_21_0_0_ok 14 rfl)))))))
  (e_Tok2
  (e_Tok2
  (e_Tok2
  (e_Lok (e_st (I := eI) (er_ishl (x_dk dn_21_0_0_ok 15 rfl)) nx_bin))
  (e_Tok2
  (e_Lok (ld_iload_n_1 (x_dk dn_21_0_0_ok 16 rfl)))
  (e_Lok (e_st (I := eI) (er_ior (x_dk dn_21_0_0_ok 17 rfl)) nx_bin))))
  (e_Tok2
  (e_Tok2
  (e_Lok (sm_iastore (x_dk dn_21_0_0_ok 18 rfl)))
  (e_Lok (ld_aload_n_0 (x_dk dn_21_0_0_ok 19 rfl))))
  (e_Tok2
  (e_Lok (e_st (I := eI) (er_dup (x_dk dn_21_0_0_ok 20 rfl)) (nx_stk bf_dup)))
  (e_Lok (lk_1_18g ho_21 (x_dk dn_21_0_0_ok 21 rfl))))))
  (e_Tok2
  (e_Tok2
  (e_Tok2
  (e_Lok (ps_iconst_1 (x_dk dn_21_0_0_ok 22 rfl)))
  (e_Lok (sm_iadd (x_dk dn_21_0_0_ok 23 rfl))))
  (e_Tok2
  (e_Lok (lk_1_18p ho_21 (x_dk dn_21_0_0_ok 24 rfl)))
  (e_Lok (ld_aload_n_0 (x_dk dn_21_0_1_ok 0 rfl)))))
  (e_Tok2
  (e_Tok2
  (e_Lok (lk_1_18g ho_21 (x_dk dn_21_0_1_ok 1 rfl)))
  (e_Lok (ps_iconst_1 (x_dk dn_21_0_1_ok 2 rfl))))
  (e_Tok2
  (e_Lok (sm_isub (x_dk dn_21_0_1_ok 3 rfl)))
  (e_Lok (e_rt (I := eI) (k := 1) ⟨(x_dk dn_21_0_1_ok 4 rfl), rfl⟩)))))))
def te_21 : Nat → eE := te_21_0
theorem te_21_ok : ∀ pc, e_EOq eft cls elay eI n_21 pc (te_21 pc) := te_21_0_ok
theorem ho_22 : (xm_y n_22).cls = "RobotCellHouse$Code" := rfl
def dn_22_0_0 : List (Nat × Instr × Nat) := [(0, .iload_n 1, 1), (1, .ifCond .lt 31, 3), (4, .iload_n 1, 1), (5, .aload_n 0, 1), (6, .getfield 18, 3), (9, .if_icmp .ge 23, 3), (12, .aload_n 0, 1), (13, .getfield 15, 3), (16, .iload_n 1, 1), (17, .iload_n 2, 1), (18, .bipush 6, 2), (20, .ishl, 1), (21, .aload_n 0, 1), (22, .getfield 15, 3), (25, .iload_n 1, 1), (26, .iaload, 1), (27, .bipush 63, 2), (29, .iand, 1), (30, .ior, 1), (31, .iastore, 1), (32, .return_, 1)]
set_option maxRecDepth 20000 in
theorem dn_22_0_0_ok : dn_22_0_0.all (fun q => decide (decode (xm_b n_22) q.1 = .ok (q.2.1, q.2.2))) = true := xa_g_ok (by decide +kernel)
def te_22_0 : Nat → eE := (e_T 17 (e_T 6 (e_T 1 (e_T 0 (e_L 0 (0, ei_load 1 0 1, 0, 0)) (e_L 1 (0, ei_if1 2 32 4, 0, 0))) (e_T 4 (e_L 4 (0, ei_load 1 0 5, 0, 0)) (e_T 5 (e_L 5 (0, ei_load 0 2 6, 0, 0)) (e_L 6 (0, ei_getf eft elay 1 0 9, 0, 0))))) (e_T 12 (e_T 9 (e_L 9 (0, ei_if2 3 32 12, 0, 0)) (e_L 12 (0, ei_load 0 2 13, 0, 0))) (e_T 13 (e_L 13 (0, ei_getf eft elay 1 4 16, 0, 0)) (e_T 16 (e_L 16 (0, ei_load 1 0 17, 0, 0)) (e_L 17 (0, ei_load 2 0 18, 0, 0)))))) (e_T 25 (e_T 20 (e_T 18 (e_L 18 (0, ei_push (0, 6) 20, 0, 0)) (e_L 20 (0, ei_bin (eB (fun x y => x <<< (y &&& 31))) 21, 0, 0))) (e_T 21 (e_L 21 (0, ei_load 0 2 22, 0, 0)) (e_T 22 (e_L 22 (0, ei_getf eft elay 1 4 25, 0, 0)) (e_L 25 (0, ei_load 1 0 26, 0, 0))))) (e_T 29 (e_T 26 (e_L 26 (0, ei_ald elay false 27, 0, 0)) (e_T 27 (e_L 27 (0, ei_push (0, 63) 29, 0, 0)) (e_L 29 (0, ei_bin (eB (fun x y => x &&& y)) 30, 0, 0)))) (e_T 30 (e_L 30 (0, ei_bin (eB (fun x y => x ||| y)) 31, 0, 0)) (e_T 31 (e_L 31 (0, ei_ast elay false 32, 0, 0)) (e_L 32 (1, e_nof, 0, 0)))))))
set_option maxRecDepth 20000 in
set_option maxHeartbeats 4000000 in
theorem te_22_0_ok : ∀ pc, e_EOq eft cls elay eI n_22 pc (te_22_0 pc) :=
  (e_Tok2
  (e_Tok2
  (e_Tok2
  (e_Tok2
  (e_Lok (ld_iload_n_1 (x_dk dn_22_0_0_ok 0 rfl)))
  (e_Lok (e_st (I := eI) (er_iflt (off := 31) (tg := 32) (x_dk dn_22_0_0_ok 1 rfl) (by decide)) nx_if1)))
  (e_Tok2
  (e_Lok (ld_iload_n_1 (x_dk dn_22_0_0_ok 2 rfl)))
  (e_Tok2
  (e_Lok (ld_aload_n_0 (x_dk dn_22_0_0_ok 3 rfl)))
  (e_Lok (lk_1_18g ho_22 (x_dk dn_22_0_0_ok 4 rfl))))))
  (e_Tok2
  (e_Tok2
  (e_Lok (e_st (I := eI) (er_icmpge (off := 23) (tg := 32) (x_dk dn_22_0_0_ok 5 rfl) (by decide)) nx_if2))
  (e_Lok (ld_aload_n_0 (x_dk dn_22_0_0_ok 6 rfl))))
  (e_Tok2
  (e_Lok (lk_1_15g ho_22 (x_dk dn_22_0_0_ok 7 rfl)))
  (e_Tok2
  (e_Lok (ld_iload_n_1 (x_dk dn_22_0_0_ok 8 rfl)))
  (e_Lok (ld_iload_n_2 (x_dk dn_22_0_0_ok 9 rfl)))))))
  (e_Tok2
  (e_Tok2
  (e_Tok2
  (e_Lok (ps_bipush_6 (x_dk dn_22_0_0_ok 10 rfl)))
  (e_Lok (e_st (I := eI) (er_ishl (x_dk dn_22_0_0_ok 11 rfl)) nx_bin)))
  (e_Tok2
  (e_Lok (ld_aload_n_0 (x_dk dn_22_0_0_ok 12 rfl)))
  (e_Tok2
  (e_Lok (lk_1_15g ho_22 (x_dk dn_22_0_0_ok 13 rfl)))
  (e_Lok (ld_iload_n_1 (x_dk dn_22_0_0_ok 14 rfl))))))
  (e_Tok2
  (e_Tok2
  (e_Lok (sm_iaload (x_dk dn_22_0_0_ok 15 rfl)))
  (e_Tok2
  (e_Lok (ps_bipush_63 (x_dk dn_22_0_0_ok 16 rfl)))
  (e_Lok (e_st (I := eI) (er_iand (x_dk dn_22_0_0_ok 17 rfl)) nx_bin))))
  (e_Tok2
  (e_Lok (e_st (I := eI) (er_ior (x_dk dn_22_0_0_ok 18 rfl)) nx_bin))
  (e_Tok2
  (e_Lok (sm_iastore (x_dk dn_22_0_0_ok 19 rfl)))
  (e_Lok (e_rt (I := eI) (k := 0) ⟨(x_dk dn_22_0_0_ok 20 rfl), rfl⟩)))))))
def te_22 : Nat → eE := te_22_0
theorem te_22_ok : ∀ pc, e_EOq eft cls elay eI n_22 pc (te_22 pc) := te_22_0_ok
theorem ho_23 : (xm_y n_23).cls = "RobotCellHouse$Code" := rfl
def dn_23_0_0 : List (Nat × Instr × Nat) := [(0, .iload_n 1, 1), (1, .ifCond .lt 23, 3), (4, .iload_n 1, 1), (5, .aload_n 0, 1), (6, .getfield 18, 3), (9, .if_icmp .ge 15, 3), (12, .aload_n 0, 1), (13, .getfield 15, 3), (16, .iload_n 1, 1), (17, .iaload, 1), (18, .bipush 63, 2), (20, .iand, 1), (21, .goto 5, 3), (24, .bipush 43, 2), (26, .ireturn, 1)]
set_option maxRecDepth 20000 in
theorem dn_23_0_0_ok : dn_23_0_0.all (fun q => decide (decode (xm_b n_23) q.1 = .ok (q.2.1, q.2.2))) = true := xa_g_ok (by decide +kernel)
def te_23_0 : Nat → eE := (e_T 12 (e_T 4 (e_T 0 (e_L 0 (0, ei_load 1 0 1, 0, 0)) (e_T 1 (e_L 1 (0, ei_if1 2 24 4, 0, 0)) (e_L 4 (0, ei_load 1 0 5, 0, 0)))) (e_T 6 (e_T 5 (e_L 5 (0, ei_load 0 2 6, 0, 0)) (e_L 6 (0, ei_getf eft elay 1 0 9, 0, 0))) (e_T 9 (e_L 9 (0, ei_if2 3 24 12, 0, 0)) (e_L 12 (0, ei_load 0 2 13, 0, 0))))) (e_T 18 (e_T 16 (e_T 13 (e_L 13 (0, ei_getf eft elay 1 4 16, 0, 0)) (e_L 16 (0, ei_load 1 0 17, 0, 0))) (e_T 17 (e_L 17 (0, ei_ald elay false 18, 0, 0)) (e_L 18 (0, ei_push (0, 63) 20, 0, 0)))) (e_T 21 (e_T 20 (e_L 20 (0, ei_bin (eB (fun x y => x &&& y)) 21, 0, 0)) (e_L 21 (0, ei_goto 26, 0, 0))) (e_T 24 (e_L 24 (0, ei_push (0, 43) 26, 0, 0)) (e_L 26 (1, e_nof, 1, 0))))))
set_option maxRecDepth 20000 in
set_option maxHeartbeats 4000000 in
theorem te_23_0_ok : ∀ pc, e_EOq eft cls elay eI n_23 pc (te_23_0 pc) :=
  (e_Tok2
  (e_Tok2
  (e_Tok2
  (e_Lok (ld_iload_n_1 (x_dk dn_23_0_0_ok 0 rfl)))
  (e_Tok2
  (e_Lok (e_st (I := eI) (er_iflt (off := 23) (tg := 24) (x_dk dn_23_0_0_ok 1 rfl) (by decide)) nx_if1))
  (e_Lok (ld_iload_n_1 (x_dk dn_23_0_0_ok 2 rfl)))))
  (e_Tok2
  (e_Tok2
  (e_Lok (ld_aload_n_0 (x_dk dn_23_0_0_ok 3 rfl)))
  (e_Lok (lk_1_18g ho_23 (x_dk dn_23_0_0_ok 4 rfl))))
  (e_Tok2
  (e_Lok (e_st (I := eI) (er_icmpge (off := 15) (tg := 24) (x_dk dn_23_0_0_ok 5 rfl) (by decide)) nx_if2))
  (e_Lok (ld_aload_n_0 (x_dk dn_23_0_0_ok 6 rfl))))))
  (e_Tok2
  (e_Tok2
  (e_Tok2
  (e_Lok (lk_1_15g ho_23 (x_dk dn_23_0_0_ok 7 rfl)))
  (e_Lok (ld_iload_n_1 (x_dk dn_23_0_0_ok 8 rfl))))
  (e_Tok2
  (e_Lok (sm_iaload (x_dk dn_23_0_0_ok 9 rfl)))
  (e_Lok (ps_bipush_63 (x_dk dn_23_0_0_ok 10 rfl)))))
  (e_Tok2
  (e_Tok2
  (e_Lok (e_st (I := eI) (er_iand (x_dk dn_23_0_0_ok 11 rfl)) nx_bin))
  (e_Lok (e_st (I := eI) (er_goto (off := 5) (tg := 26) (x_dk dn_23_0_0_ok 12 rfl) (by decide)) nx_goto)))
  (e_Tok2
  (e_Lok (ps_bipush_43 (x_dk dn_23_0_0_ok 13 rfl)))
  (e_Lok (e_rt (I := eI) (k := 1) ⟨(x_dk dn_23_0_0_ok 14 rfl), rfl⟩))))))
def te_23 : Nat → eE := te_23_0
theorem te_23_ok : ∀ pc, e_EOq eft cls elay eI n_23 pc (te_23 pc) := te_23_0_ok
theorem ho_24 : (xm_y n_24).cls = "RobotCellHouse$Code" := rfl
def dn_24_0_0 : List (Nat × Instr × Nat) := [(0, .iload_n 1, 1), (1, .ifCond .lt 23, 3), (4, .iload_n 1, 1), (5, .aload_n 0, 1), (6, .getfield 18, 3), (9, .if_icmp .ge 15, 3), (12, .aload_n 0, 1), (13, .getfield 15, 3), (16, .iload_n 1, 1), (17, .iaload, 1), (18, .bipush 6, 2), (20, .ishr, 1), (21, .goto 4, 3), (24, .iconst 0, 1), (25, .ireturn, 1)]
set_option maxRecDepth 20000 in
theorem dn_24_0_0_ok : dn_24_0_0.all (fun q => decide (decode (xm_b n_24) q.1 = .ok (q.2.1, q.2.2))) = true := xa_g_ok (by decide +kernel)
def te_24_0 : Nat → eE := (e_T 12 (e_T 4 (e_T 0 (e_L 0 (0, ei_load 1 0 1, 0, 0)) (e_T 1 (e_L 1 (0, ei_if1 2 24 4, 0, 0)) (e_L 4 (0, ei_load 1 0 5, 0, 0)))) (e_T 6 (e_T 5 (e_L 5 (0, ei_load 0 2 6, 0, 0)) (e_L 6 (0, ei_getf eft elay 1 0 9, 0, 0))) (e_T 9 (e_L 9 (0, ei_if2 3 24 12, 0, 0)) (e_L 12 (0, ei_load 0 2 13, 0, 0))))) (e_T 18 (e_T 16 (e_T 13 (e_L 13 (0, ei_getf eft elay 1 4 16, 0, 0)) (e_L 16 (0, ei_load 1 0 17, 0, 0))) (e_T 17 (e_L 17 (0, ei_ald elay false 18, 0, 0)) (e_L 18 (0, ei_push (0, 6) 20, 0, 0)))) (e_T 21 (e_T 20 (e_L 20 (0, ei_bin (eB (fun x y => x >>> (y &&& 31))) 21, 0, 0)) (e_L 21 (0, ei_goto 25, 0, 0))) (e_T 24 (e_L 24 (0, ei_push (0, 0) 25, 0, 0)) (e_L 25 (1, e_nof, 1, 0))))))
set_option maxRecDepth 20000 in
set_option maxHeartbeats 4000000 in
theorem te_24_0_ok : ∀ pc, e_EOq eft cls elay eI n_24 pc (te_24_0 pc) :=
  (e_Tok2
  (e_Tok2
  (e_Tok2
  (e_Lok (ld_iload_n_1 (x_dk dn_24_0_0_ok 0 rfl)))
  (e_Tok2
  (e_Lok (e_st (I := eI) (er_iflt (off := 23) (tg := 24) (x_dk dn_24_0_0_ok 1 rfl) (by decide)) nx_if1))
  (e_Lok (ld_iload_n_1 (x_dk dn_24_0_0_ok 2 rfl)))))
  (e_Tok2
  (e_Tok2
  (e_Lok (ld_aload_n_0 (x_dk dn_24_0_0_ok 3 rfl)))
  (e_Lok (lk_1_18g ho_24 (x_dk dn_24_0_0_ok 4 rfl))))
  (e_Tok2
  (e_Lok (e_st (I := eI) (er_icmpge (off := 15) (tg := 24) (x_dk dn_24_0_0_ok 5 rfl) (by decide)) nx_if2))
  (e_Lok (ld_aload_n_0 (x_dk dn_24_0_0_ok 6 rfl))))))
  (e_Tok2
  (e_Tok2
  (e_Tok2
  (e_Lok (lk_1_15g ho_24 (x_dk dn_24_0_0_ok 7 rfl)))
  (e_Lok (ld_iload_n_1 (x_dk dn_24_0_0_ok 8 rfl))))
  (e_Tok2
  (e_Lok (sm_iaload (x_dk dn_24_0_0_ok 9 rfl)))
  (e_Lok (ps_bipush_6 (x_dk dn_24_0_0_ok 10 rfl)))))
  (e_Tok2
  (e_Tok2
  (e_Lok (e_st (I := eI) (er_ishr (x_dk dn_24_0_0_ok 11 rfl)) nx_bin))
  (e_Lok (e_st (I := eI) (er_goto (off := 4) (tg := 25) (x_dk dn_24_0_0_ok 12 rfl) (by decide)) nx_goto)))
  (e_Tok2
  (e_Lok (ps_iconst_0 (x_dk dn_24_0_0_ok 13 rfl)))
  (e_Lok (e_rt (I := eI) (k := 1) ⟨(x_dk dn_24_0_0_ok 14 rfl), rfl⟩))))))
def te_24 : Nat → eE := te_24_0
theorem te_24_ok : ∀ pc, e_EOq eft cls elay eI n_24 pc (te_24 pc) := te_24_0_ok
theorem ho_25 : (xm_y n_25).cls = "RobotCellHouse$Core" := rfl
def dn_25_0_0 : List (Nat × Instr × Nat) := [(0, .aload_n 0, 1), (1, .iconst 0, 1), (2, .putfield 34, 3), (5, .iconst 0, 1), (6, .istore_n 1, 1), (7, .iload_n 1, 1), (8, .bipush 8, 2), (10, .if_icmp .ge 16, 3), (13, .aload_n 0, 1), (14, .getfield 18, 3), (17, .iload_n 1, 1), (18, .iconst 0, 1), (19, .bastore, 1), (20, .iinc 1 1, 3), (23, .goto (-16), 3), (26, .return_, 1)]
set_option maxRecDepth 20000 in
theorem dn_25_0_0_ok : dn_25_0_0.all (fun q => decide (decode (xm_b n_25) q.1 = .ok (q.2.1, q.2.2))) = true := xa_g_ok (by decide +kernel)
def te_25_0 : Nat → eE := (e_T 10 (e_T 5 (e_T 1 (e_T 0 (e_L 0 (0, ei_load 0 2 1, 0, 0)) (e_L 1 (0, ei_push (0, 0) 2, 0, 0))) (e_T 2 (e_L 2 (0, ei_putf eft elay 2 2 0 5, 0, 0)) (e_L 5 (0, ei_push (0, 0) 6, 0, 0)))) (e_T 7 (e_T 6 (e_L 6 (0, ei_stor 1 0 7, 0, 0)) (e_L 7 (0, ei_load 1 0 8, 0, 0))) (e_T 8 (e_L 8 (0, ei_push (0, 8) 10, 0, 0)) (e_L 10 (0, ei_if2 3 26 13, 0, 0))))) (e_T 18 (e_T 14 (e_T 13 (e_L 13 (0, ei_load 0 2 14, 0, 0)) (e_L 14 (0, ei_getf eft elay 2 10 17, 0, 0))) (e_T 17 (e_L 17 (0, ei_load 1 0 18, 0, 0)) (e_L 18 (0, ei_push (0, 0) 19, 0, 0)))) (e_T 20 (e_T 19 (e_L 19 (0, ei_ast elay true 20, 0, 0)) (e_L 20 (0, ei_inc 1 1 23, 0, 0))) (e_T 23 (e_L 23 (0, ei_goto 7, 0, 0)) (e_L 26 (1, e_nof, 0, 0))))))
set_option maxRecDepth 20000 in
set_option maxHeartbeats 4000000 in
theorem te_25_0_ok : ∀ pc, e_EOq eft cls elay eI n_25 pc (te_25_0 pc) :=
  (e_Tok2
  (e_Tok2
  (e_Tok2
  (e_Tok2
  (e_Lok (ld_aload_n_0 (x_dk dn_25_0_0_ok 0 rfl)))
  (e_Lok (ps_iconst_0 (x_dk dn_25_0_0_ok 1 rfl))))
  (e_Tok2
  (e_Lok (lk_2_34p ho_25 (x_dk dn_25_0_0_ok 2 rfl)))
  (e_Lok (ps_iconst_0 (x_dk dn_25_0_0_ok 3 rfl)))))
  (e_Tok2
  (e_Tok2
  (e_Lok (e_st (I := eI) (er_istore_n (i := 1) (x_dk dn_25_0_0_ok 4 rfl) (by decide +kernel)) nx_stor))
  (e_Lok (ld_iload_n_1 (x_dk dn_25_0_0_ok 5 rfl))))
  (e_Tok2
  (e_Lok (ps_bipush_8 (x_dk dn_25_0_0_ok 6 rfl)))
  (e_Lok (e_st (I := eI) (er_icmpge (off := 16) (tg := 26) (x_dk dn_25_0_0_ok 7 rfl) (by decide)) nx_if2)))))
  (e_Tok2
  (e_Tok2
  (e_Tok2
  (e_Lok (ld_aload_n_0 (x_dk dn_25_0_0_ok 8 rfl)))
  (e_Lok (lk_2_18g ho_25 (x_dk dn_25_0_0_ok 9 rfl))))
  (e_Tok2
  (e_Lok (ld_iload_n_1 (x_dk dn_25_0_0_ok 10 rfl)))
  (e_Lok (ps_iconst_0 (x_dk dn_25_0_0_ok 11 rfl)))))
  (e_Tok2
  (e_Tok2
  (e_Lok (e_st (I := eI) (er_bastore (x_dk dn_25_0_0_ok 12 rfl)) nx_ast))
  (e_Lok (e_st (I := eI) (er_iinc (i := 1) (n := 1) (x_dk dn_25_0_0_ok 13 rfl) (by decide +kernel) (by decide)) nx_inc)))
  (e_Tok2
  (e_Lok (e_st (I := eI) (er_goto (off := (-16)) (tg := 7) (x_dk dn_25_0_0_ok 14 rfl) (by decide)) nx_goto))
  (e_Lok (e_rt (I := eI) (k := 0) ⟨(x_dk dn_25_0_0_ok 15 rfl), rfl⟩))))))
def te_25 : Nat → eE := te_25_0
theorem te_25_ok : ∀ pc, e_EOq eft cls elay eI n_25 pc (te_25 pc) := te_25_0_ok
theorem ho_26 : (xm_y n_26).cls = "RobotCellHouse$Core" := rfl
def dn_26_0_0 : List (Nat × Instr × Nat) := [(0, .aload_n 0, 1), (1, .iconst 0, 1), (2, .putfield 38, 3), (5, .aload_n 0, 1), (6, .iconst 0, 1), (7, .putfield 41, 3), (10, .aload_n 0, 1), (11, .iconst 0, 1), (12, .putfield 44, 3), (15, .aload_n 0, 1), (16, .iconst 0, 1), (17, .putfield 48, 3), (20, .aload_n 0, 1), (21, .iconst 0, 1), (22, .putfield 51, 3), (25, .aload_n 0, 1), (26, .iconst 0, 1), (27, .putfield 54, 3), (30, .aload_n 0, 1), (31, .iconst 0, 1), (32, .putfield 57, 3), (35, .iconst 0, 1), (36, .istore_n 1, 1), (37, .iload_n 1, 1), (38, .bipush 8, 2)]
set_option maxRecDepth 20000 in
theorem dn_26_0_0_ok : dn_26_0_0.all (fun q => decide (decode (xm_b n_26) q.1 = .ok (q.2.1, q.2.2))) = true := xa_g_ok (by decide +kernel)
def dn_26_0_1 : List (Nat × Instr × Nat) := [(40, .if_icmp .ge 37, 3), (43, .aload_n 0, 1), (44, .getfield 22, 3), (47, .iload_n 1, 1), (48, .iconst 1, 1), (49, .bastore, 1), (50, .aload_n 0, 1), (51, .getfield 25, 3), (54, .iload_n 1, 1), (55, .iconst 1, 1), (56, .bastore, 1), (57, .aload_n 0, 1), (58, .getfield 28, 3), (61, .iload_n 1, 1), (62, .iconst 0, 1), (63, .bastore, 1), (64, .aload_n 0, 1), (65, .getfield 31, 3), (68, .iload_n 1, 1), (69, .iconst 0, 1), (70, .iastore, 1), (71, .iinc 1 1, 3), (74, .goto (-37), 3), (77, .return_, 1)]
set_option maxRecDepth 20000 in
theorem dn_26_0_1_ok : dn_26_0_1.all (fun q => decide (decode (xm_b n_26) q.1 = .ok (q.2.1, q.2.2))) = true := xa_g_ok (by decide +kernel)
def te_26_0 : Nat → eE := (e_T 17 (e_T 7 (e_T 2 (e_T 0 (e_L 0 (0, ei_load 0 2 1, 0, 0)) (e_T 1 (e_L 1 (0, ei_push (0, 0) 2, 0, 0)) (e_L 2 (0, ei_putf eft elay 2 0 0 5, 0, 0)))) (e_T 5 (e_L 5 (0, ei_load 0 2 6, 0, 0)) (e_T 6 (e_L 6 (0, ei_push (0, 0) 7, 0, 0)) (e_L 7 (0, ei_putf eft elay 2 1 0 10, 0, 0))))) (e_T 12 (e_T 10 (e_L 10 (0, ei_load 0 2 11, 0, 0)) (e_T 11 (e_L 11 (0, ei_push (0, 0) 12, 0, 0)) (e_L 12 (0, ei_putf eft elay 2 3 1 15, 0, 0)))) (e_T 15 (e_L 15 (0, ei_load 0 2 16, 0, 0)) (e_T 16 (e_L 16 (0, ei_push (0, 0) 17, 0, 0)) (e_L 17 (0, ei_putf eft elay 2 4 0 20, 0, 0)))))) (e_T 27 (e_T 22 (e_T 20 (e_L 20 (0, ei_load 0 2 21, 0, 0)) (e_T 21 (e_L 21 (0, ei_push (0, 0) 22, 0, 0)) (e_L 22 (0, ei_putf eft elay 2 5 0 25, 0, 0)))) (e_T 25 (e_L 25 (0, ei_load 0 2 26, 0, 0)) (e_T 26 (e_L 26 (0, ei_push (0, 0) 27, 0, 0)) (e_L 27 (0, ei_putf eft elay 2 6 0 30, 0, 0))))) (e_T 32 (e_T 30 (e_L 30 (0, ei_load 0 2 31, 0, 0)) (e_T 31 (e_L 31 (0, ei_push (0, 0) 32, 0, 0)) (e_L 32 (0, ei_putf eft elay 2 7 1 35, 0, 0)))) (e_T 35 (e_L 35 (0, ei_push (0, 0) 36, 0, 0)) (e_T 36 (e_L 36 (0, ei_stor 1 0 37, 0, 0)) (e_L 37 (0, ei_load 1 0 38, 0, 0)))))))
set_option maxRecDepth 20000 in
set_option maxHeartbeats 4000000 in
theorem te_26_0_ok : ∀ pc, e_EOq eft cls elay eI n_26 pc (te_26_0 pc) :=
  (e_Tok2
  (e_Tok2
  (e_Tok2
  (e_Tok2
  (e_Lok (ld_aload_n_0 (x_dk dn_26_0_0_ok 0 rfl)))
  (e_Tok2
  (e_Lok (ps_iconst_0 (x_dk dn_26_0_0_ok 1 rfl)))
  (e_Lok (lk_2_38p ho_26 (x_dk dn_26_0_0_ok 2 rfl)))))
  (e_Tok2
  (e_Lok (ld_aload_n_0 (x_dk dn_26_0_0_ok 3 rfl)))
  (e_Tok2
  (e_Lok (ps_iconst_0 (x_dk dn_26_0_0_ok 4 rfl)))
  (e_Lok (lk_2_41p ho_26 (x_dk dn_26_0_0_ok 5 rfl))))))
  (e_Tok2
  (e_Tok2
  (e_Lok (ld_aload_n_0 (x_dk dn_26_0_0_ok 6 rfl)))
  (e_Tok2
  (e_Lok (ps_iconst_0 (x_dk dn_26_0_0_ok 7 rfl)))
  (e_Lok (lk_2_44p ho_26 (x_dk dn_26_0_0_ok 8 rfl)))))
  (e_Tok2
  (e_Lok (ld_aload_n_0 (x_dk dn_26_0_0_ok 9 rfl)))
  (e_Tok2
  (e_Lok (ps_iconst_0 (x_dk dn_26_0_0_ok 10 rfl)))
  (e_Lok (lk_2_48p ho_26 (x_dk dn_26_0_0_ok 11 rfl)))))))
  (e_Tok2
  (e_Tok2
  (e_Tok2
  (e_Lok (ld_aload_n_0 (x_dk dn_26_0_0_ok 12 rfl)))
  (e_Tok2
  (e_Lok (ps_iconst_0 (x_dk dn_26_0_0_ok 13 rfl)))
  (e_Lok (lk_2_51p ho_26 (x_dk dn_26_0_0_ok 14 rfl)))))
  (e_Tok2
  (e_Lok (ld_aload_n_0 (x_dk dn_26_0_0_ok 15 rfl)))
  (e_Tok2
  (e_Lok (ps_iconst_0 (x_dk dn_26_0_0_ok 16 rfl)))
  (e_Lok (lk_2_54p ho_26 (x_dk dn_26_0_0_ok 17 rfl))))))
  (e_Tok2
  (e_Tok2
  (e_Lok (ld_aload_n_0 (x_dk dn_26_0_0_ok 18 rfl)))
  (e_Tok2
  (e_Lok (ps_iconst_0 (x_dk dn_26_0_0_ok 19 rfl)))
  (e_Lok (lk_2_57p ho_26 (x_dk dn_26_0_0_ok 20 rfl)))))
  (e_Tok2
  (e_Lok (ps_iconst_0 (x_dk dn_26_0_0_ok 21 rfl)))
  (e_Tok2
  (e_Lok (e_st (I := eI) (er_istore_n (i := 1) (x_dk dn_26_0_0_ok 22 rfl) (by decide +kernel)) nx_stor))
  (e_Lok (ld_iload_n_1 (x_dk dn_26_0_0_ok 23 rfl))))))))
def te_26_24 : Nat → eE := (e_T 56 (e_T 48 (e_T 43 (e_T 38 (e_L 38 (0, ei_push (0, 8) 40, 0, 0)) (e_T 40 (e_L 40 (0, ei_if2 3 77 43, 0, 0)) (e_L 43 (0, ei_load 0 2 44, 0, 0)))) (e_T 44 (e_L 44 (0, ei_getf eft elay 2 11 47, 0, 0)) (e_T 47 (e_L 47 (0, ei_load 1 0 48, 0, 0)) (e_L 48 (0, ei_push (0, 1) 49, 0, 0))))) (e_T 51 (e_T 49 (e_L 49 (0, ei_ast elay true 50, 0, 0)) (e_T 50 (e_L 50 (0, ei_load 0 2 51, 0, 0)) (e_L 51 (0, ei_getf eft elay 2 12 54, 0, 0)))) (e_T 54 (e_L 54 (0, ei_load 1 0 55, 0, 0)) (e_T 55 (e_L 55 (0, ei_push (0, 1) 56, 0, 0)) (e_L 56 (0, ei_ast elay true 57, 0, 0)))))) (e_T 64 (e_T 61 (e_T 57 (e_L 57 (0, ei_load 0 2 58, 0, 0)) (e_T 58 (e_L 58 (0, ei_getf eft elay 2 13 61, 0, 0)) (e_L 61 (0, ei_load 1 0 62, 0, 0)))) (e_T 62 (e_L 62 (0, ei_push (0, 0) 63, 0, 0)) (e_T 63 (e_L 63 (0, ei_ast elay true 64, 0, 0)) (e_L 64 (0, ei_load 0 2 65, 0, 0))))) (e_T 69 (e_T 65 (e_L 65 (0, ei_getf eft elay 2 14 68, 0, 0)) (e_T 68 (e_L 68 (0, ei_load 1 0 69, 0, 0)) (e_L 69 (0, ei_push (0, 0) 70, 0, 0)))) (e_T 71 (e_T 70 (e_L 70 (0, ei_ast elay false 71, 0, 0)) (e_L 71 (0, ei_inc 1 1 74, 0, 0))) (e_T 74 (e_L 74 (0, ei_goto 37, 0, 0)) (e_L 77 (1, e_nof, 0, 0)))))))
set_option maxRecDepth 20000 in
set_option maxHeartbeats 4000000 in
theorem te_26_24_ok : ∀ pc, e_EOq eft cls elay eI n_26 pc (te_26_24 pc) :=
  (e_Tok2
  (e_Tok2
  (e_Tok2
  (e_Tok2
  (e_Lok (ps_bipush_8 (x_dk dn_26_0_0_ok 24 rfl)))
  (e_Tok2
  (e_Lok (e_st (I := eI) (er_icmpge (off := 37) (tg := 77) (x_dk dn_26_0_1_ok 0 rfl) (by decide)) nx_if2))
  (e_Lok (ld_aload_n_0 (x_dk dn_26_0_1_ok 1 rfl)))))
  (e_Tok2
  (e_Lok (lk_2_22g ho_26 (x_dk dn_26_0_1_ok 2 rfl)))
  (e_Tok2
  (e_Lok (ld_iload_n_1 (x_dk dn_26_0_1_ok 3 rfl)))
  (e_Lok (ps_iconst_1 (x_dk dn_26_0_1_ok 4 rfl))))))
  (e_Tok2
  (e_Tok2
  (e_Lok (e_st (I := eI) (er_bastore (x_dk dn_26_0_1_ok 5 rfl)) nx_ast))
  (e_Tok2
  (e_Lok (ld_aload_n_0 (x_dk dn_26_0_1_ok 6 rfl)))
  (e_Lok (lk_2_25g ho_26 (x_dk dn_26_0_1_ok 7 rfl)))))
  (e_Tok2
  (e_Lok (ld_iload_n_1 (x_dk dn_26_0_1_ok 8 rfl)))
  (e_Tok2
  (e_Lok (ps_iconst_1 (x_dk dn_26_0_1_ok 9 rfl)))
  (e_Lok (e_st (I := eI) (er_bastore (x_dk dn_26_0_1_ok 10 rfl)) nx_ast))))))
  (e_Tok2
  (e_Tok2
  (e_Tok2
  (e_Lok (ld_aload_n_0 (x_dk dn_26_0_1_ok 11 rfl)))
  (e_Tok2
  (e_Lok (lk_2_28g ho_26 (x_dk dn_26_0_1_ok 12 rfl)))
  (e_Lok (ld_iload_n_1 (x_dk dn_26_0_1_ok 13 rfl)))))
  (e_Tok2
  (e_Lok (ps_iconst_0 (x_dk dn_26_0_1_ok 14 rfl)))
  (e_Tok2
  (e_Lok (e_st (I := eI) (er_bastore (x_dk dn_26_0_1_ok 15 rfl)) nx_ast))
  (e_Lok (ld_aload_n_0 (x_dk dn_26_0_1_ok 16 rfl))))))
  (e_Tok2
  (e_Tok2
  (e_Lok (lk_2_31g ho_26 (x_dk dn_26_0_1_ok 17 rfl)))
  (e_Tok2
  (e_Lok (ld_iload_n_1 (x_dk dn_26_0_1_ok 18 rfl)))
  (e_Lok (ps_iconst_0 (x_dk dn_26_0_1_ok 19 rfl)))))
  (e_Tok2
  (e_Tok2
  (e_Lok (sm_iastore (x_dk dn_26_0_1_ok 20 rfl)))
  (e_Lok (e_st (I := eI) (er_iinc (i := 1) (n := 1) (x_dk dn_26_0_1_ok 21 rfl) (by decide +kernel) (by decide)) nx_inc)))
  (e_Tok2
  (e_Lok (e_st (I := eI) (er_goto (off := (-37)) (tg := 37) (x_dk dn_26_0_1_ok 22 rfl) (by decide)) nx_goto))
  (e_Lok (e_rt (I := eI) (k := 0) ⟨(x_dk dn_26_0_1_ok 23 rfl), rfl⟩)))))))
def te_26 : Nat → eE := (e_T 37 te_26_0 te_26_24)
theorem te_26_ok : ∀ pc, e_EOq eft cls elay eI n_26 pc (te_26 pc) := (e_Tok2 (te_26_0_ok) (te_26_24_ok))
theorem ho_27 : (xm_y n_27).cls = "RobotCellHouse$Core" := rfl
def dn_27_0_0 : List (Nat × Instr × Nat) := [(0, .aload_n 0, 1), (1, .getfield 41, 3), (4, .sipush 2000, 3), (7, .if_icmp .ge 52, 3), (10, .aload_n 0, 1), (11, .getfield 41, 3), (14, .iconst 4, 1), (15, .imul, 1), (16, .istore 4, 2), (18, .aload_n 0, 1), (19, .getfield 11, 3), (22, .iload 4, 2), (24, .aload_n 0, 1), (25, .getfield 38, 3), (28, .iastore, 1), (29, .aload_n 0, 1), (30, .getfield 11, 3), (33, .iload 4, 2), (35, .iconst 1, 1), (36, .iadd, 1), (37, .iload_n 1, 1), (38, .iastore, 1), (39, .aload_n 0, 1), (40, .getfield 11, 3), (43, .iload 4, 2)]
set_option maxRecDepth 20000 in
theorem dn_27_0_0_ok : dn_27_0_0.all (fun q => decide (decode (xm_b n_27) q.1 = .ok (q.2.1, q.2.2))) = true := xa_g_ok (by decide +kernel)
def dn_27_0_1 : List (Nat × Instr × Nat) := [(45, .iconst 2, 1), (46, .iadd, 1), (47, .iload_n 2, 1), (48, .iastore, 1), (49, .aload_n 0, 1), (50, .getfield 11, 3), (53, .iload 4, 2), (55, .iconst 3, 1), (56, .iadd, 1), (57, .iload_n 3, 1), (58, .iastore, 1), (59, .aload_n 0, 1), (60, .dup, 1), (61, .getfield 41, 3), (64, .iconst 1, 1), (65, .iadd, 1), (66, .putfield 41, 3), (69, .return_, 1)]
set_option maxRecDepth 20000 in
theorem dn_27_0_1_ok : dn_27_0_1.all (fun q => decide (decode (xm_b n_27) q.1 = .ok (q.2.1, q.2.2))) = true := xa_g_ok (by decide +kernel)
def te_27_0 : Nat → eE := (e_T 18 (e_T 10 (e_T 1 (e_T 0 (e_L 0 (0, ei_load 0 2 1, 0, 0)) (e_L 1 (0, ei_getf eft elay 2 1 4, 0, 0))) (e_T 4 (e_L 4 (0, ei_push (0, 2000) 7, 0, 0)) (e_T 7 (e_L 7 (0, ei_if2 3 59 10, 0, 0)) (e_L 10 (0, ei_load 0 2 11, 0, 0))))) (e_T 14 (e_T 11 (e_L 11 (0, ei_getf eft elay 2 1 14, 0, 0)) (e_L 14 (0, ei_push (0, 4) 15, 0, 0))) (e_T 15 (e_L 15 (0, ei_bin eF_mul 16, 0, 0)) (e_T 16 (e_L 16 (0, ei_stor 4 0 18, 0, 0)) (e_L 18 (0, ei_load 0 2 19, 0, 0)))))) (e_T 28 (e_T 22 (e_T 19 (e_L 19 (0, ei_getf eft elay 2 8 22, 0, 0)) (e_L 22 (0, ei_load 4 0 24, 0, 0))) (e_T 24 (e_L 24 (0, ei_load 0 2 25, 0, 0)) (e_T 25 (e_L 25 (0, ei_getf eft elay 2 0 28, 0, 0)) (e_L 28 (0, ei_ast elay false 29, 0, 0))))) (e_T 33 (e_T 29 (e_L 29 (0, ei_load 0 2 30, 0, 0)) (e_T 30 (e_L 30 (0, ei_getf eft elay 2 8 33, 0, 0)) (e_L 33 (0, ei_load 4 0 35, 0, 0)))) (e_T 35 (e_L 35 (0, ei_push (0, 1) 36, 0, 0)) (e_T 36 (e_L 36 (0, ei_bin eF_add 37, 0, 0)) (e_L 37 (0, ei_load 1 0 38, 0, 0)))))))
set_option maxRecDepth 20000 in
set_option maxHeartbeats 4000000 in
theorem te_27_0_ok : ∀ pc, e_EOq eft cls elay eI n_27 pc (te_27_0 pc) :=
  (e_Tok2
  (e_Tok2
  (e_Tok2
  (e_Tok2
  (e_Lok (ld_aload_n_0 (x_dk dn_27_0_0_ok 0 rfl)))
  (e_Lok (lk_2_41g ho_27 (x_dk dn_27_0_0_ok 1 rfl))))
  (e_Tok2
  (e_Lok (ps_sipush_2000 (x_dk dn_27_0_0_ok 2 rfl)))
  (e_Tok2
  (e_Lok (e_st (I := eI) (er_icmpge (off := 52) (tg := 59) (x_dk dn_27_0_0_ok 3 rfl) (by decide)) nx_if2))
  (e_Lok (ld_aload_n_0 (x_dk dn_27_0_0_ok 4 rfl))))))
  (e_Tok2
  (e_Tok2
  (e_Lok (lk_2_41g ho_27 (x_dk dn_27_0_0_ok 5 rfl)))
  (e_Lok (ps_iconst_4 (x_dk dn_27_0_0_ok 6 rfl))))
  (e_Tok2
  (e_Lok (sm_imul (x_dk dn_27_0_0_ok 7 rfl)))
  (e_Tok2
  (e_Lok (e_st (I := eI) (er_istore (i := 4) (x_dk dn_27_0_0_ok 8 rfl) (by decide +kernel)) nx_stor))
  (e_Lok (ld_aload_n_0 (x_dk dn_27_0_0_ok 9 rfl)))))))
  (e_Tok2
  (e_Tok2
  (e_Tok2
  (e_Lok (lk_2_11g ho_27 (x_dk dn_27_0_0_ok 10 rfl)))
  (e_Lok (ld_iload_4 (x_dk dn_27_0_0_ok 11 rfl))))
  (e_Tok2
  (e_Lok (ld_aload_n_0 (x_dk dn_27_0_0_ok 12 rfl)))
  (e_Tok2
  (e_Lok (lk_2_38g ho_27 (x_dk dn_27_0_0_ok 13 rfl)))
  (e_Lok (sm_iastore (x_dk dn_27_0_0_ok 14 rfl))))))
  (e_Tok2
  (e_Tok2
  (e_Lok (ld_aload_n_0 (x_dk dn_27_0_0_ok 15 rfl)))
  (e_Tok2
  (e_Lok (lk_2_11g ho_27 (x_dk dn_27_0_0_ok 16 rfl)))
  (e_Lok (ld_iload_4 (x_dk dn_27_0_0_ok 17 rfl)))))
  (e_Tok2
  (e_Lok (ps_iconst_1 (x_dk dn_27_0_0_ok 18 rfl)))
  (e_Tok2
  (e_Lok (sm_iadd (x_dk dn_27_0_0_ok 19 rfl)))
  (e_Lok (ld_iload_n_1 (x_dk dn_27_0_0_ok 20 rfl))))))))
def te_27_21 : Nat → eE := (e_T 53 (e_T 45 (e_T 39 (e_T 38 (e_L 38 (0, ei_ast elay false 39, 0, 0)) (e_L 39 (0, ei_load 0 2 40, 0, 0))) (e_T 40 (e_L 40 (0, ei_getf eft elay 2 8 43, 0, 0)) (e_T 43 (e_L 43 (0, ei_load 4 0 45, 0, 0)) (e_L 45 (0, ei_push (0, 2) 46, 0, 0))))) (e_T 48 (e_T 46 (e_L 46 (0, ei_bin eF_add 47, 0, 0)) (e_T 47 (e_L 47 (0, ei_load 2 0 48, 0, 0)) (e_L 48 (0, ei_ast elay false 49, 0, 0)))) (e_T 49 (e_L 49 (0, ei_load 0 2 50, 0, 0)) (e_T 50 (e_L 50 (0, ei_getf eft elay 2 8 53, 0, 0)) (e_L 53 (0, ei_load 4 0 55, 0, 0)))))) (e_T 59 (e_T 56 (e_T 55 (e_L 55 (0, ei_push (0, 3) 56, 0, 0)) (e_L 56 (0, ei_bin eF_add 57, 0, 0))) (e_T 57 (e_L 57 (0, ei_load 3 0 58, 0, 0)) (e_T 58 (e_L 58 (0, ei_ast elay false 59, 0, 0)) (e_L 59 (0, ei_load 0 2 60, 0, 0))))) (e_T 64 (e_T 60 (e_L 60 (0, ei_stk ef_dup 61, 0, 0)) (e_T 61 (e_L 61 (0, ei_getf eft elay 2 1 64, 0, 0)) (e_L 64 (0, ei_push (0, 1) 65, 0, 0)))) (e_T 65 (e_L 65 (0, ei_bin eF_add 66, 0, 0)) (e_T 66 (e_L 66 (0, ei_putf eft elay 2 1 0 69, 0, 0)) (e_L 69 (1, e_nof, 0, 0)))))))
set_option maxRecDepth 20000 in
set_option maxHeartbeats 4000000 in
theorem te_27_21_ok : ∀ pc, e_EOq eft cls elay eI n_27 pc (te_27_21 pc) :=
  (e_Tok2
  (e_Tok2
  (e_Tok2
  (e_Tok2
  (e_Lok (sm_iastore (x_dk dn_27_0_0_ok 21 rfl)))
  (e_Lok (ld_aload_n_0 (x_dk dn_27_0_0_ok 22 rfl))))
  (e_Tok2
  (e_Lok (lk_2_11g ho_27 (x_dk dn_27_0_0_ok 23 rfl)))
  (e_Tok2
  (e_Lok (ld_iload_4 (x_dk dn_27_0_0_ok 24 rfl)))
  (e_Lok (ps_iconst_2 (x_dk dn_27_0_1_ok 0 rfl))))))
  (e_Tok2
  (e_Tok2
  (e_Lok (sm_iadd (x_dk dn_27_0_1_ok 1 rfl)))
  (e_Tok2
  (e_Lok (ld_iload_n_2 (x_dk dn_27_0_1_ok 2 rfl)))
  (e_Lok (sm_iastore (x_dk dn_27_0_1_ok 3 rfl)))))
  (e_Tok2
  (e_Lok (ld_aload_n_0 (x_dk dn_27_0_1_ok 4 rfl)))
  (e_Tok2
  (e_Lok (lk_2_11g ho_27 (x_dk dn_27_0_1_ok 5 rfl)))
  (e_Lok (ld_iload_4 (x_dk dn_27_0_1_ok 6 rfl)))))))
  (e_Tok2
  (e_Tok2
  (e_Tok2
  (e_Lok (ps_iconst_3 (x_dk dn_27_0_1_ok 7 rfl)))
  (e_Lok (sm_iadd (x_dk dn_27_0_1_ok 8 rfl))))
  (e_Tok2
  (e_Lok (ld_iload_n_3 (x_dk dn_27_0_1_ok 9 rfl)))
  (e_Tok2
  (e_Lok (sm_iastore (x_dk dn_27_0_1_ok 10 rfl)))
  (e_Lok (ld_aload_n_0 (x_dk dn_27_0_1_ok 11 rfl))))))
  (e_Tok2
  (e_Tok2
  (e_Lok (e_st (I := eI) (er_dup (x_dk dn_27_0_1_ok 12 rfl)) (nx_stk bf_dup)))
  (e_Tok2
  (e_Lok (lk_2_41g ho_27 (x_dk dn_27_0_1_ok 13 rfl)))
  (e_Lok (ps_iconst_1 (x_dk dn_27_0_1_ok 14 rfl)))))
  (e_Tok2
  (e_Lok (sm_iadd (x_dk dn_27_0_1_ok 15 rfl)))
  (e_Tok2
  (e_Lok (lk_2_41p ho_27 (x_dk dn_27_0_1_ok 16 rfl)))
  (e_Lok (e_rt (I := eI) (k := 0) ⟨(x_dk dn_27_0_1_ok 17 rfl), rfl⟩)))))))
def te_27 : Nat → eE := (e_T 37 te_27_0 te_27_21)
theorem te_27_ok : ∀ pc, e_EOq eft cls elay eI n_27 pc (te_27 pc) := (e_Tok2 (te_27_0_ok) (te_27_21_ok))
theorem ho_28 : (xm_y n_28).cls = "RobotCellHouse$Core" := rfl
def dn_28_0_0 : List (Nat × Instr × Nat) := [(0, .aload_n 0, 1), (1, .getfield 22, 3), (4, .iload_n 1, 1), (5, .iload_n 2, 1), (6, .bastore, 1), (7, .aload_n 0, 1), (8, .getfield 25, 3), (11, .iload_n 1, 1), (12, .iload_n 3, 1), (13, .bastore, 1), (14, .iconst 0, 1), (15, .ireturn, 1)]
set_option maxRecDepth 20000 in
theorem dn_28_0_0_ok : dn_28_0_0.all (fun q => decide (decode (xm_b n_28) q.1 = .ok (q.2.1, q.2.2))) = true := xa_g_ok (by decide +kernel)
def te_28_0 : Nat → eE := (e_T 7 (e_T 4 (e_T 0 (e_L 0 (0, ei_load 0 2 1, 0, 0)) (e_T 1 (e_L 1 (0, ei_getf eft elay 2 11 4, 0, 0)) (e_L 4 (0, ei_load 1 0 5, 0, 0)))) (e_T 5 (e_L 5 (0, ei_load 2 0 6, 0, 0)) (e_T 6 (e_L 6 (0, ei_ast elay true 7, 0, 0)) (e_L 7 (0, ei_load 0 2 8, 0, 0))))) (e_T 12 (e_T 8 (e_L 8 (0, ei_getf eft elay 2 12 11, 0, 0)) (e_T 11 (e_L 11 (0, ei_load 1 0 12, 0, 0)) (e_L 12 (0, ei_load 3 0 13, 0, 0)))) (e_T 13 (e_L 13 (0, ei_ast elay true 14, 0, 0)) (e_T 14 (e_L 14 (0, ei_push (0, 0) 15, 0, 0)) (e_L 15 (1, e_nof, 1, 0))))))
set_option maxRecDepth 20000 in
set_option maxHeartbeats 4000000 in
theorem te_28_0_ok : ∀ pc, e_EOq eft cls elay eI n_28 pc (te_28_0 pc) :=
  (e_Tok2
  (e_Tok2
  (e_Tok2
  (e_Lok (ld_aload_n_0 (x_dk dn_28_0_0_ok 0 rfl)))
  (e_Tok2
  (e_Lok (lk_2_22g ho_28 (x_dk dn_28_0_0_ok 1 rfl)))
  (e_Lok (ld_iload_n_1 (x_dk dn_28_0_0_ok 2 rfl)))))
  (e_Tok2
  (e_Lok (ld_iload_n_2 (x_dk dn_28_0_0_ok 3 rfl)))
  (e_Tok2
  (e_Lok (e_st (I := eI) (er_bastore (x_dk dn_28_0_0_ok 4 rfl)) nx_ast))
  (e_Lok (ld_aload_n_0 (x_dk dn_28_0_0_ok 5 rfl))))))
  (e_Tok2
  (e_Tok2
  (e_Lok (lk_2_25g ho_28 (x_dk dn_28_0_0_ok 6 rfl)))
  (e_Tok2
  (e_Lok (ld_iload_n_1 (x_dk dn_28_0_0_ok 7 rfl)))
  (e_Lok (ld_iload_n_3 (x_dk dn_28_0_0_ok 8 rfl)))))
  (e_Tok2
  (e_Lok (e_st (I := eI) (er_bastore (x_dk dn_28_0_0_ok 9 rfl)) nx_ast))
  (e_Tok2
  (e_Lok (ps_iconst_0 (x_dk dn_28_0_0_ok 10 rfl)))
  (e_Lok (e_rt (I := eI) (k := 1) ⟨(x_dk dn_28_0_0_ok 11 rfl), rfl⟩))))))
def te_28 : Nat → eE := te_28_0
theorem te_28_ok : ∀ pc, e_EOq eft cls elay eI n_28 pc (te_28 pc) := te_28_0_ok
theorem ho_29 : (xm_y n_29).cls = "RobotCellHouse$Core" := rfl
def dn_29_0_0 : List (Nat × Instr × Nat) := [(0, .aload_n 0, 1), (1, .getfield 22, 3), (4, .iload_n 1, 1), (5, .baload, 1), (6, .ifCond .eq 25, 3), (9, .aload_n 0, 1), (10, .getfield 25, 3), (13, .iload_n 1, 1), (14, .baload, 1), (15, .ifCond .eq 16, 3), (18, .aload_n 0, 1), (19, .getfield 28, 3), (22, .iload_n 1, 1), (23, .baload, 1), (24, .ifCond .ne 7, 3), (27, .iconst 1, 1), (28, .goto 4, 3), (31, .iconst 0, 1), (32, .ireturn, 1)]
set_option maxRecDepth 20000 in
theorem dn_29_0_0_ok : dn_29_0_0.all (fun q => decide (decode (xm_b n_29) q.1 = .ok (q.2.1, q.2.2))) = true := xa_g_ok (by decide +kernel)
def te_29_0 : Nat → eE := (e_T 14 (e_T 5 (e_T 1 (e_T 0 (e_L 0 (0, ei_load 0 2 1, 0, 0)) (e_L 1 (0, ei_getf eft elay 2 11 4, 0, 0))) (e_T 4 (e_L 4 (0, ei_load 1 0 5, 0, 0)) (e_L 5 (0, ei_ald elay true 6, 0, 0)))) (e_T 9 (e_T 6 (e_L 6 (0, ei_if1 0 31 9, 0, 0)) (e_L 9 (0, ei_load 0 2 10, 0, 0))) (e_T 10 (e_L 10 (0, ei_getf eft elay 2 12 13, 0, 0)) (e_T 13 (e_L 13 (0, ei_load 1 0 14, 0, 0)) (e_L 14 (0, ei_ald elay true 15, 0, 0)))))) (e_T 23 (e_T 18 (e_T 15 (e_L 15 (0, ei_if1 0 31 18, 0, 0)) (e_L 18 (0, ei_load 0 2 19, 0, 0))) (e_T 19 (e_L 19 (0, ei_getf eft elay 2 13 22, 0, 0)) (e_T 22 (e_L 22 (0, ei_load 1 0 23, 0, 0)) (e_L 23 (0, ei_ald elay true 24, 0, 0))))) (e_T 27 (e_T 24 (e_L 24 (0, ei_if1 1 31 27, 0, 0)) (e_L 27 (0, ei_push (0, 1) 28, 0, 0))) (e_T 28 (e_L 28 (0, ei_goto 32, 0, 0)) (e_T 31 (e_L 31 (0, ei_push (0, 0) 32, 0, 0)) (e_L 32 (1, e_nof, 4, 0)))))))
set_option maxRecDepth 20000 in
set_option maxHeartbeats 4000000 in
theorem te_29_0_ok : ∀ pc, e_EOq eft cls elay eI n_29 pc (te_29_0 pc) :=
  (e_Tok2
  (e_Tok2
  (e_Tok2
  (e_Tok2
  (e_Lok (ld_aload_n_0 (x_dk dn_29_0_0_ok 0 rfl)))
  (e_Lok (lk_2_22g ho_29 (x_dk dn_29_0_0_ok 1 rfl))))
  (e_Tok2
  (e_Lok (ld_iload_n_1 (x_dk dn_29_0_0_ok 2 rfl)))
  (e_Lok (e_st (I := eI) (er_baload (x_dk dn_29_0_0_ok 3 rfl)) nx_ald))))
  (e_Tok2
  (e_Tok2
  (e_Lok (e_st (I := eI) (er_ifeq (off := 25) (tg := 31) (x_dk dn_29_0_0_ok 4 rfl) (by decide)) nx_if1))
  (e_Lok (ld_aload_n_0 (x_dk dn_29_0_0_ok 5 rfl))))
  (e_Tok2
  (e_Lok (lk_2_25g ho_29 (x_dk dn_29_0_0_ok 6 rfl)))
  (e_Tok2
  (e_Lok (ld_iload_n_1 (x_dk dn_29_0_0_ok 7 rfl)))
  (e_Lok (e_st (I := eI) (er_baload (x_dk dn_29_0_0_ok 8 rfl)) nx_ald))))))
  (e_Tok2
  (e_Tok2
  (e_Tok2
  (e_Lok (e_st (I := eI) (er_ifeq (off := 16) (tg := 31) (x_dk dn_29_0_0_ok 9 rfl) (by decide)) nx_if1))
  (e_Lok (ld_aload_n_0 (x_dk dn_29_0_0_ok 10 rfl))))
  (e_Tok2
  (e_Lok (lk_2_28g ho_29 (x_dk dn_29_0_0_ok 11 rfl)))
  (e_Tok2
  (e_Lok (ld_iload_n_1 (x_dk dn_29_0_0_ok 12 rfl)))
  (e_Lok (e_st (I := eI) (er_baload (x_dk dn_29_0_0_ok 13 rfl)) nx_ald)))))
  (e_Tok2
  (e_Tok2
  (e_Lok (e_st (I := eI) (er_ifne (off := 7) (tg := 31) (x_dk dn_29_0_0_ok 14 rfl) (by decide)) nx_if1))
  (e_Lok (ps_iconst_1 (x_dk dn_29_0_0_ok 15 rfl))))
  (e_Tok2
  (e_Lok (e_st (I := eI) (er_goto (off := 4) (tg := 32) (x_dk dn_29_0_0_ok 16 rfl) (by decide)) nx_goto))
  (e_Tok2
  (e_Lok (ps_iconst_0 (x_dk dn_29_0_0_ok 17 rfl)))
  (e_Lok (e_rt (I := eI) (k := 4) ⟨(x_dk dn_29_0_0_ok 18 rfl), rfl⟩)))))))
def te_29 : Nat → eE := te_29_0
theorem te_29_ok : ∀ pc, e_EOq eft cls elay eI n_29 pc (te_29 pc) := te_29_0_ok
theorem ho_30 : (xm_y n_30).cls = "RobotCellHouse$Core" := rfl
def dn_30_0_0 : List (Nat × Instr × Nat) := [(0, .aload_n 0, 1), (1, .getfield 28, 3), (4, .iload_n 1, 1), (5, .baload, 1), (6, .ifCond .eq 5, 3), (9, .iconst 2, 1), (10, .ireturn, 1), (11, .aload_n 0, 1), (12, .iload_n 1, 1), (13, .invokevirtual 60, 3), (16, .ifCond .eq 7, 3), (19, .iconst 1, 1), (20, .goto 4, 3), (23, .iconst 0, 1), (24, .ireturn, 1)]
set_option maxRecDepth 20000 in
theorem dn_30_0_0_ok : dn_30_0_0.all (fun q => decide (decode (xm_b n_30) q.1 = .ok (q.2.1, q.2.2))) = true := xa_g_ok (by decide +kernel)
def te_30_0 : Nat → eE := (e_T 10 (e_T 4 (e_T 0 (e_L 0 (0, ei_load 0 2 1, 0, 0)) (e_T 1 (e_L 1 (0, ei_getf eft elay 2 13 4, 0, 0)) (e_L 4 (0, ei_load 1 0 5, 0, 0)))) (e_T 6 (e_T 5 (e_L 5 (0, ei_ald elay true 6, 0, 0)) (e_L 6 (0, ei_if1 0 11 9, 0, 0))) (e_T 9 (e_L 9 (0, ei_push (0, 2) 10, 0, 0)) (e_L 10 (1, e_nof, 1, 0))))) (e_T 16 (e_T 12 (e_T 11 (e_L 11 (0, ei_load 0 2 12, 0, 0)) (e_L 12 (0, ei_load 1 0 13, 0, 0))) (e_T 13 (e_L 13 (2, e_nof, 29, 2)) (e_L 16 (0, ei_if1 0 23 19, 0, 0)))) (e_T 20 (e_T 19 (e_L 19 (0, ei_push (0, 1) 20, 0, 0)) (e_L 20 (0, ei_goto 24, 0, 0))) (e_T 23 (e_L 23 (0, ei_push (0, 0) 24, 0, 0)) (e_L 24 (1, e_nof, 1, 0))))))
set_option maxRecDepth 20000 in
set_option maxHeartbeats 4000000 in
theorem te_30_0_ok : ∀ pc, e_EOq eft cls elay eI n_30 pc (te_30_0 pc) :=
  (e_Tok2
  (e_Tok2
  (e_Tok2
  (e_Lok (ld_aload_n_0 (x_dk dn_30_0_0_ok 0 rfl)))
  (e_Tok2
  (e_Lok (lk_2_28g ho_30 (x_dk dn_30_0_0_ok 1 rfl)))
  (e_Lok (ld_iload_n_1 (x_dk dn_30_0_0_ok 2 rfl)))))
  (e_Tok2
  (e_Tok2
  (e_Lok (e_st (I := eI) (er_baload (x_dk dn_30_0_0_ok 3 rfl)) nx_ald))
  (e_Lok (e_st (I := eI) (er_ifeq (off := 5) (tg := 11) (x_dk dn_30_0_0_ok 4 rfl) (by decide)) nx_if1)))
  (e_Tok2
  (e_Lok (ps_iconst_2 (x_dk dn_30_0_0_ok 5 rfl)))
  (e_Lok (e_rt (I := eI) (k := 1) ⟨(x_dk dn_30_0_0_ok 6 rfl), rfl⟩)))))
  (e_Tok2
  (e_Tok2
  (e_Tok2
  (e_Lok (ld_aload_n_0 (x_dk dn_30_0_0_ok 7 rfl)))
  (e_Lok (ld_iload_n_1 (x_dk dn_30_0_0_ok 8 rfl))))
  (e_Tok2
  (e_Lok (lk_2_60 ho_30 (x_dk dn_30_0_0_ok 9 rfl)))
  (e_Lok (e_st (I := eI) (er_ifeq (off := 7) (tg := 23) (x_dk dn_30_0_0_ok 10 rfl) (by decide)) nx_if1))))
  (e_Tok2
  (e_Tok2
  (e_Lok (ps_iconst_1 (x_dk dn_30_0_0_ok 11 rfl)))
  (e_Lok (e_st (I := eI) (er_goto (off := 4) (tg := 24) (x_dk dn_30_0_0_ok 12 rfl) (by decide)) nx_goto)))
  (e_Tok2
  (e_Lok (ps_iconst_0 (x_dk dn_30_0_0_ok 13 rfl)))
  (e_Lok (e_rt (I := eI) (k := 1) ⟨(x_dk dn_30_0_0_ok 14 rfl), rfl⟩))))))
def te_30 : Nat → eE := te_30_0
theorem te_30_ok : ∀ pc, e_EOq eft cls elay eI n_30 pc (te_30 pc) := te_30_0_ok
theorem ho_31 : (xm_y n_31).cls = "RobotCellHouse$Core" := rfl
def dn_31_0_0 : List (Nat × Instr × Nat) := [(0, .iconst 0, 1), (1, .istore_n 1, 1), (2, .iload_n 1, 1), (3, .aload_n 0, 1), (4, .getfield 34, 3), (7, .if_icmp .ge 29, 3), (10, .aload_n 0, 1), (11, .getfield 22, 3), (14, .iload_n 1, 1), (15, .baload, 1), (16, .ifCond .eq 12, 3), (19, .aload_n 0, 1), (20, .getfield 25, 3), (23, .iload_n 1, 1), (24, .baload, 1), (25, .ifCond .ne 5, 3), (28, .iconst 0, 1), (29, .ireturn, 1), (30, .iinc 1 1, 3), (33, .goto (-31), 3), (36, .iconst 1, 1), (37, .ireturn, 1)]
set_option maxRecDepth 20000 in
theorem dn_31_0_0_ok : dn_31_0_0.all (fun q => decide (decode (xm_b n_31) q.1 = .ok (q.2.1, q.2.2))) = true := xa_g_ok (by decide +kernel)
def te_31_0 : Nat → eE := (e_T 16 (e_T 4 (e_T 1 (e_T 0 (e_L 0 (0, ei_push (0, 0) 1, 0, 0)) (e_L 1 (0, ei_stor 1 0 2, 0, 0))) (e_T 2 (e_L 2 (0, ei_load 1 0 3, 0, 0)) (e_T 3 (e_L 3 (0, ei_load 0 2 4, 0, 0)) (e_L 4 (0, ei_getf eft elay 2 2 7, 0, 0))))) (e_T 11 (e_T 7 (e_L 7 (0, ei_if2 3 36 10, 0, 0)) (e_T 10 (e_L 10 (0, ei_load 0 2 11, 0, 0)) (e_L 11 (0, ei_getf eft elay 2 11 14, 0, 0)))) (e_T 14 (e_L 14 (0, ei_load 1 0 15, 0, 0)) (e_T 15 (e_L 15 (0, ei_ald elay true 16, 0, 0)) (e_L 16 (0, ei_if1 0 28 19, 0, 0)))))) (e_T 25 (e_T 20 (e_T 19 (e_L 19 (0, ei_load 0 2 20, 0, 0)) (e_L 20 (0, ei_getf eft elay 2 12 23, 0, 0))) (e_T 23 (e_L 23 (0, ei_load 1 0 24, 0, 0)) (e_T 24 (e_L 24 (0, ei_ald elay true 25, 0, 0)) (e_L 25 (0, ei_if1 1 30 28, 0, 0))))) (e_T 30 (e_T 28 (e_L 28 (0, ei_push (0, 0) 29, 0, 0)) (e_T 29 (e_L 29 (1, e_nof, 4, 0)) (e_L 30 (0, ei_inc 1 1 33, 0, 0)))) (e_T 33 (e_L 33 (0, ei_goto 2, 0, 0)) (e_T 36 (e_L 36 (0, ei_push (0, 1) 37, 0, 0)) (e_L 37 (1, e_nof, 4, 0)))))))
set_option maxRecDepth 20000 in
set_option maxHeartbeats 4000000 in
theorem te_31_0_ok : ∀ pc, e_EOq eft cls elay eI n_31 pc (te_31_0 pc) :=
  (e_Tok2
  (e_Tok2
  (e_Tok2
  (e_Tok2
  (e_Lok (ps_iconst_0 (x_dk dn_31_0_0_ok 0 rfl)))
  (e_Lok (e_st (I := eI) (er_istore_n (i := 1) (x_dk dn_31_0_0_ok 1 rfl) (by decide +kernel)) nx_stor)))
  (e_Tok2
  (e_Lok (ld_iload_n_1 (x_dk dn_31_0_0_ok 2 rfl)))
  (e_Tok2
  (e_Lok (ld_aload_n_0 (x_dk dn_31_0_0_ok 3 rfl)))
  (e_Lok (lk_2_34g ho_31 (x_dk dn_31_0_0_ok 4 rfl))))))
  (e_Tok2
  (e_Tok2
  (e_Lok (e_st (I := eI) (er_icmpge (off := 29) (tg := 36) (x_dk dn_31_0_0_ok 5 rfl) (by decide)) nx_if2))
  (e_Tok2
  (e_Lok (ld_aload_n_0 (x_dk dn_31_0_0_ok 6 rfl)))
  (e_Lok (lk_2_22g ho_31 (x_dk dn_31_0_0_ok 7 rfl)))))
  (e_Tok2
  (e_Lok (ld_iload_n_1 (x_dk dn_31_0_0_ok 8 rfl)))
  (e_Tok2
  (e_Lok (e_st (I := eI) (er_baload (x_dk dn_31_0_0_ok 9 rfl)) nx_ald))
  (e_Lok (e_st (I := eI) (er_ifeq (off := 12) (tg := 28) (x_dk dn_31_0_0_ok 10 rfl) (by decide)) nx_if1))))))
  (e_Tok2
  (e_Tok2
  (e_Tok2
  (e_Lok (ld_aload_n_0 (x_dk dn_31_0_0_ok 11 rfl)))
  (e_Lok (lk_2_25g ho_31 (x_dk dn_31_0_0_ok 12 rfl))))
  (e_Tok2
  (e_Lok (ld_iload_n_1 (x_dk dn_31_0_0_ok 13 rfl)))
  (e_Tok2
  (e_Lok (e_st (I := eI) (er_baload (x_dk dn_31_0_0_ok 14 rfl)) nx_ald))
  (e_Lok (e_st (I := eI) (er_ifne (off := 5) (tg := 30) (x_dk dn_31_0_0_ok 15 rfl) (by decide)) nx_if1)))))
  (e_Tok2
  (e_Tok2
  (e_Lok (ps_iconst_0 (x_dk dn_31_0_0_ok 16 rfl)))
  (e_Tok2
  (e_Lok (e_rt (I := eI) (k := 4) ⟨(x_dk dn_31_0_0_ok 17 rfl), rfl⟩))
  (e_Lok (e_st (I := eI) (er_iinc (i := 1) (n := 1) (x_dk dn_31_0_0_ok 18 rfl) (by decide +kernel) (by decide)) nx_inc))))
  (e_Tok2
  (e_Lok (e_st (I := eI) (er_goto (off := (-31)) (tg := 2) (x_dk dn_31_0_0_ok 19 rfl) (by decide)) nx_goto))
  (e_Tok2
  (e_Lok (ps_iconst_1 (x_dk dn_31_0_0_ok 20 rfl)))
  (e_Lok (e_rt (I := eI) (k := 4) ⟨(x_dk dn_31_0_0_ok 21 rfl), rfl⟩)))))))
def te_31 : Nat → eE := te_31_0
theorem te_31_ok : ∀ pc, e_EOq eft cls elay eI n_31 pc (te_31 pc) := te_31_0_ok
theorem ho_32 : (xm_y n_32).cls = "RobotCellHouse$Core" := rfl
def dn_32_0_0 : List (Nat × Instr × Nat) := [(0, .iconst (-1), 1), (1, .istore_n 1, 1), (2, .aload_n 0, 1), (3, .getfield 34, 3), (6, .iconst 1, 1), (7, .isub, 1), (8, .istore_n 2, 1), (9, .iload_n 2, 1), (10, .ifCond .lt 74, 3), (13, .aload_n 0, 1), (14, .getfield 31, 3), (17, .iload_n 2, 1), (18, .aload_n 0, 1), (19, .getfield 22, 3), (22, .iload_n 2, 1), (23, .baload, 1), (24, .aload_n 0, 1), (25, .getfield 25, 3), (28, .iload_n 2, 1), (29, .baload, 1), (30, .if_icmp .ne 7, 3), (33, .iconst 0, 1), (34, .goto 11, 3), (37, .aload_n 0, 1), (38, .getfield 31, 3)]
set_option maxRecDepth 20000 in
theorem dn_32_0_0_ok : dn_32_0_0.all (fun q => decide (decode (xm_b n_32) q.1 = .ok (q.2.1, q.2.2))) = true := xa_g_ok (by decide +kernel)
def dn_32_0_1 : List (Nat × Instr × Nat) := [(41, .iload_n 2, 1), (42, .iaload, 1), (43, .iconst 1, 1), (44, .iadd, 1), (45, .iastore, 1), (46, .aload_n 0, 1), (47, .getfield 31, 3), (50, .iload_n 2, 1), (51, .iaload, 1), (52, .aload_n 0, 1), (53, .getfield 15, 3), (56, .iload_n 2, 1), (57, .iaload, 1), (58, .if_icmp .le 10, 3), (61, .aload_n 0, 1), (62, .getfield 28, 3), (65, .iload_n 2, 1), (66, .iconst 1, 1), (67, .bastore, 1), (68, .aload_n 0, 1), (69, .iload_n 2, 1), (70, .invokevirtual 60, 3), (73, .ifCond .ne 5, 3), (76, .iload_n 2, 1), (77, .istore_n 1, 1)]
set_option maxRecDepth 20000 in
theorem dn_32_0_1_ok : dn_32_0_1.all (fun q => decide (decode (xm_b n_32) q.1 = .ok (q.2.1, q.2.2))) = true := xa_g_ok (by decide +kernel)
def dn_32_0_2 : List (Nat × Instr × Nat) := [(78, .iinc 2 (-1), 3), (81, .goto (-72), 3), (84, .iload_n 1, 1), (85, .ireturn, 1)]
set_option maxRecDepth 20000 in
theorem dn_32_0_2_ok : dn_32_0_2.all (fun q => decide (decode (xm_b n_32) q.1 = .ok (q.2.1, q.2.2))) = true := xa_g_ok (by decide +kernel)
def te_32_0 : Nat → eE := (e_T 18 (e_T 7 (e_T 2 (e_T 0 (e_L 0 (0, ei_push (0, (-1)) 1, 0, 0)) (e_T 1 (e_L 1 (0, ei_stor 1 0 2, 0, 0)) (e_L 2 (0, ei_load 0 2 3, 0, 0)))) (e_T 3 (e_L 3 (0, ei_getf eft elay 2 2 6, 0, 0)) (e_T 6 (e_L 6 (0, ei_push (0, 1) 7, 0, 0)) (e_L 7 (0, ei_bin eF_sub 8, 0, 0))))) (e_T 10 (e_T 8 (e_L 8 (0, ei_stor 2 0 9, 0, 0)) (e_T 9 (e_L 9 (0, ei_load 2 0 10, 0, 0)) (e_L 10 (0, ei_if1 2 84 13, 0, 0)))) (e_T 14 (e_T 13 (e_L 13 (0, ei_load 0 2 14, 0, 0)) (e_L 14 (0, ei_getf eft elay 2 14 17, 0, 0))) (e_T 17 (e_L 17 (0, ei_load 2 0 18, 0, 0)) (e_L 18 (0, ei_load 0 2 19, 0, 0)))))) (e_T 29 (e_T 23 (e_T 19 (e_L 19 (0, ei_getf eft elay 2 11 22, 0, 0)) (e_T 22 (e_L 22 (0, ei_load 2 0 23, 0, 0)) (e_L 23 (0, ei_ald elay true 24, 0, 0)))) (e_T 25 (e_T 24 (e_L 24 (0, ei_load 0 2 25, 0, 0)) (e_L 25 (0, ei_getf eft elay 2 12 28, 0, 0))) (e_T 28 (e_L 28 (0, ei_load 2 0 29, 0, 0)) (e_L 29 (0, ei_ald elay true 30, 0, 0))))) (e_T 34 (e_T 30 (e_L 30 (0, ei_if2 1 37 33, 0, 0)) (e_T 33 (e_L 33 (0, ei_push (0, 0) 34, 0, 0)) (e_L 34 (0, ei_goto 45, 0, 0)))) (e_T 38 (e_T 37 (e_L 37 (0, ei_load 0 2 38, 0, 0)) (e_L 38 (0, ei_getf eft elay 2 14 41, 0, 0))) (e_T 41 (e_L 41 (0, ei_load 2 0 42, 0, 0)) (e_L 42 (0, ei_ald elay false 43, 0, 0)))))))
set_option maxRecDepth 20000 in
set_option maxHeartbeats 4000000 in
theorem te_32_0_ok : ∀ pc, e_EOq eft cls elay eI n_32 pc (te_32_0 pc) :=
  (e_Tok2
  (e_Tok2
  (e_Tok2
  (e_Tok2
  (e_Lok (ps_iconst_m1 (x_dk dn_32_0_0_ok 0 rfl)))
  (e_Tok2
  (e_Lok (e_st (I := eI) (er_istore_n (i := 1) (x_dk dn_32_0_0_ok 1 rfl) (by decide +kernel)) nx_stor))
  (e_Lok (ld_aload_n_0 (x_dk dn_32_0_0_ok 2 rfl)))))
  (e_Tok2
  (e_Lok (lk_2_34g ho_32 (x_dk dn_32_0_0_ok 3 rfl)))
  (e_Tok2
  (e_Lok (ps_iconst_1 (x_dk dn_32_0_0_ok 4 rfl)))
  (e_Lok (sm_isub (x_dk dn_32_0_0_ok 5 rfl))))))
  (e_Tok2
  (e_Tok2
  (e_Lok (e_st (I := eI) (er_istore_n (i := 2) (x_dk dn_32_0_0_ok 6 rfl) (by decide +kernel)) nx_stor))
  (e_Tok2
  (e_Lok (ld_iload_n_2 (x_dk dn_32_0_0_ok 7 rfl)))
  (e_Lok (e_st (I := eI) (er_iflt (off := 74) (tg := 84) (x_dk dn_32_0_0_ok 8 rfl) (by decide)) nx_if1))))
  (e_Tok2
  (e_Tok2
  (e_Lok (ld_aload_n_0 (x_dk dn_32_0_0_ok 9 rfl)))
  (e_Lok (lk_2_31g ho_32 (x_dk dn_32_0_0_ok 10 rfl))))
  (e_Tok2
  (e_Lok (ld_iload_n_2 (x_dk dn_32_0_0_ok 11 rfl)))
  (e_Lok (ld_aload_n_0 (x_dk dn_32_0_0_ok 12 rfl)))))))
  (e_Tok2
  (e_Tok2
  (e_Tok2
  (e_Lok (lk_2_22g ho_32 (x_dk dn_32_0_0_ok 13 rfl)))
  (e_Tok2
  (e_Lok (ld_iload_n_2 (x_dk dn_32_0_0_ok 14 rfl)))
  (e_Lok (e_st (I := eI) (er_baload (x_dk dn_32_0_0_ok 15 rfl)) nx_ald))))
  (e_Tok2
  (e_Tok2
  (e_Lok (ld_aload_n_0 (x_dk dn_32_0_0_ok 16 rfl)))
  (e_Lok (lk_2_25g ho_32 (x_dk dn_32_0_0_ok 17 rfl))))
  (e_Tok2
  (e_Lok (ld_iload_n_2 (x_dk dn_32_0_0_ok 18 rfl)))
  (e_Lok (e_st (I := eI) (er_baload (x_dk dn_32_0_0_ok 19 rfl)) nx_ald)))))
  (e_Tok2
  (e_Tok2
  (e_Lok (e_st (I := eI) (er_icmpne (off := 7) (tg := 37) (x_dk dn_32_0_0_ok 20 rfl) (by decide)) nx_if2))
  (e_Tok2
  (e_Lok (ps_iconst_0 (x_dk dn_32_0_0_ok 21 rfl)))
  (e_Lok (e_st (I := eI) (er_goto (off := 11) (tg := 45) (x_dk dn_32_0_0_ok 22 rfl) (by decide)) nx_goto))))
  (e_Tok2
  (e_Tok2
  (e_Lok (ld_aload_n_0 (x_dk dn_32_0_0_ok 23 rfl)))
  (e_Lok (lk_2_31g ho_32 (x_dk dn_32_0_0_ok 24 rfl))))
  (e_Tok2
  (e_Lok (ld_iload_n_2 (x_dk dn_32_0_1_ok 0 rfl)))
  (e_Lok (sm_iaload (x_dk dn_32_0_1_ok 1 rfl))))))))
def te_32_27 : Nat → eE := (e_T 61 (e_T 50 (e_T 45 (e_T 43 (e_L 43 (0, ei_push (0, 1) 44, 0, 0)) (e_T 44 (e_L 44 (0, ei_bin eF_add 45, 0, 0)) (e_L 45 (0, ei_ast elay false 46, 0, 0)))) (e_T 46 (e_L 46 (0, ei_load 0 2 47, 0, 0)) (e_T 47 (e_L 47 (0, ei_getf eft elay 2 14 50, 0, 0)) (e_L 50 (0, ei_load 2 0 51, 0, 0))))) (e_T 53 (e_T 51 (e_L 51 (0, ei_ald elay false 52, 0, 0)) (e_T 52 (e_L 52 (0, ei_load 0 2 53, 0, 0)) (e_L 53 (0, ei_getf eft elay 2 9 56, 0, 0)))) (e_T 57 (e_T 56 (e_L 56 (0, ei_load 2 0 57, 0, 0)) (e_L 57 (0, ei_ald elay false 58, 0, 0))) (e_T 58 (e_L 58 (0, ei_if2 5 68 61, 0, 0)) (e_L 61 (0, ei_load 0 2 62, 0, 0)))))) (e_T 70 (e_T 66 (e_T 62 (e_L 62 (0, ei_getf eft elay 2 13 65, 0, 0)) (e_T 65 (e_L 65 (0, ei_load 2 0 66, 0, 0)) (e_L 66 (0, ei_push (0, 1) 67, 0, 0)))) (e_T 68 (e_T 67 (e_L 67 (0, ei_ast elay true 68, 0, 0)) (e_L 68 (0, ei_load 0 2 69, 0, 0))) (e_T 69 (e_L 69 (0, ei_load 2 0 70, 0, 0)) (e_L 70 (2, e_nof, 29, 2))))) (e_T 77 (e_T 73 (e_L 73 (0, ei_if1 1 78 76, 0, 0)) (e_T 76 (e_L 76 (0, ei_load 2 0 77, 0, 0)) (e_L 77 (0, ei_stor 1 0 78, 0, 0)))) (e_T 81 (e_T 78 (e_L 78 (0, ei_inc 2 (-1) 81, 0, 0)) (e_L 81 (0, ei_goto 9, 0, 0))) (e_T 84 (e_L 84 (0, ei_load 1 0 85, 0, 0)) (e_L 85 (1, e_nof, 1, 0)))))))
set_option maxRecDepth 20000 in
set_option maxHeartbeats 4000000 in
theorem te_32_27_ok : ∀ pc, e_EOq eft cls elay eI n_32 pc (te_32_27 pc) :=
  (e_Tok2
  (e_Tok2
  (e_Tok2
  (e_Tok2
  (e_Lok (ps_iconst_1 (x_dk dn_32_0_1_ok 2 rfl)))
  (e_Tok2
  (e_Lok (sm_iadd (x_dk dn_32_0_1_ok 3 rfl)))
  (e_Lok (sm_iastore (x_dk dn_32_0_1_ok 4 rfl)))))
  (e_Tok2
  (e_Lok (ld_aload_n_0 (x_dk dn_32_0_1_ok 5 rfl)))
  (e_Tok2
  (e_Lok (lk_2_31g ho_32 (x_dk dn_32_0_1_ok 6 rfl)))
  (e_Lok (ld_iload_n_2 (x_dk dn_32_0_1_ok 7 rfl))))))
  (e_Tok2
  (e_Tok2
  (e_Lok (sm_iaload (x_dk dn_32_0_1_ok 8 rfl)))
  (e_Tok2
  (e_Lok (ld_aload_n_0 (x_dk dn_32_0_1_ok 9 rfl)))
  (e_Lok (lk_2_15g ho_32 (x_dk dn_32_0_1_ok 10 rfl)))))
  (e_Tok2
  (e_Tok2
  (e_Lok (ld_iload_n_2 (x_dk dn_32_0_1_ok 11 rfl)))
  (e_Lok (sm_iaload (x_dk dn_32_0_1_ok 12 rfl))))
  (e_Tok2
  (e_Lok (e_st (I := eI) (er_icmple (off := 10) (tg := 68) (x_dk dn_32_0_1_ok 13 rfl) (by decide)) nx_if2))
  (e_Lok (ld_aload_n_0 (x_dk dn_32_0_1_ok 14 rfl)))))))
  (e_Tok2
  (e_Tok2
  (e_Tok2
  (e_Lok (lk_2_28g ho_32 (x_dk dn_32_0_1_ok 15 rfl)))
  (e_Tok2
  (e_Lok (ld_iload_n_2 (x_dk dn_32_0_1_ok 16 rfl)))
  (e_Lok (ps_iconst_1 (x_dk dn_32_0_1_ok 17 rfl)))))
  (e_Tok2
  (e_Tok2
  (e_Lok (e_st (I := eI) (er_bastore (x_dk dn_32_0_1_ok 18 rfl)) nx_ast))
  (e_Lok (ld_aload_n_0 (x_dk dn_32_0_1_ok 19 rfl))))
  (e_Tok2
  (e_Lok (ld_iload_n_2 (x_dk dn_32_0_1_ok 20 rfl)))
  (e_Lok (lk_2_60 ho_32 (x_dk dn_32_0_1_ok 21 rfl))))))
  (e_Tok2
  (e_Tok2
  (e_Lok (e_st (I := eI) (er_ifne (off := 5) (tg := 78) (x_dk dn_32_0_1_ok 22 rfl) (by decide)) nx_if1))
  (e_Tok2
  (e_Lok (ld_iload_n_2 (x_dk dn_32_0_1_ok 23 rfl)))
  (e_Lok (e_st (I := eI) (er_istore_n (i := 1) (x_dk dn_32_0_1_ok 24 rfl) (by decide +kernel)) nx_stor))))
  (e_Tok2
  (e_Tok2
  (e_Lok (e_st (I := eI) (er_iinc (i := 2) (n := (-1)) (x_dk dn_32_0_2_ok 0 rfl) (by decide +kernel) (by decide)) nx_inc))
  (e_Lok (e_st (I := eI) (er_goto (off := (-72)) (tg := 9) (x_dk dn_32_0_2_ok 1 rfl) (by decide)) nx_goto)))
  (e_Tok2
  (e_Lok (ld_iload_n_1 (x_dk dn_32_0_2_ok 2 rfl)))
  (e_Lok (e_rt (I := eI) (k := 1) ⟨(x_dk dn_32_0_2_ok 3 rfl), rfl⟩)))))))
def te_32 : Nat → eE := (e_T 42 te_32_0 te_32_27)
theorem te_32_ok : ∀ pc, e_EOq eft cls elay eI n_32 pc (te_32 pc) := (e_Tok2 (te_32_0_ok) (te_32_27_ok))
theorem ho_33 : (xm_y n_33).cls = "RobotCellHouse$Core" := rfl
def dn_33_0_0 : List (Nat × Instr × Nat) := [(0, .iconst 0, 1), (1, .istore_n 2, 1), (2, .iload_n 2, 1), (3, .aload_n 0, 1), (4, .getfield 34, 3), (7, .if_icmp .ge 16, 3), (10, .aload_n 0, 1), (11, .getfield 28, 3), (14, .iload_n 2, 1), (15, .iconst 0, 1), (16, .bastore, 1), (17, .iinc 2 1, 3), (20, .goto (-18), 3), (23, .aload_n 0, 1), (24, .iconst 1, 1), (25, .putfield 44, 3), (28, .aload_n 0, 1), (29, .iconst 3, 1), (30, .iload_n 1, 1), (31, .iconst 0, 1), (32, .invokevirtual 64, 3), (35, .iconst 1, 1), (36, .ireturn, 1)]
set_option maxRecDepth 20000 in
theorem dn_33_0_0_ok : dn_33_0_0.all (fun q => decide (decode (xm_b n_33) q.1 = .ok (q.2.1, q.2.2))) = true := xa_g_ok (by decide +kernel)
def te_33_0 : Nat → eE := (e_T 16 (e_T 4 (e_T 1 (e_T 0 (e_L 0 (0, ei_push (0, 0) 1, 0, 0)) (e_L 1 (0, ei_stor 2 0 2, 0, 0))) (e_T 2 (e_L 2 (0, ei_load 2 0 3, 0, 0)) (e_T 3 (e_L 3 (0, ei_load 0 2 4, 0, 0)) (e_L 4 (0, ei_getf eft elay 2 2 7, 0, 0))))) (e_T 11 (e_T 7 (e_L 7 (0, ei_if2 3 23 10, 0, 0)) (e_T 10 (e_L 10 (0, ei_load 0 2 11, 0, 0)) (e_L 11 (0, ei_getf eft elay 2 13 14, 0, 0)))) (e_T 14 (e_L 14 (0, ei_load 2 0 15, 0, 0)) (e_T 15 (e_L 15 (0, ei_push (0, 0) 16, 0, 0)) (e_L 16 (0, ei_ast elay true 17, 0, 0)))))) (e_T 28 (e_T 23 (e_T 17 (e_L 17 (0, ei_inc 2 1 20, 0, 0)) (e_T 20 (e_L 20 (0, ei_goto 2, 0, 0)) (e_L 23 (0, ei_load 0 2 24, 0, 0)))) (e_T 24 (e_L 24 (0, ei_push (0, 1) 25, 0, 0)) (e_T 25 (e_L 25 (0, ei_putf eft elay 2 3 1 28, 0, 0)) (e_L 28 (0, ei_load 0 2 29, 0, 0))))) (e_T 31 (e_T 29 (e_L 29 (0, ei_push (0, 3) 30, 0, 0)) (e_T 30 (e_L 30 (0, ei_load 1 0 31, 0, 0)) (e_L 31 (0, ei_push (0, 0) 32, 0, 0)))) (e_T 32 (e_L 32 (2, e_nof, 27, 4)) (e_T 35 (e_L 35 (0, ei_push (0, 1) 36, 0, 0)) (e_L 36 (1, e_nof, 1, 0)))))))
set_option maxRecDepth 20000 in
set_option maxHeartbeats 4000000 in
theorem te_33_0_ok : ∀ pc, e_EOq eft cls elay eI n_33 pc (te_33_0 pc) :=
  (e_Tok2
  (e_Tok2
  (e_Tok2
  (e_Tok2
  (e_Lok (ps_iconst_0 (x_dk dn_33_0_0_ok 0 rfl)))
  (e_Lok (e_st (I := eI) (er_istore_n (i := 2) (x_dk dn_33_0_0_ok 1 rfl) (by decide +kernel)) nx_stor)))
  (e_Tok2
  (e_Lok (ld_iload_n_2 (x_dk dn_33_0_0_ok 2 rfl)))
  (e_Tok2
  (e_Lok (ld_aload_n_0 (x_dk dn_33_0_0_ok 3 rfl)))
  (e_Lok (lk_2_34g ho_33 (x_dk dn_33_0_0_ok 4 rfl))))))
  (e_Tok2
  (e_Tok2
  (e_Lok (e_st (I := eI) (er_icmpge (off := 16) (tg := 23) (x_dk dn_33_0_0_ok 5 rfl) (by decide)) nx_if2))
  (e_Tok2
  (e_Lok (ld_aload_n_0 (x_dk dn_33_0_0_ok 6 rfl)))
  (e_Lok (lk_2_28g ho_33 (x_dk dn_33_0_0_ok 7 rfl)))))
  (e_Tok2
  (e_Lok (ld_iload_n_2 (x_dk dn_33_0_0_ok 8 rfl)))
  (e_Tok2
  (e_Lok (ps_iconst_0 (x_dk dn_33_0_0_ok 9 rfl)))
  (e_Lok (e_st (I := eI) (er_bastore (x_dk dn_33_0_0_ok 10 rfl)) nx_ast))))))
  (e_Tok2
  (e_Tok2
  (e_Tok2
  (e_Lok (e_st (I := eI) (er_iinc (i := 2) (n := 1) (x_dk dn_33_0_0_ok 11 rfl) (by decide +kernel) (by decide)) nx_inc))
  (e_Tok2
  (e_Lok (e_st (I := eI) (er_goto (off := (-18)) (tg := 2) (x_dk dn_33_0_0_ok 12 rfl) (by decide)) nx_goto))
  (e_Lok (ld_aload_n_0 (x_dk dn_33_0_0_ok 13 rfl)))))
  (e_Tok2
  (e_Lok (ps_iconst_1 (x_dk dn_33_0_0_ok 14 rfl)))
  (e_Tok2
  (e_Lok (lk_2_44p ho_33 (x_dk dn_33_0_0_ok 15 rfl)))
  (e_Lok (ld_aload_n_0 (x_dk dn_33_0_0_ok 16 rfl))))))
  (e_Tok2
  (e_Tok2
  (e_Lok (ps_iconst_3 (x_dk dn_33_0_0_ok 17 rfl)))
  (e_Tok2
  (e_Lok (ld_iload_n_1 (x_dk dn_33_0_0_ok 18 rfl)))
  (e_Lok (ps_iconst_0 (x_dk dn_33_0_0_ok 19 rfl)))))
  (e_Tok2
  (e_Lok (lk_2_64 ho_33 (x_dk dn_33_0_0_ok 20 rfl)))
  (e_Tok2
  (e_Lok (ps_iconst_1 (x_dk dn_33_0_0_ok 21 rfl)))
  (e_Lok (e_rt (I := eI) (k := 1) ⟨(x_dk dn_33_0_0_ok 22 rfl), rfl⟩)))))))
def te_33 : Nat → eE := te_33_0
theorem te_33_ok : ∀ pc, e_EOq eft cls elay eI n_33 pc (te_33 pc) := te_33_0_ok
theorem ho_34 : (xm_y n_34).cls = "RobotCellHouse$Core" := rfl
def dn_34_0_0 : List (Nat × Instr × Nat) := [(0, .aload_n 0, 1), (1, .iconst 0, 1), (2, .putfield 44, 3), (5, .aload_n 0, 1), (6, .iload_n 1, 1), (7, .putfield 48, 3), (10, .aload_n 0, 1), (11, .iload_n 2, 1), (12, .putfield 51, 3), (15, .aload_n 0, 1), (16, .aload_n 0, 1), (17, .getfield 38, 3), (20, .putfield 54, 3), (23, .aload_n 0, 1), (24, .iconst 2, 1), (25, .iload_n 1, 1), (26, .iload_n 2, 1), (27, .invokevirtual 64, 3), (30, .return_, 1)]
set_option maxRecDepth 20000 in
theorem dn_34_0_0_ok : dn_34_0_0.all (fun q => decide (decode (xm_b n_34) q.1 = .ok (q.2.1, q.2.2))) = true := xa_g_ok (by decide +kernel)
def te_34_0 : Nat → eE := (e_T 12 (e_T 5 (e_T 1 (e_T 0 (e_L 0 (0, ei_load 0 2 1, 0, 0)) (e_L 1 (0, ei_push (0, 0) 2, 0, 0))) (e_T 2 (e_L 2 (0, ei_putf eft elay 2 3 1 5, 0, 0)) (e_L 5 (0, ei_load 0 2 6, 0, 0)))) (e_T 7 (e_T 6 (e_L 6 (0, ei_load 1 0 7, 0, 0)) (e_L 7 (0, ei_putf eft elay 2 4 0 10, 0, 0))) (e_T 10 (e_L 10 (0, ei_load 0 2 11, 0, 0)) (e_T 11 (e_L 11 (0, ei_load 2 0 12, 0, 0)) (e_L 12 (0, ei_putf eft elay 2 5 0 15, 0, 0)))))) (e_T 23 (e_T 16 (e_T 15 (e_L 15 (0, ei_load 0 2 16, 0, 0)) (e_L 16 (0, ei_load 0 2 17, 0, 0))) (e_T 17 (e_L 17 (0, ei_getf eft elay 2 0 20, 0, 0)) (e_T 20 (e_L 20 (0, ei_putf eft elay 2 6 0 23, 0, 0)) (e_L 23 (0, ei_load 0 2 24, 0, 0))))) (e_T 25 (e_T 24 (e_L 24 (0, ei_push (0, 2) 25, 0, 0)) (e_L 25 (0, ei_load 1 0 26, 0, 0))) (e_T 26 (e_L 26 (0, ei_load 2 0 27, 0, 0)) (e_T 27 (e_L 27 (2, e_nof, 27, 4)) (e_L 30 (1, e_nof, 0, 0)))))))
set_option maxRecDepth 20000 in
set_option maxHeartbeats 4000000 in
theorem te_34_0_ok : ∀ pc, e_EOq eft cls elay eI n_34 pc (te_34_0 pc) :=
  (e_Tok2
  (e_Tok2
  (e_Tok2
  (e_Tok2
  (e_Lok (ld_aload_n_0 (x_dk dn_34_0_0_ok 0 rfl)))
  (e_Lok (ps_iconst_0 (x_dk dn_34_0_0_ok 1 rfl))))
  (e_Tok2
  (e_Lok (lk_2_44p ho_34 (x_dk dn_34_0_0_ok 2 rfl)))
  (e_Lok (ld_aload_n_0 (x_dk dn_34_0_0_ok 3 rfl)))))
  (e_Tok2
  (e_Tok2
  (e_Lok (ld_iload_n_1 (x_dk dn_34_0_0_ok 4 rfl)))
  (e_Lok (lk_2_48p ho_34 (x_dk dn_34_0_0_ok 5 rfl))))
  (e_Tok2
  (e_Lok (ld_aload_n_0 (x_dk dn_34_0_0_ok 6 rfl)))
  (e_Tok2
  (e_Lok (ld_iload_n_2 (x_dk dn_34_0_0_ok 7 rfl)))
  (e_Lok (lk_2_51p ho_34 (x_dk dn_34_0_0_ok 8 rfl)))))))
  (e_Tok2
  (e_Tok2
  (e_Tok2
  (e_Lok (ld_aload_n_0 (x_dk dn_34_0_0_ok 9 rfl)))
  (e_Lok (ld_aload_n_0 (x_dk dn_34_0_0_ok 10 rfl))))
  (e_Tok2
  (e_Lok (lk_2_38g ho_34 (x_dk dn_34_0_0_ok 11 rfl)))
  (e_Tok2
  (e_Lok (lk_2_54p ho_34 (x_dk dn_34_0_0_ok 12 rfl)))
  (e_Lok (ld_aload_n_0 (x_dk dn_34_0_0_ok 13 rfl))))))
  (e_Tok2
  (e_Tok2
  (e_Lok (ps_iconst_2 (x_dk dn_34_0_0_ok 14 rfl)))
  (e_Lok (ld_iload_n_1 (x_dk dn_34_0_0_ok 15 rfl))))
  (e_Tok2
  (e_Lok (ld_iload_n_2 (x_dk dn_34_0_0_ok 16 rfl)))
  (e_Tok2
  (e_Lok (lk_2_64 ho_34 (x_dk dn_34_0_0_ok 17 rfl)))
  (e_Lok (e_rt (I := eI) (k := 0) ⟨(x_dk dn_34_0_0_ok 18 rfl), rfl⟩)))))))
def te_34 : Nat → eE := te_34_0
theorem te_34_ok : ∀ pc, e_EOq eft cls elay eI n_34 pc (te_34 pc) := te_34_0_ok
theorem ho_35 : (xm_y n_35).cls = "RobotCellHouse$Doer" := rfl
def dn_35_0_0 : List (Nat × Instr × Nat) := [(0, .iconst 0, 1), (1, .istore_n 1, 1), (2, .iload_n 1, 1), (3, .bipush 16, 2), (5, .if_icmp .ge 18, 3), (8, .aload_n 0, 1), (9, .getfield 40, 3), (12, .iload_n 1, 1), (13, .aaload, 1), (14, .invokevirtual 58, 3), (17, .iinc 1 1, 3), (20, .goto (-18), 3), (23, .aload_n 0, 1), (24, .getfield 44, 3), (27, .iconst (-1), 1), (28, .invokestatic 61, 3), (31, .aload_n 0, 1), (32, .iconst 0, 1), (33, .putfield 67, 3), (36, .return_, 1)]
set_option maxRecDepth 20000 in
theorem dn_35_0_0_ok : dn_35_0_0.all (fun q => decide (decode (xm_b n_35) q.1 = .ok (q.2.1, q.2.2))) = true := xa_g_ok (by decide +kernel)
def te_35_0 : Nat → eE := (e_T 14 (e_T 5 (e_T 1 (e_T 0 (e_L 0 (0, ei_push (0, 0) 1, 0, 0)) (e_L 1 (0, ei_stor 1 0 2, 0, 0))) (e_T 2 (e_L 2 (0, ei_load 1 0 3, 0, 0)) (e_T 3 (e_L 3 (0, ei_push (0, 16) 5, 0, 0)) (e_L 5 (0, ei_if2 3 23 8, 0, 0))))) (e_T 9 (e_T 8 (e_L 8 (0, ei_load 0 2 9, 0, 0)) (e_L 9 (0, ei_getf eft elay 3 4 12, 0, 0))) (e_T 12 (e_L 12 (0, ei_load 1 0 13, 0, 0)) (e_T 13 (e_L 13 (0, ei_aald elay 14, 0, 0)) (e_L 14 (2, e_nof, 179, 1)))))) (e_T 27 (e_T 20 (e_T 17 (e_L 17 (0, ei_inc 1 1 20, 0, 0)) (e_L 20 (0, ei_goto 2, 0, 0))) (e_T 23 (e_L 23 (0, ei_load 0 2 24, 0, 0)) (e_T 24 (e_L 24 (0, ei_getf eft elay 3 5 27, 0, 0)) (e_L 27 (0, ei_push (0, (-1)) 28, 0, 0))))) (e_T 31 (e_T 28 (e_L 28 (2, e_nof, 452, 2)) (e_L 31 (0, ei_load 0 2 32, 0, 0))) (e_T 32 (e_L 32 (0, ei_push (0, 0) 33, 0, 0)) (e_T 33 (e_L 33 (0, ei_putf eft elay 3 9 0 36, 0, 0)) (e_L 36 (1, e_nof, 0, 0)))))))
set_option maxRecDepth 20000 in
set_option maxHeartbeats 4000000 in
theorem te_35_0_ok : ∀ pc, e_EOq eft cls elay eI n_35 pc (te_35_0 pc) :=
  (e_Tok2
  (e_Tok2
  (e_Tok2
  (e_Tok2
  (e_Lok (ps_iconst_0 (x_dk dn_35_0_0_ok 0 rfl)))
  (e_Lok (e_st (I := eI) (er_istore_n (i := 1) (x_dk dn_35_0_0_ok 1 rfl) (by decide +kernel)) nx_stor)))
  (e_Tok2
  (e_Lok (ld_iload_n_1 (x_dk dn_35_0_0_ok 2 rfl)))
  (e_Tok2
  (e_Lok (ps_bipush_16 (x_dk dn_35_0_0_ok 3 rfl)))
  (e_Lok (e_st (I := eI) (er_icmpge (off := 18) (tg := 23) (x_dk dn_35_0_0_ok 4 rfl) (by decide)) nx_if2)))))
  (e_Tok2
  (e_Tok2
  (e_Lok (ld_aload_n_0 (x_dk dn_35_0_0_ok 5 rfl)))
  (e_Lok (lk_3_40g ho_35 (x_dk dn_35_0_0_ok 6 rfl))))
  (e_Tok2
  (e_Lok (ld_iload_n_1 (x_dk dn_35_0_0_ok 7 rfl)))
  (e_Tok2
  (e_Lok (e_st (I := eI) (er_aaload (x_dk dn_35_0_0_ok 8 rfl)) nx_aald))
  (e_Lok (lk_3_58 ho_35 (x_dk dn_35_0_0_ok 9 rfl)))))))
  (e_Tok2
  (e_Tok2
  (e_Tok2
  (e_Lok (e_st (I := eI) (er_iinc (i := 1) (n := 1) (x_dk dn_35_0_0_ok 10 rfl) (by decide +kernel) (by decide)) nx_inc))
  (e_Lok (e_st (I := eI) (er_goto (off := (-18)) (tg := 2) (x_dk dn_35_0_0_ok 11 rfl) (by decide)) nx_goto)))
  (e_Tok2
  (e_Lok (ld_aload_n_0 (x_dk dn_35_0_0_ok 12 rfl)))
  (e_Tok2
  (e_Lok (lk_3_44g ho_35 (x_dk dn_35_0_0_ok 13 rfl)))
  (e_Lok (ps_iconst_m1 (x_dk dn_35_0_0_ok 14 rfl))))))
  (e_Tok2
  (e_Tok2
  (e_Lok (lk_3_61 ho_35 (x_dk dn_35_0_0_ok 15 rfl)))
  (e_Lok (ld_aload_n_0 (x_dk dn_35_0_0_ok 16 rfl))))
  (e_Tok2
  (e_Lok (ps_iconst_0 (x_dk dn_35_0_0_ok 17 rfl)))
  (e_Tok2
  (e_Lok (lk_3_67p ho_35 (x_dk dn_35_0_0_ok 18 rfl)))
  (e_Lok (e_rt (I := eI) (k := 0) ⟨(x_dk dn_35_0_0_ok 19 rfl), rfl⟩)))))))
def te_35 : Nat → eE := te_35_0
theorem te_35_ok : ∀ pc, e_EOq eft cls elay eI n_35 pc (te_35 pc) := te_35_0_ok
theorem ho_36 : (xm_y n_36).cls = "RobotCellHouse$Doer" := rfl
def dn_36_0_0 : List (Nat × Instr × Nat) := [(0, .iconst 0, 1), (1, .istore_n 1, 1), (2, .iload_n 1, 1), (3, .bipush 16, 2), (5, .if_icmp .ge 37, 3), (8, .aload_n 0, 1), (9, .getfield 40, 3), (12, .iload_n 1, 1), (13, .aaload, 1), (14, .getfield 71, 3), (17, .ifCond .eq 17, 3), (20, .aload_n 0, 1), (21, .getfield 40, 3), (24, .iload_n 1, 1), (25, .aaload, 1), (26, .getfield 71, 3), (29, .bipush 6, 2), (31, .if_icmp .ne 5, 3), (34, .iload_n 1, 1), (35, .ireturn, 1), (36, .iinc 1 1, 3), (39, .goto (-37), 3), (42, .iconst (-1), 1), (43, .ireturn, 1)]
set_option maxRecDepth 20000 in
theorem dn_36_0_0_ok : dn_36_0_0.all (fun q => decide (decode (xm_b n_36) q.1 = .ok (q.2.1, q.2.2))) = true := xa_g_ok (by decide +kernel)
def te_36_0 : Nat → eE := (e_T 20 (e_T 8 (e_T 2 (e_T 0 (e_L 0 (0, ei_push (0, 0) 1, 0, 0)) (e_T 1 (e_L 1 (0, ei_stor 1 0 2, 0, 0)) (e_L 2 (0, ei_load 1 0 3, 0, 0)))) (e_T 3 (e_L 3 (0, ei_push (0, 16) 5, 0, 0)) (e_T 5 (e_L 5 (0, ei_if2 3 42 8, 0, 0)) (e_L 8 (0, ei_load 0 2 9, 0, 0))))) (e_T 13 (e_T 9 (e_L 9 (0, ei_getf eft elay 3 4 12, 0, 0)) (e_T 12 (e_L 12 (0, ei_load 1 0 13, 0, 0)) (e_L 13 (0, ei_aald elay 14, 0, 0)))) (e_T 14 (e_L 14 (0, ei_getf eft elay 10 1 17, 0, 0)) (e_T 17 (e_L 17 (0, ei_if1 0 34 20, 0, 0)) (e_L 20 (0, ei_load 0 2 21, 0, 0)))))) (e_T 31 (e_T 25 (e_T 21 (e_L 21 (0, ei_getf eft elay 3 4 24, 0, 0)) (e_T 24 (e_L 24 (0, ei_load 1 0 25, 0, 0)) (e_L 25 (0, ei_aald elay 26, 0, 0)))) (e_T 26 (e_L 26 (0, ei_getf eft elay 10 1 29, 0, 0)) (e_T 29 (e_L 29 (0, ei_push (0, 6) 31, 0, 0)) (e_L 31 (0, ei_if2 1 36 34, 0, 0))))) (e_T 36 (e_T 34 (e_L 34 (0, ei_load 1 0 35, 0, 0)) (e_T 35 (e_L 35 (1, e_nof, 1, 0)) (e_L 36 (0, ei_inc 1 1 39, 0, 0)))) (e_T 39 (e_L 39 (0, ei_goto 2, 0, 0)) (e_T 42 (e_L 42 (0, ei_push (0, (-1)) 43, 0, 0)) (e_L 43 (1, e_nof, 1, 0)))))))
set_option maxRecDepth 20000 in
set_option maxHeartbeats 4000000 in
theorem te_36_0_ok : ∀ pc, e_EOq eft cls elay eI n_36 pc (te_36_0 pc) :=
  (e_Tok2
  (e_Tok2
  (e_Tok2
  (e_Tok2
  (e_Lok (ps_iconst_0 (x_dk dn_36_0_0_ok 0 rfl)))
  (e_Tok2
  (e_Lok (e_st (I := eI) (er_istore_n (i := 1) (x_dk dn_36_0_0_ok 1 rfl) (by decide +kernel)) nx_stor))
  (e_Lok (ld_iload_n_1 (x_dk dn_36_0_0_ok 2 rfl)))))
  (e_Tok2
  (e_Lok (ps_bipush_16 (x_dk dn_36_0_0_ok 3 rfl)))
  (e_Tok2
  (e_Lok (e_st (I := eI) (er_icmpge (off := 37) (tg := 42) (x_dk dn_36_0_0_ok 4 rfl) (by decide)) nx_if2))
  (e_Lok (ld_aload_n_0 (x_dk dn_36_0_0_ok 5 rfl))))))
  (e_Tok2
  (e_Tok2
  (e_Lok (lk_3_40g ho_36 (x_dk dn_36_0_0_ok 6 rfl)))
  (e_Tok2
  (e_Lok (ld_iload_n_1 (x_dk dn_36_0_0_ok 7 rfl)))
  (e_Lok (e_st (I := eI) (er_aaload (x_dk dn_36_0_0_ok 8 rfl)) nx_aald))))
  (e_Tok2
  (e_Lok (lk_3_71g ho_36 (x_dk dn_36_0_0_ok 9 rfl)))
  (e_Tok2
  (e_Lok (e_st (I := eI) (er_ifeq (off := 17) (tg := 34) (x_dk dn_36_0_0_ok 10 rfl) (by decide)) nx_if1))
  (e_Lok (ld_aload_n_0 (x_dk dn_36_0_0_ok 11 rfl)))))))
  (e_Tok2
  (e_Tok2
  (e_Tok2
  (e_Lok (lk_3_40g ho_36 (x_dk dn_36_0_0_ok 12 rfl)))
  (e_Tok2
  (e_Lok (ld_iload_n_1 (x_dk dn_36_0_0_ok 13 rfl)))
  (e_Lok (e_st (I := eI) (er_aaload (x_dk dn_36_0_0_ok 14 rfl)) nx_aald))))
  (e_Tok2
  (e_Lok (lk_3_71g ho_36 (x_dk dn_36_0_0_ok 15 rfl)))
  (e_Tok2
  (e_Lok (ps_bipush_6 (x_dk dn_36_0_0_ok 16 rfl)))
  (e_Lok (e_st (I := eI) (er_icmpne (off := 5) (tg := 36) (x_dk dn_36_0_0_ok 17 rfl) (by decide)) nx_if2)))))
  (e_Tok2
  (e_Tok2
  (e_Lok (ld_iload_n_1 (x_dk dn_36_0_0_ok 18 rfl)))
  (e_Tok2
  (e_Lok (e_rt (I := eI) (k := 1) ⟨(x_dk dn_36_0_0_ok 19 rfl), rfl⟩))
  (e_Lok (e_st (I := eI) (er_iinc (i := 1) (n := 1) (x_dk dn_36_0_0_ok 20 rfl) (by decide +kernel) (by decide)) nx_inc))))
  (e_Tok2
  (e_Lok (e_st (I := eI) (er_goto (off := (-37)) (tg := 2) (x_dk dn_36_0_0_ok 21 rfl) (by decide)) nx_goto))
  (e_Tok2
  (e_Lok (ps_iconst_m1 (x_dk dn_36_0_0_ok 22 rfl)))
  (e_Lok (e_rt (I := eI) (k := 1) ⟨(x_dk dn_36_0_0_ok 23 rfl), rfl⟩)))))))
def te_36 : Nat → eE := te_36_0
theorem te_36_ok : ∀ pc, e_EOq eft cls elay eI n_36 pc (te_36 pc) := te_36_0_ok
theorem ho_37 : (xm_y n_37).cls = "RobotCellHouse$Doer" := rfl
def dn_37_0_0 : List (Nat × Instr × Nat) := [(0, .aload_n 0, 1), (1, .invokevirtual 74, 3), (4, .istore_n 3, 1), (5, .iload_n 3, 1), (6, .ifCond .lt 34, 3), (9, .aload_n 0, 1), (10, .getfield 40, 3), (13, .iload_n 3, 1), (14, .aaload, 1), (15, .iload_n 1, 1), (16, .aload_n 0, 1), (17, .getfield 11, 3), (20, .iload_n 1, 1), (21, .aaload, 1), (22, .getfield 78, 3), (25, .getfield 82, 3), (28, .iload_n 2, 1), (29, .iaload, 1), (30, .aload_n 0, 1), (31, .getfield 34, 3), (34, .getfield 87, 3), (37, .invokevirtual 90, 3), (40, .iload_n 3, 1), (41, .ireturn, 1)]
set_option maxRecDepth 20000 in
theorem dn_37_0_0_ok : dn_37_0_0.all (fun q => decide (decode (xm_b n_37) q.1 = .ok (q.2.1, q.2.2))) = true := xa_g_ok (by decide +kernel)
def te_37_0 : Nat → eE := (e_T 17 (e_T 9 (e_T 4 (e_T 0 (e_L 0 (0, ei_load 0 2 1, 0, 0)) (e_T 1 (e_L 1 (2, e_nof, 36, 1)) (e_L 4 (0, ei_stor 3 0 5, 0, 0)))) (e_T 5 (e_L 5 (0, ei_load 3 0 6, 0, 0)) (e_T 6 (e_L 6 (0, ei_if1 2 40 9, 0, 0)) (e_L 9 (0, ei_load 0 2 10, 0, 0))))) (e_T 14 (e_T 10 (e_L 10 (0, ei_getf eft elay 3 4 13, 0, 0)) (e_T 13 (e_L 13 (0, ei_load 3 0 14, 0, 0)) (e_L 14 (0, ei_aald elay 15, 0, 0)))) (e_T 15 (e_L 15 (0, ei_load 1 0 16, 0, 0)) (e_T 16 (e_L 16 (0, ei_load 0 2 17, 0, 0)) (e_L 17 (0, ei_getf eft elay 3 0 20, 0, 0)))))) (e_T 29 (e_T 22 (e_T 20 (e_L 20 (0, ei_load 1 0 21, 0, 0)) (e_T 21 (e_L 21 (0, ei_aald elay 22, 0, 0)) (e_L 22 (0, ei_getf eft elay 0 7 25, 0, 0)))) (e_T 25 (e_L 25 (0, ei_getf eft elay 1 3 28, 0, 0)) (e_T 28 (e_L 28 (0, ei_load 2 0 29, 0, 0)) (e_L 29 (0, ei_ald elay false 30, 0, 0))))) (e_T 34 (e_T 30 (e_L 30 (0, ei_load 0 2 31, 0, 0)) (e_T 31 (e_L 31 (0, ei_getf eft elay 3 3 34, 0, 0)) (e_L 34 (0, ei_getf eft elay 2 0 37, 0, 0)))) (e_T 37 (e_L 37 (2, e_nof, 180, 4)) (e_T 40 (e_L 40 (0, ei_load 3 0 41, 0, 0)) (e_L 41 (1, e_nof, 1, 0)))))))
set_option maxRecDepth 20000 in
set_option maxHeartbeats 4000000 in
theorem te_37_0_ok : ∀ pc, e_EOq eft cls elay eI n_37 pc (te_37_0 pc) :=
  (e_Tok2
  (e_Tok2
  (e_Tok2
  (e_Tok2
  (e_Lok (ld_aload_n_0 (x_dk dn_37_0_0_ok 0 rfl)))
  (e_Tok2
  (e_Lok (lk_3_74 ho_37 (x_dk dn_37_0_0_ok 1 rfl)))
  (e_Lok (e_st (I := eI) (er_istore_n (i := 3) (x_dk dn_37_0_0_ok 2 rfl) (by decide +kernel)) nx_stor))))
  (e_Tok2
  (e_Lok (ld_iload_n_3 (x_dk dn_37_0_0_ok 3 rfl)))
  (e_Tok2
  (e_Lok (e_st (I := eI) (er_iflt (off := 34) (tg := 40) (x_dk dn_37_0_0_ok 4 rfl) (by decide)) nx_if1))
  (e_Lok (ld_aload_n_0 (x_dk dn_37_0_0_ok 5 rfl))))))
  (e_Tok2
  (e_Tok2
  (e_Lok (lk_3_40g ho_37 (x_dk dn_37_0_0_ok 6 rfl)))
  (e_Tok2
  (e_Lok (ld_iload_n_3 (x_dk dn_37_0_0_ok 7 rfl)))
  (e_Lok (e_st (I := eI) (er_aaload (x_dk dn_37_0_0_ok 8 rfl)) nx_aald))))
  (e_Tok2
  (e_Lok (ld_iload_n_1 (x_dk dn_37_0_0_ok 9 rfl)))
  (e_Tok2
  (e_Lok (ld_aload_n_0 (x_dk dn_37_0_0_ok 10 rfl)))
  (e_Lok (lk_3_11g ho_37 (x_dk dn_37_0_0_ok 11 rfl)))))))
  (e_Tok2
  (e_Tok2
  (e_Tok2
  (e_Lok (ld_iload_n_1 (x_dk dn_37_0_0_ok 12 rfl)))
  (e_Tok2
  (e_Lok (e_st (I := eI) (er_aaload (x_dk dn_37_0_0_ok 13 rfl)) nx_aald))
  (e_Lok (lk_3_78g ho_37 (x_dk dn_37_0_0_ok 14 rfl)))))
  (e_Tok2
  (e_Lok (lk_3_82g ho_37 (x_dk dn_37_0_0_ok 15 rfl)))
  (e_Tok2
  (e_Lok (ld_iload_n_2 (x_dk dn_37_0_0_ok 16 rfl)))
  (e_Lok (sm_iaload (x_dk dn_37_0_0_ok 17 rfl))))))
  (e_Tok2
  (e_Tok2
  (e_Lok (ld_aload_n_0 (x_dk dn_37_0_0_ok 18 rfl)))
  (e_Tok2
  (e_Lok (lk_3_34g ho_37 (x_dk dn_37_0_0_ok 19 rfl)))
  (e_Lok (lk_3_87g ho_37 (x_dk dn_37_0_0_ok 20 rfl)))))
  (e_Tok2
  (e_Lok (lk_3_90 ho_37 (x_dk dn_37_0_0_ok 21 rfl)))
  (e_Tok2
  (e_Lok (ld_iload_n_3 (x_dk dn_37_0_0_ok 22 rfl)))
  (e_Lok (e_rt (I := eI) (k := 1) ⟨(x_dk dn_37_0_0_ok 23 rfl), rfl⟩)))))))
def te_37 : Nat → eE := te_37_0
theorem te_37_ok : ∀ pc, e_EOq eft cls elay eI n_37 pc (te_37 pc) := te_37_0_ok
theorem ho_38 : (xm_y n_38).cls = "RobotCellHouse$Doer" := rfl
def dn_38_0_0 : List (Nat × Instr × Nat) := [(0, .aload_n 0, 1), (1, .getfield 11, 3), (4, .iload_n 1, 1), (5, .aaload, 1), (6, .getfield 94, 3), (9, .istore_n 2, 1), (10, .iload_n 2, 1), (11, .ifCond .ge 6, 3), (14, .bipush (-2), 2), (16, .ireturn, 1), (17, .aload_n 0, 1), (18, .getfield 40, 3), (21, .iload_n 2, 1), (22, .aaload, 1), (23, .bipush 6, 2), (25, .putfield 71, 3), (28, .aload_n 0, 1), (29, .getfield 11, 3), (32, .iload_n 1, 1), (33, .aaload, 1), (34, .iconst (-1), 1), (35, .putfield 94, 3), (38, .iload_n 2, 1), (39, .ireturn, 1)]
set_option maxRecDepth 20000 in
theorem dn_38_0_0_ok : dn_38_0_0.all (fun q => decide (decode (xm_b n_38) q.1 = .ok (q.2.1, q.2.2))) = true := xa_g_ok (by decide +kernel)
def te_38_0 : Nat → eE := (e_T 18 (e_T 9 (e_T 4 (e_T 0 (e_L 0 (0, ei_load 0 2 1, 0, 0)) (e_T 1 (e_L 1 (0, ei_getf eft elay 3 0 4, 0, 0)) (e_L 4 (0, ei_load 1 0 5, 0, 0)))) (e_T 5 (e_L 5 (0, ei_aald elay 6, 0, 0)) (e_T 6 (e_L 6 (0, ei_getf eft elay 0 16 9, 0, 0)) (e_L 9 (0, ei_stor 2 0 10, 0, 0))))) (e_T 14 (e_T 10 (e_L 10 (0, ei_load 2 0 11, 0, 0)) (e_T 11 (e_L 11 (0, ei_if1 3 17 14, 0, 0)) (e_L 14 (0, ei_push (0, (-2)) 16, 0, 0)))) (e_T 16 (e_L 16 (1, e_nof, 1, 0)) (e_T 17 (e_L 17 (0, ei_load 0 2 18, 0, 0)) (e_L 18 (0, ei_getf eft elay 3 4 21, 0, 0)))))) (e_T 29 (e_T 23 (e_T 21 (e_L 21 (0, ei_load 2 0 22, 0, 0)) (e_T 22 (e_L 22 (0, ei_aald elay 23, 0, 0)) (e_L 23 (0, ei_push (0, 6) 25, 0, 0)))) (e_T 25 (e_L 25 (0, ei_putf eft elay 10 1 0 28, 0, 0)) (e_T 28 (e_L 28 (0, ei_load 0 2 29, 0, 0)) (e_L 29 (0, ei_getf eft elay 3 0 32, 0, 0))))) (e_T 34 (e_T 32 (e_L 32 (0, ei_load 1 0 33, 0, 0)) (e_T 33 (e_L 33 (0, ei_aald elay 34, 0, 0)) (e_L 34 (0, ei_push (0, (-1)) 35, 0, 0)))) (e_T 35 (e_L 35 (0, ei_putf eft elay 0 16 0 38, 0, 0)) (e_T 38 (e_L 38 (0, ei_load 2 0 39, 0, 0)) (e_L 39 (1, e_nof, 1, 0)))))))
set_option maxRecDepth 20000 in
set_option maxHeartbeats 4000000 in
theorem te_38_0_ok : ∀ pc, e_EOq eft cls elay eI n_38 pc (te_38_0 pc) :=
  (e_Tok2
  (e_Tok2
  (e_Tok2
  (e_Tok2
  (e_Lok (ld_aload_n_0 (x_dk dn_38_0_0_ok 0 rfl)))
  (e_Tok2
  (e_Lok (lk_3_11g ho_38 (x_dk dn_38_0_0_ok 1 rfl)))
  (e_Lok (ld_iload_n_1 (x_dk dn_38_0_0_ok 2 rfl)))))
  (e_Tok2
  (e_Lok (e_st (I := eI) (er_aaload (x_dk dn_38_0_0_ok 3 rfl)) nx_aald))
  (e_Tok2
  (e_Lok (lk_3_94g ho_38 (x_dk dn_38_0_0_ok 4 rfl)))
  (e_Lok (e_st (I := eI) (er_istore_n (i := 2) (x_dk dn_38_0_0_ok 5 rfl) (by decide +kernel)) nx_stor)))))
  (e_Tok2
  (e_Tok2
  (e_Lok (ld_iload_n_2 (x_dk dn_38_0_0_ok 6 rfl)))
  (e_Tok2
  (e_Lok (e_st (I := eI) (er_ifge (off := 6) (tg := 17) (x_dk dn_38_0_0_ok 7 rfl) (by decide)) nx_if1))
  (e_Lok (ps_bipush_m2 (x_dk dn_38_0_0_ok 8 rfl)))))
  (e_Tok2
  (e_Lok (e_rt (I := eI) (k := 1) ⟨(x_dk dn_38_0_0_ok 9 rfl), rfl⟩))
  (e_Tok2
  (e_Lok (ld_aload_n_0 (x_dk dn_38_0_0_ok 10 rfl)))
  (e_Lok (lk_3_40g ho_38 (x_dk dn_38_0_0_ok 11 rfl)))))))
  (e_Tok2
  (e_Tok2
  (e_Tok2
  (e_Lok (ld_iload_n_2 (x_dk dn_38_0_0_ok 12 rfl)))
  (e_Tok2
  (e_Lok (e_st (I := eI) (er_aaload (x_dk dn_38_0_0_ok 13 rfl)) nx_aald))
  (e_Lok (ps_bipush_6 (x_dk dn_38_0_0_ok 14 rfl)))))
  (e_Tok2
  (e_Lok (lk_3_71p ho_38 (x_dk dn_38_0_0_ok 15 rfl)))
  (e_Tok2
  (e_Lok (ld_aload_n_0 (x_dk dn_38_0_0_ok 16 rfl)))
  (e_Lok (lk_3_11g ho_38 (x_dk dn_38_0_0_ok 17 rfl))))))
  (e_Tok2
  (e_Tok2
  (e_Lok (ld_iload_n_1 (x_dk dn_38_0_0_ok 18 rfl)))
  (e_Tok2
  (e_Lok (e_st (I := eI) (er_aaload (x_dk dn_38_0_0_ok 19 rfl)) nx_aald))
  (e_Lok (ps_iconst_m1 (x_dk dn_38_0_0_ok 20 rfl)))))
  (e_Tok2
  (e_Lok (lk_3_94p ho_38 (x_dk dn_38_0_0_ok 21 rfl)))
  (e_Tok2
  (e_Lok (ld_iload_n_2 (x_dk dn_38_0_0_ok 22 rfl)))
  (e_Lok (e_rt (I := eI) (k := 1) ⟨(x_dk dn_38_0_0_ok 23 rfl), rfl⟩)))))))
def te_38 : Nat → eE := te_38_0
theorem te_38_ok : ∀ pc, e_EOq eft cls elay eI n_38 pc (te_38 pc) := te_38_0_ok
theorem ho_39 : (xm_y n_39).cls = "RobotCellHouse$Doer" := rfl
def dn_39_0_0 : List (Nat × Instr × Nat) := [(0, .iconst 0, 1), (1, .istore_n 2, 1), (2, .iload_n 2, 1), (3, .iconst 4, 1), (4, .if_icmp .ge 33, 3), (7, .aload_n 0, 1), (8, .getfield 11, 3), (11, .iload_n 2, 1), (12, .aaload, 1), (13, .dup, 1), (14, .getfield 97, 3), (17, .iload_n 2, 1), (18, .iload_n 1, 1), (19, .if_icmp .ne 7, 3), (22, .iconst 1, 1), (23, .goto 4, 3), (26, .iconst 2, 1), (27, .ior, 1), (28, .putfield 97, 3), (31, .iinc 2 1, 3), (34, .goto (-32), 3), (37, .aload_n 0, 1), (38, .getfield 34, 3), (41, .iconst 0, 1), (42, .putfield 100, 3)]
set_option maxRecDepth 20000 in
theorem dn_39_0_0_ok : dn_39_0_0.all (fun q => decide (decode (xm_b n_39) q.1 = .ok (q.2.1, q.2.2))) = true := xa_g_ok (by decide +kernel)
def dn_39_0_1 : List (Nat × Instr × Nat) := [(45, .return_, 1)]
set_option maxRecDepth 20000 in
theorem dn_39_0_1_ok : dn_39_0_1.all (fun q => decide (decode (xm_b n_39) q.1 = .ok (q.2.1, q.2.2))) = true := xa_g_ok (by decide +kernel)
def te_39_0 : Nat → eE := (e_T 18 (e_T 7 (e_T 2 (e_T 0 (e_L 0 (0, ei_push (0, 0) 1, 0, 0)) (e_T 1 (e_L 1 (0, ei_stor 2 0 2, 0, 0)) (e_L 2 (0, ei_load 2 0 3, 0, 0)))) (e_T 3 (e_L 3 (0, ei_push (0, 4) 4, 0, 0)) (e_T 4 (e_L 4 (0, ei_if2 3 37 7, 0, 0)) (e_L 7 (0, ei_load 0 2 8, 0, 0))))) (e_T 12 (e_T 8 (e_L 8 (0, ei_getf eft elay 3 0 11, 0, 0)) (e_T 11 (e_L 11 (0, ei_load 2 0 12, 0, 0)) (e_L 12 (0, ei_aald elay 13, 0, 0)))) (e_T 14 (e_T 13 (e_L 13 (0, ei_stk ef_dup 14, 0, 0)) (e_L 14 (0, ei_getf eft elay 0 19 17, 0, 0))) (e_T 17 (e_L 17 (0, ei_load 2 0 18, 0, 0)) (e_L 18 (0, ei_load 1 0 19, 0, 0)))))) (e_T 28 (e_T 23 (e_T 19 (e_L 19 (0, ei_if2 1 26 22, 0, 0)) (e_T 22 (e_L 22 (0, ei_push (0, 1) 23, 0, 0)) (e_L 23 (0, ei_goto 27, 0, 0)))) (e_T 26 (e_L 26 (0, ei_push (0, 2) 27, 0, 0)) (e_T 27 (e_L 27 (0, ei_bin (eB (fun x y => x ||| y)) 28, 0, 0)) (e_L 28 (0, ei_putf eft elay 0 19 0 31, 0, 0))))) (e_T 37 (e_T 31 (e_L 31 (0, ei_inc 2 1 34, 0, 0)) (e_T 34 (e_L 34 (0, ei_goto 2, 0, 0)) (e_L 37 (0, ei_load 0 2 38, 0, 0)))) (e_T 41 (e_T 38 (e_L 38 (0, ei_getf eft elay 3 3 41, 0, 0)) (e_L 41 (0, ei_push (0, 0) 42, 0, 0))) (e_T 42 (e_L 42 (0, ei_putf eft elay 2 7 1 45, 0, 0)) (e_L 45 (1, e_nof, 0, 0)))))))
set_option maxRecDepth 20000 in
set_option maxHeartbeats 4000000 in
theorem te_39_0_ok : ∀ pc, e_EOq eft cls elay eI n_39 pc (te_39_0 pc) :=
  (e_Tok2
  (e_Tok2
  (e_Tok2
  (e_Tok2
  (e_Lok (ps_iconst_0 (x_dk dn_39_0_0_ok 0 rfl)))
  (e_Tok2
  (e_Lok (e_st (I := eI) (er_istore_n (i := 2) (x_dk dn_39_0_0_ok 1 rfl) (by decide +kernel)) nx_stor))
  (e_Lok (ld_iload_n_2 (x_dk dn_39_0_0_ok 2 rfl)))))
  (e_Tok2
  (e_Lok (ps_iconst_4 (x_dk dn_39_0_0_ok 3 rfl)))
  (e_Tok2
  (e_Lok (e_st (I := eI) (er_icmpge (off := 33) (tg := 37) (x_dk dn_39_0_0_ok 4 rfl) (by decide)) nx_if2))
  (e_Lok (ld_aload_n_0 (x_dk dn_39_0_0_ok 5 rfl))))))
  (e_Tok2
  (e_Tok2
  (e_Lok (lk_3_11g ho_39 (x_dk dn_39_0_0_ok 6 rfl)))
  (e_Tok2
  (e_Lok (ld_iload_n_2 (x_dk dn_39_0_0_ok 7 rfl)))
  (e_Lok (e_st (I := eI) (er_aaload (x_dk dn_39_0_0_ok 8 rfl)) nx_aald))))
  (e_Tok2
  (e_Tok2
  (e_Lok (e_st (I := eI) (er_dup (x_dk dn_39_0_0_ok 9 rfl)) (nx_stk bf_dup)))
  (e_Lok (lk_3_97g ho_39 (x_dk dn_39_0_0_ok 10 rfl))))
  (e_Tok2
  (e_Lok (ld_iload_n_2 (x_dk dn_39_0_0_ok 11 rfl)))
  (e_Lok (ld_iload_n_1 (x_dk dn_39_0_0_ok 12 rfl)))))))
  (e_Tok2
  (e_Tok2
  (e_Tok2
  (e_Lok (e_st (I := eI) (er_icmpne (off := 7) (tg := 26) (x_dk dn_39_0_0_ok 13 rfl) (by decide)) nx_if2))
  (e_Tok2
  (e_Lok (ps_iconst_1 (x_dk dn_39_0_0_ok 14 rfl)))
  (e_Lok (e_st (I := eI) (er_goto (off := 4) (tg := 27) (x_dk dn_39_0_0_ok 15 rfl) (by decide)) nx_goto))))
  (e_Tok2
  (e_Lok (ps_iconst_2 (x_dk dn_39_0_0_ok 16 rfl)))
  (e_Tok2
  (e_Lok (e_st (I := eI) (er_ior (x_dk dn_39_0_0_ok 17 rfl)) nx_bin))
  (e_Lok (lk_3_97p ho_39 (x_dk dn_39_0_0_ok 18 rfl))))))
  (e_Tok2
  (e_Tok2
  (e_Lok (e_st (I := eI) (er_iinc (i := 2) (n := 1) (x_dk dn_39_0_0_ok 19 rfl) (by decide +kernel) (by decide)) nx_inc))
  (e_Tok2
  (e_Lok (e_st (I := eI) (er_goto (off := (-32)) (tg := 2) (x_dk dn_39_0_0_ok 20 rfl) (by decide)) nx_goto))
  (e_Lok (ld_aload_n_0 (x_dk dn_39_0_0_ok 21 rfl)))))
  (e_Tok2
  (e_Tok2
  (e_Lok (lk_3_34g ho_39 (x_dk dn_39_0_0_ok 22 rfl)))
  (e_Lok (ps_iconst_0 (x_dk dn_39_0_0_ok 23 rfl))))
  (e_Tok2
  (e_Lok (lk_3_100p ho_39 (x_dk dn_39_0_0_ok 24 rfl)))
  (e_Lok (e_rt (I := eI) (k := 0) ⟨(x_dk dn_39_0_1_ok 0 rfl), rfl⟩)))))))
def te_39 : Nat → eE := te_39_0
theorem te_39_ok : ∀ pc, e_EOq eft cls elay eI n_39 pc (te_39 pc) := te_39_0_ok
end
