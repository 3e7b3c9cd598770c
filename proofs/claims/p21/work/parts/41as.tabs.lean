noncomputable section
theorem ho_268 : (xm_y n_268).cls = "RobotCellHouseModel" := rfl
def dn_268_0_0 : List (Nat × Instr × Nat) := [(0, .bipush 16, 2), (2, .bipush 36, 2), (4, .iload_n 0, 1), (5, .imul, 1), (6, .iadd, 1), (7, .ireturn, 1)]
set_option maxRecDepth 20000 in
theorem dn_268_0_0_ok : dn_268_0_0.all (fun q => decide (decode (xm_b n_268) q.1 = .ok (q.2.1, q.2.2))) = true := xa_g_ok (by decide +kernel)
def te_268_0 : Nat → eE := (e_T 4 (e_T 0 (e_L 0 (0, ei_push (0, 16) 2, 0, 0)) (e_T 2 (e_L 2 (0, ei_push (0, 36) 4, 0, 0)) (e_L 4 (0, ei_load 0 0 5, 0, 0)))) (e_T 5 (e_L 5 (0, ei_bin eF_mul 6, 0, 0)) (e_T 6 (e_L 6 (0, ei_bin eF_add 7, 0, 0)) (e_L 7 (1, e_nof, 1, 0)))))
set_option maxRecDepth 20000 in
set_option maxHeartbeats 4000000 in
theorem te_268_0_ok : ∀ pc, e_EOq eft cls elay eI n_268 pc (te_268_0 pc) :=
  (e_Tok2
  (e_Tok2
  (e_Lok (ps_bipush_16 (x_dk dn_268_0_0_ok 0 rfl)))
  (e_Tok2
  (e_Lok (ps_bipush_36 (x_dk dn_268_0_0_ok 1 rfl)))
  (e_Lok (ld_iload_n_0 (x_dk dn_268_0_0_ok 2 rfl)))))
  (e_Tok2
  (e_Lok (sm_imul (x_dk dn_268_0_0_ok 3 rfl)))
  (e_Tok2
  (e_Lok (sm_iadd (x_dk dn_268_0_0_ok 4 rfl)))
  (e_Lok (e_rt (I := eI) (k := 1) ⟨(x_dk dn_268_0_0_ok 5 rfl), rfl⟩)))))
def te_268 : Nat → eE := te_268_0
theorem te_268_ok : ∀ pc, e_EOq eft cls elay eI n_268 pc (te_268 pc) := te_268_0_ok
theorem ho_269 : (xm_y n_269).cls = "RobotCellHouseModel" := rfl
def dn_269_0_0 : List (Nat × Instr × Nat) := [(0, .sipush 416, 3), (3, .sipush 1260, 3), (6, .iload_n 0, 1), (7, .imul, 1), (8, .iadd, 1), (9, .ireturn, 1)]
set_option maxRecDepth 20000 in
theorem dn_269_0_0_ok : dn_269_0_0.all (fun q => decide (decode (xm_b n_269) q.1 = .ok (q.2.1, q.2.2))) = true := xa_g_ok (by decide +kernel)
def te_269_0 : Nat → eE := (e_T 6 (e_T 0 (e_L 0 (0, ei_push (0, 416) 3, 0, 0)) (e_T 3 (e_L 3 (0, ei_push (0, 1260) 6, 0, 0)) (e_L 6 (0, ei_load 0 0 7, 0, 0)))) (e_T 7 (e_L 7 (0, ei_bin eF_mul 8, 0, 0)) (e_T 8 (e_L 8 (0, ei_bin eF_add 9, 0, 0)) (e_L 9 (1, e_nof, 1, 0)))))
set_option maxRecDepth 20000 in
set_option maxHeartbeats 4000000 in
theorem te_269_0_ok : ∀ pc, e_EOq eft cls elay eI n_269 pc (te_269_0 pc) :=
  (e_Tok2
  (e_Tok2
  (e_Lok (ps_sipush_416 (x_dk dn_269_0_0_ok 0 rfl)))
  (e_Tok2
  (e_Lok (ps_sipush_1260 (x_dk dn_269_0_0_ok 1 rfl)))
  (e_Lok (ld_iload_n_0 (x_dk dn_269_0_0_ok 2 rfl)))))
  (e_Tok2
  (e_Lok (sm_imul (x_dk dn_269_0_0_ok 3 rfl)))
  (e_Tok2
  (e_Lok (sm_iadd (x_dk dn_269_0_0_ok 4 rfl)))
  (e_Lok (e_rt (I := eI) (k := 1) ⟨(x_dk dn_269_0_0_ok 5 rfl), rfl⟩)))))
def te_269 : Nat → eE := te_269_0
theorem te_269_ok : ∀ pc, e_EOq eft cls elay eI n_269 pc (te_269 pc) := te_269_0_ok
theorem ho_270 : (xm_y n_270).cls = "RobotCellHouseModel" := rfl
def dn_270_0_0 : List (Nat × Instr × Nat) := [(0, .iload_n 1, 1), (1, .i2l, 1), (2, .lconst 0, 1), (3, .aload_n 0, 1), (4, .getfield 269, 3), (7, .iconst 1, 1), (8, .isub, 1), (9, .i2l, 1), (10, .invokestatic 301, 3), (13, .ireturn, 1)]
set_option maxRecDepth 20000 in
theorem dn_270_0_0_ok : dn_270_0_0.all (fun q => decide (decode (xm_b n_270) q.1 = .ok (q.2.1, q.2.2))) = true := xa_g_ok (by decide +kernel)
def te_270_0 : Nat → eE := (e_T 4 (e_T 1 (e_T 0 (e_L 0 (0, ei_load 1 0 1, 0, 0)) (e_L 1 (0, ei_un (fun x => (4, x)) 2, 0, 0))) (e_T 2 (e_L 2 (0, ei_push (4, 0) 3, 0, 0)) (e_T 3 (e_L 3 (0, ei_load 0 2 4, 0, 0)) (e_L 4 (0, ei_getf eft elay 12 10 7, 0, 0))))) (e_T 8 (e_T 7 (e_L 7 (0, ei_push (0, 1) 8, 0, 0)) (e_L 8 (0, ei_bin eF_sub 9, 0, 0))) (e_T 9 (e_L 9 (0, ei_un (fun x => (4, x)) 10, 0, 0)) (e_T 10 (e_L 10 (2, e_nof, 266, 3)) (e_L 13 (1, e_nof, 4, 0))))))
set_option maxRecDepth 20000 in
set_option maxHeartbeats 4000000 in
theorem te_270_0_ok : ∀ pc, e_EOq eft cls elay eI n_270 pc (te_270_0 pc) :=
  (e_Tok2
  (e_Tok2
  (e_Tok2
  (e_Lok (ld_iload_n_1 (x_dk dn_270_0_0_ok 0 rfl)))
  (e_Lok (e_st (I := eI) (er_i2l (x_dk dn_270_0_0_ok 1 rfl)) (nx_un (fun _ => rfl)))))
  (e_Tok2
  (e_Lok (ps_lconst_0 (x_dk dn_270_0_0_ok 2 rfl)))
  (e_Tok2
  (e_Lok (ld_aload_n_0 (x_dk dn_270_0_0_ok 3 rfl)))
  (e_Lok (lk_12_269g ho_270 (x_dk dn_270_0_0_ok 4 rfl))))))
  (e_Tok2
  (e_Tok2
  (e_Lok (ps_iconst_1 (x_dk dn_270_0_0_ok 5 rfl)))
  (e_Lok (sm_isub (x_dk dn_270_0_0_ok 6 rfl))))
  (e_Tok2
  (e_Lok (e_st (I := eI) (er_i2l (x_dk dn_270_0_0_ok 7 rfl)) (nx_un (fun _ => rfl))))
  (e_Tok2
  (e_Lok (lk_12_301 ho_270 (x_dk dn_270_0_0_ok 8 rfl)))
  (e_Lok (e_rt (I := eI) (k := 4) ⟨(x_dk dn_270_0_0_ok 9 rfl), rfl⟩))))))
def te_270 : Nat → eE := te_270_0
theorem te_270_ok : ∀ pc, e_EOq eft cls elay eI n_270 pc (te_270 pc) := te_270_0_ok
theorem ho_271 : (xm_y n_271).cls = "RobotCellHouseModel" := rfl
def dn_271_0_0 : List (Nat × Instr × Nat) := [(0, .aload_n 0, 1), (1, .iload_n 1, 1), (2, .invokevirtual 305, 3), (5, .ifCond .eq 25, 3), (8, .iload_n 2, 1), (9, .i2l, 1), (10, .lconst 0, 1), (11, .aload_n 0, 1), (12, .getfield 43, 3), (15, .iload_n 1, 1), (16, .iaload, 1), (17, .iconst 1, 1), (18, .isub, 1), (19, .i2l, 1), (20, .invokestatic 301, 3), (23, .ifCond .eq 7, 3), (26, .iconst 1, 1), (27, .goto 4, 3), (30, .iconst 0, 1), (31, .ireturn, 1)]
set_option maxRecDepth 20000 in
theorem dn_271_0_0_ok : dn_271_0_0.all (fun q => decide (decode (xm_b n_271) q.1 = .ok (q.2.1, q.2.2))) = true := xa_g_ok (by decide +kernel)
def te_271_0 : Nat → eE := (e_T 15 (e_T 8 (e_T 1 (e_T 0 (e_L 0 (0, ei_load 0 2 1, 0, 0)) (e_L 1 (0, ei_load 1 0 2, 0, 0))) (e_T 2 (e_L 2 (2, e_nof, 270, 2)) (e_T 5 (e_L 5 (0, ei_if1 0 30 8, 0, 0)) (e_L 8 (0, ei_load 2 0 9, 0, 0))))) (e_T 10 (e_T 9 (e_L 9 (0, ei_un (fun x => (4, x)) 10, 0, 0)) (e_L 10 (0, ei_push (4, 0) 11, 0, 0))) (e_T 11 (e_L 11 (0, ei_load 0 2 12, 0, 0)) (e_T 12 (e_L 12 (0, ei_getf eft elay 12 15 15, 0, 0)) (e_L 15 (0, ei_load 1 0 16, 0, 0)))))) (e_T 20 (e_T 17 (e_T 16 (e_L 16 (0, ei_ald elay false 17, 0, 0)) (e_L 17 (0, ei_push (0, 1) 18, 0, 0))) (e_T 18 (e_L 18 (0, ei_bin eF_sub 19, 0, 0)) (e_T 19 (e_L 19 (0, ei_un (fun x => (4, x)) 20, 0, 0)) (e_L 20 (2, e_nof, 266, 3))))) (e_T 26 (e_T 23 (e_L 23 (0, ei_if1 0 30 26, 0, 0)) (e_L 26 (0, ei_push (0, 1) 27, 0, 0))) (e_T 27 (e_L 27 (0, ei_goto 31, 0, 0)) (e_T 30 (e_L 30 (0, ei_push (0, 0) 31, 0, 0)) (e_L 31 (1, e_nof, 4, 0)))))))
set_option maxRecDepth 20000 in
set_option maxHeartbeats 4000000 in
theorem te_271_0_ok : ∀ pc, e_EOq eft cls elay eI n_271 pc (te_271_0 pc) :=
  (e_Tok2
  (e_Tok2
  (e_Tok2
  (e_Tok2
  (e_Lok (ld_aload_n_0 (x_dk dn_271_0_0_ok 0 rfl)))
  (e_Lok (ld_iload_n_1 (x_dk dn_271_0_0_ok 1 rfl))))
  (e_Tok2
  (e_Lok (lk_12_305 ho_271 (x_dk dn_271_0_0_ok 2 rfl)))
  (e_Tok2
  (e_Lok (e_st (I := eI) (er_ifeq (off := 25) (tg := 30) (x_dk dn_271_0_0_ok 3 rfl) (by decide)) nx_if1))
  (e_Lok (ld_iload_n_2 (x_dk dn_271_0_0_ok 4 rfl))))))
  (e_Tok2
  (e_Tok2
  (e_Lok (e_st (I := eI) (er_i2l (x_dk dn_271_0_0_ok 5 rfl)) (nx_un (fun _ => rfl))))
  (e_Lok (ps_lconst_0 (x_dk dn_271_0_0_ok 6 rfl))))
  (e_Tok2
  (e_Lok (ld_aload_n_0 (x_dk dn_271_0_0_ok 7 rfl)))
  (e_Tok2
  (e_Lok (lk_12_43g ho_271 (x_dk dn_271_0_0_ok 8 rfl)))
  (e_Lok (ld_iload_n_1 (x_dk dn_271_0_0_ok 9 rfl)))))))
  (e_Tok2
  (e_Tok2
  (e_Tok2
  (e_Lok (sm_iaload (x_dk dn_271_0_0_ok 10 rfl)))
  (e_Lok (ps_iconst_1 (x_dk dn_271_0_0_ok 11 rfl))))
  (e_Tok2
  (e_Lok (sm_isub (x_dk dn_271_0_0_ok 12 rfl)))
  (e_Tok2
  (e_Lok (e_st (I := eI) (er_i2l (x_dk dn_271_0_0_ok 13 rfl)) (nx_un (fun _ => rfl))))
  (e_Lok (lk_12_301 ho_271 (x_dk dn_271_0_0_ok 14 rfl))))))
  (e_Tok2
  (e_Tok2
  (e_Lok (e_st (I := eI) (er_ifeq (off := 7) (tg := 30) (x_dk dn_271_0_0_ok 15 rfl) (by decide)) nx_if1))
  (e_Lok (ps_iconst_1 (x_dk dn_271_0_0_ok 16 rfl))))
  (e_Tok2
  (e_Lok (e_st (I := eI) (er_goto (off := 4) (tg := 31) (x_dk dn_271_0_0_ok 17 rfl) (by decide)) nx_goto))
  (e_Tok2
  (e_Lok (ps_iconst_0 (x_dk dn_271_0_0_ok 18 rfl)))
  (e_Lok (e_rt (I := eI) (k := 4) ⟨(x_dk dn_271_0_0_ok 19 rfl), rfl⟩)))))))
def te_271 : Nat → eE := te_271_0
theorem te_271_ok : ∀ pc, e_EOq eft cls elay eI n_271 pc (te_271 pc) := te_271_0_ok
theorem ho_272 : (xm_y n_272).cls = "RobotCellHouseModel" := rfl
def dn_272_0_0 : List (Nat × Instr × Nat) := [(0, .iload_n 0, 1), (1, .i2l, 1), (2, .ldc2_w 309, 3), (5, .ldc2_w 311, 3), (8, .invokestatic 301, 3), (11, .ifCond .eq 21, 3), (14, .iload_n 1, 1), (15, .i2l, 1), (16, .ldc2_w 309, 3), (19, .ldc2_w 311, 3), (22, .invokestatic 301, 3), (25, .ifCond .eq 7, 3), (28, .iconst 1, 1), (29, .goto 4, 3), (32, .iconst 0, 1), (33, .ireturn, 1)]
set_option maxRecDepth 20000 in
theorem dn_272_0_0_ok : dn_272_0_0.all (fun q => decide (decode (xm_b n_272) q.1 = .ok (q.2.1, q.2.2))) = true := xa_g_ok (by decide +kernel)
def te_272_0 : Nat → eE := (e_T 15 (e_T 5 (e_T 1 (e_T 0 (e_L 0 (0, ei_load 0 0 1, 0, 0)) (e_L 1 (0, ei_un (fun x => (4, x)) 2, 0, 0))) (e_T 2 (e_L 2 (0, ei_push (4, (-16000)) 5, 0, 0)) (e_L 5 (0, ei_push (4, 16000) 8, 0, 0)))) (e_T 11 (e_T 8 (e_L 8 (2, e_nof, 266, 3)) (e_L 11 (0, ei_if1 0 32 14, 0, 0))) (e_T 14 (e_L 14 (0, ei_load 1 0 15, 0, 0)) (e_L 15 (0, ei_un (fun x => (4, x)) 16, 0, 0))))) (e_T 25 (e_T 19 (e_T 16 (e_L 16 (0, ei_push (4, (-16000)) 19, 0, 0)) (e_L 19 (0, ei_push (4, 16000) 22, 0, 0))) (e_T 22 (e_L 22 (2, e_nof, 266, 3)) (e_L 25 (0, ei_if1 0 32 28, 0, 0)))) (e_T 29 (e_T 28 (e_L 28 (0, ei_push (0, 1) 29, 0, 0)) (e_L 29 (0, ei_goto 33, 0, 0))) (e_T 32 (e_L 32 (0, ei_push (0, 0) 33, 0, 0)) (e_L 33 (1, e_nof, 4, 0))))))
set_option maxRecDepth 20000 in
set_option maxHeartbeats 4000000 in
theorem te_272_0_ok : ∀ pc, e_EOq eft cls elay eI n_272 pc (te_272_0 pc) :=
  (e_Tok2
  (e_Tok2
  (e_Tok2
  (e_Tok2
  (e_Lok (ld_iload_n_0 (x_dk dn_272_0_0_ok 0 rfl)))
  (e_Lok (e_st (I := eI) (er_i2l (x_dk dn_272_0_0_ok 1 rfl)) (nx_un (fun _ => rfl)))))
  (e_Tok2
  (e_Lok (e_st (I := eI) (er_ldc2 (ix := 309) (z := (-16000)) (v := (-16000)) (x_dk dn_272_0_0_ok 2 rfl) (in_t11 (List.mem_of_getElem? (i := 49) rfl) rfl) (by decide)) (nx_push (Or.inl rfl))))
  (e_Lok (e_st (I := eI) (er_ldc2 (ix := 311) (z := 16000) (v := 16000) (x_dk dn_272_0_0_ok 3 rfl) (in_t11 (List.mem_of_getElem? (i := 50) rfl) rfl) (by decide)) (nx_push (Or.inl rfl))))))
  (e_Tok2
  (e_Tok2
  (e_Lok (lk_12_301 ho_272 (x_dk dn_272_0_0_ok 4 rfl)))
  (e_Lok (e_st (I := eI) (er_ifeq (off := 21) (tg := 32) (x_dk dn_272_0_0_ok 5 rfl) (by decide)) nx_if1)))
  (e_Tok2
  (e_Lok (ld_iload_n_1 (x_dk dn_272_0_0_ok 6 rfl)))
  (e_Lok (e_st (I := eI) (er_i2l (x_dk dn_272_0_0_ok 7 rfl)) (nx_un (fun _ => rfl)))))))
  (e_Tok2
  (e_Tok2
  (e_Tok2
  (e_Lok (e_st (I := eI) (er_ldc2 (ix := 309) (z := (-16000)) (v := (-16000)) (x_dk dn_272_0_0_ok 8 rfl) (in_t11 (List.mem_of_getElem? (i := 49) rfl) rfl) (by decide)) (nx_push (Or.inl rfl))))
  (e_Lok (e_st (I := eI) (er_ldc2 (ix := 311) (z := 16000) (v := 16000) (x_dk dn_272_0_0_ok 9 rfl) (in_t11 (List.mem_of_getElem? (i := 50) rfl) rfl) (by decide)) (nx_push (Or.inl rfl)))))
  (e_Tok2
  (e_Lok (lk_12_301 ho_272 (x_dk dn_272_0_0_ok 10 rfl)))
  (e_Lok (e_st (I := eI) (er_ifeq (off := 7) (tg := 32) (x_dk dn_272_0_0_ok 11 rfl) (by decide)) nx_if1))))
  (e_Tok2
  (e_Tok2
  (e_Lok (ps_iconst_1 (x_dk dn_272_0_0_ok 12 rfl)))
  (e_Lok (e_st (I := eI) (er_goto (off := 4) (tg := 33) (x_dk dn_272_0_0_ok 13 rfl) (by decide)) nx_goto)))
  (e_Tok2
  (e_Lok (ps_iconst_0 (x_dk dn_272_0_0_ok 14 rfl)))
  (e_Lok (e_rt (I := eI) (k := 4) ⟨(x_dk dn_272_0_0_ok 15 rfl), rfl⟩))))))
def te_272 : Nat → eE := te_272_0
theorem te_272_ok : ∀ pc, e_EOq eft cls elay eI n_272 pc (te_272 pc) := te_272_0_ok
theorem ho_273 : (xm_y n_273).cls = "RobotCellHouseModel" := rfl
def dn_273_0_0 : List (Nat × Instr × Nat) := [(0, .iload_n 0, 1), (1, .iload_n 1, 1), (2, .invokestatic 313, 3), (5, .ifCond .eq 39, 3), (8, .iload_n 2, 1), (9, .ifCond .lt 35, 3), (12, .iload_n 3, 1), (13, .ifCond .lt 31, 3), (16, .iload_n 0, 1), (17, .i2l, 1), (18, .iload_n 2, 1), (19, .i2l, 1), (20, .ladd, 1), (21, .ldc2_w 311, 3), (24, .lcmp, 1), (25, .ifCond .gt 19, 3), (28, .iload_n 1, 1), (29, .i2l, 1), (30, .iload_n 3, 1), (31, .i2l, 1), (32, .ladd, 1), (33, .ldc2_w 311, 3), (36, .lcmp, 1), (37, .ifCond .gt 7, 3), (40, .iconst 1, 1)]
set_option maxRecDepth 20000 in
theorem dn_273_0_0_ok : dn_273_0_0.all (fun q => decide (decode (xm_b n_273) q.1 = .ok (q.2.1, q.2.2))) = true := xa_g_ok (by decide +kernel)
def dn_273_0_1 : List (Nat × Instr × Nat) := [(41, .goto 4, 3), (44, .iconst 0, 1), (45, .ireturn, 1)]
set_option maxRecDepth 20000 in
theorem dn_273_0_1_ok : dn_273_0_1.all (fun q => decide (decode (xm_b n_273) q.1 = .ok (q.2.1, q.2.2))) = true := xa_g_ok (by decide +kernel)
def te_273_0 : Nat → eE := (e_T 21 (e_T 12 (e_T 2 (e_T 0 (e_L 0 (0, ei_load 0 0 1, 0, 0)) (e_T 1 (e_L 1 (0, ei_load 1 0 2, 0, 0)) (e_L 2 (2, e_nof, 272, 2)))) (e_T 8 (e_T 5 (e_L 5 (0, ei_if1 0 44 8, 0, 0)) (e_L 8 (0, ei_load 2 0 9, 0, 0))) (e_T 9 (e_L 9 (0, ei_if1 2 44 12, 0, 0)) (e_L 12 (0, ei_load 3 0 13, 0, 0))))) (e_T 17 (e_T 13 (e_L 13 (0, ei_if1 2 44 16, 0, 0)) (e_T 16 (e_L 16 (0, ei_load 0 0 17, 0, 0)) (e_L 17 (0, ei_un (fun x => (4, x)) 18, 0, 0)))) (e_T 19 (e_T 18 (e_L 18 (0, ei_load 2 0 19, 0, 0)) (e_L 19 (0, ei_un (fun x => (4, x)) 20, 0, 0))) (e_T 20 (e_L 20 (0, ei_binL eG_add 21, 0, 0)) (e_L 21 (0, ei_push (4, 16000) 24, 0, 0)))))) (e_T 32 (e_T 28 (e_T 24 (e_L 24 (0, ei_binL eG_cmp 25, 0, 0)) (e_T 25 (e_L 25 (0, ei_if1 4 44 28, 0, 0)) (e_L 28 (0, ei_load 1 0 29, 0, 0)))) (e_T 30 (e_T 29 (e_L 29 (0, ei_un (fun x => (4, x)) 30, 0, 0)) (e_L 30 (0, ei_load 3 0 31, 0, 0))) (e_T 31 (e_L 31 (0, ei_un (fun x => (4, x)) 32, 0, 0)) (e_L 32 (0, ei_binL eG_add 33, 0, 0))))) (e_T 37 (e_T 33 (e_L 33 (0, ei_push (4, 16000) 36, 0, 0)) (e_T 36 (e_L 36 (0, ei_binL eG_cmp 37, 0, 0)) (e_L 37 (0, ei_if1 4 44 40, 0, 0)))) (e_T 41 (e_T 40 (e_L 40 (0, ei_push (0, 1) 41, 0, 0)) (e_L 41 (0, ei_goto 45, 0, 0))) (e_T 44 (e_L 44 (0, ei_push (0, 0) 45, 0, 0)) (e_L 45 (1, e_nof, 4, 0)))))))
set_option maxRecDepth 20000 in
set_option maxHeartbeats 4000000 in
theorem te_273_0_ok : ∀ pc, e_EOq eft cls elay eI n_273 pc (te_273_0 pc) :=
  (e_Tok2
  (e_Tok2
  (e_Tok2
  (e_Tok2
  (e_Lok (ld_iload_n_0 (x_dk dn_273_0_0_ok 0 rfl)))
  (e_Tok2
  (e_Lok (ld_iload_n_1 (x_dk dn_273_0_0_ok 1 rfl)))
  (e_Lok (lk_12_313 ho_273 (x_dk dn_273_0_0_ok 2 rfl)))))
  (e_Tok2
  (e_Tok2
  (e_Lok (e_st (I := eI) (er_ifeq (off := 39) (tg := 44) (x_dk dn_273_0_0_ok 3 rfl) (by decide)) nx_if1))
  (e_Lok (ld_iload_n_2 (x_dk dn_273_0_0_ok 4 rfl))))
  (e_Tok2
  (e_Lok (e_st (I := eI) (er_iflt (off := 35) (tg := 44) (x_dk dn_273_0_0_ok 5 rfl) (by decide)) nx_if1))
  (e_Lok (ld_iload_n_3 (x_dk dn_273_0_0_ok 6 rfl))))))
  (e_Tok2
  (e_Tok2
  (e_Lok (e_st (I := eI) (er_iflt (off := 31) (tg := 44) (x_dk dn_273_0_0_ok 7 rfl) (by decide)) nx_if1))
  (e_Tok2
  (e_Lok (ld_iload_n_0 (x_dk dn_273_0_0_ok 8 rfl)))
  (e_Lok (e_st (I := eI) (er_i2l (x_dk dn_273_0_0_ok 9 rfl)) (nx_un (fun _ => rfl))))))
  (e_Tok2
  (e_Tok2
  (e_Lok (ld_iload_n_2 (x_dk dn_273_0_0_ok 10 rfl)))
  (e_Lok (e_st (I := eI) (er_i2l (x_dk dn_273_0_0_ok 11 rfl)) (nx_un (fun _ => rfl)))))
  (e_Tok2
  (e_Lok (e_st (I := eI) (er_ladd (x_dk dn_273_0_0_ok 12 rfl)) (nx_binL bG_ladd)))
  (e_Lok (e_st (I := eI) (er_ldc2 (ix := 311) (z := 16000) (v := 16000) (x_dk dn_273_0_0_ok 13 rfl) (in_t11 (List.mem_of_getElem? (i := 50) rfl) rfl) (by decide)) (nx_push (Or.inl rfl))))))))
  (e_Tok2
  (e_Tok2
  (e_Tok2
  (e_Lok (e_st (I := eI) (er_lcmp (x_dk dn_273_0_0_ok 14 rfl)) (nx_binL bG_lcmp)))
  (e_Tok2
  (e_Lok (e_st (I := eI) (er_ifgt (off := 19) (tg := 44) (x_dk dn_273_0_0_ok 15 rfl) (by decide)) nx_if1))
  (e_Lok (ld_iload_n_1 (x_dk dn_273_0_0_ok 16 rfl)))))
  (e_Tok2
  (e_Tok2
  (e_Lok (e_st (I := eI) (er_i2l (x_dk dn_273_0_0_ok 17 rfl)) (nx_un (fun _ => rfl))))
  (e_Lok (ld_iload_n_3 (x_dk dn_273_0_0_ok 18 rfl))))
  (e_Tok2
  (e_Lok (e_st (I := eI) (er_i2l (x_dk dn_273_0_0_ok 19 rfl)) (nx_un (fun _ => rfl))))
  (e_Lok (e_st (I := eI) (er_ladd (x_dk dn_273_0_0_ok 20 rfl)) (nx_binL bG_ladd))))))
  (e_Tok2
  (e_Tok2
  (e_Lok (e_st (I := eI) (er_ldc2 (ix := 311) (z := 16000) (v := 16000) (x_dk dn_273_0_0_ok 21 rfl) (in_t11 (List.mem_of_getElem? (i := 50) rfl) rfl) (by decide)) (nx_push (Or.inl rfl))))
  (e_Tok2
  (e_Lok (e_st (I := eI) (er_lcmp (x_dk dn_273_0_0_ok 22 rfl)) (nx_binL bG_lcmp)))
  (e_Lok (e_st (I := eI) (er_ifgt (off := 7) (tg := 44) (x_dk dn_273_0_0_ok 23 rfl) (by decide)) nx_if1))))
  (e_Tok2
  (e_Tok2
  (e_Lok (ps_iconst_1 (x_dk dn_273_0_0_ok 24 rfl)))
  (e_Lok (e_st (I := eI) (er_goto (off := 4) (tg := 45) (x_dk dn_273_0_1_ok 0 rfl) (by decide)) nx_goto)))
  (e_Tok2
  (e_Lok (ps_iconst_0 (x_dk dn_273_0_1_ok 1 rfl)))
  (e_Lok (e_rt (I := eI) (k := 4) ⟨(x_dk dn_273_0_1_ok 2 rfl), rfl⟩)))))))
def te_273 : Nat → eE := te_273_0
theorem te_273_ok : ∀ pc, e_EOq eft cls elay eI n_273 pc (te_273 pc) := te_273_0_ok
theorem ho_274 : (xm_y n_274).cls = "RobotCellHouseModel" := rfl
def dn_274_0_0 : List (Nat × Instr × Nat) := [(0, .aload_n 0, 1), (1, .getfield 317, 3), (4, .bipush 20, 2), (6, .iadd, 1), (7, .sipush 4000, 3), (10, .if_icmp .le 6, 3), (13, .bipush (-3), 2), (15, .ireturn, 1), (16, .aload_n 0, 1), (17, .iload_n 1, 1), (18, .invokevirtual 320, 3), (21, .aload_n 0, 1), (22, .iload_n 2, 1), (23, .invokevirtual 320, 3), (26, .aload_n 0, 1), (27, .iload_n 3, 1), (28, .invokevirtual 320, 3), (31, .aload_n 0, 1), (32, .iload 4, 2), (34, .invokevirtual 320, 3), (37, .aload_n 0, 1), (38, .iload 5, 2), (40, .invokevirtual 320, 3), (43, .aload_n 0, 1), (44, .getfield 317, 3)]
set_option maxRecDepth 20000 in
theorem dn_274_0_0_ok : dn_274_0_0.all (fun q => decide (decode (xm_b n_274) q.1 = .ok (q.2.1, q.2.2))) = true := xa_g_ok (by decide +kernel)
def dn_274_0_1 : List (Nat × Instr × Nat) := [(47, .ireturn, 1)]
set_option maxRecDepth 20000 in
theorem dn_274_0_1_ok : dn_274_0_1.all (fun q => decide (decode (xm_b n_274) q.1 = .ok (q.2.1, q.2.2))) = true := xa_g_ok (by decide +kernel)
def te_274_0 : Nat → eE := (e_T 22 (e_T 10 (e_T 4 (e_T 0 (e_L 0 (0, ei_load 0 2 1, 0, 0)) (e_T 1 (e_L 1 (0, ei_getf eft elay 12 9 4, 0, 0)) (e_L 4 (0, ei_push (0, 20) 6, 0, 0)))) (e_T 6 (e_L 6 (0, ei_bin eF_add 7, 0, 0)) (e_T 7 (e_L 7 (0, ei_push (0, 4000) 10, 0, 0)) (e_L 10 (0, ei_if2 5 16 13, 0, 0))))) (e_T 16 (e_T 13 (e_L 13 (0, ei_push (0, (-3)) 15, 0, 0)) (e_T 15 (e_L 15 (1, e_nof, 1, 0)) (e_L 16 (0, ei_load 0 2 17, 0, 0)))) (e_T 18 (e_T 17 (e_L 17 (0, ei_load 1 0 18, 0, 0)) (e_L 18 (2, e_nof, 275, 2))) (e_T 21 (e_L 21 (0, ei_load 0 2 22, 0, 0)) (e_L 22 (0, ei_load 2 0 23, 0, 0)))))) (e_T 32 (e_T 27 (e_T 23 (e_L 23 (2, e_nof, 275, 2)) (e_T 26 (e_L 26 (0, ei_load 0 2 27, 0, 0)) (e_L 27 (0, ei_load 3 0 28, 0, 0)))) (e_T 28 (e_L 28 (2, e_nof, 275, 2)) (e_T 31 (e_L 31 (0, ei_load 0 2 32, 0, 0)) (e_L 32 (0, ei_load 4 0 34, 0, 0))))) (e_T 38 (e_T 34 (e_L 34 (2, e_nof, 275, 2)) (e_T 37 (e_L 37 (0, ei_load 0 2 38, 0, 0)) (e_L 38 (0, ei_load 5 0 40, 0, 0)))) (e_T 43 (e_T 40 (e_L 40 (2, e_nof, 275, 2)) (e_L 43 (0, ei_load 0 2 44, 0, 0))) (e_T 44 (e_L 44 (0, ei_getf eft elay 12 9 47, 0, 0)) (e_L 47 (1, e_nof, 1, 0)))))))
set_option maxRecDepth 20000 in
set_option maxHeartbeats 4000000 in
theorem te_274_0_ok : ∀ pc, e_EOq eft cls elay eI n_274 pc (te_274_0 pc) :=
  (e_Tok2
  (e_Tok2
  (e_Tok2
  (e_Tok2
  (e_Lok (ld_aload_n_0 (x_dk dn_274_0_0_ok 0 rfl)))
  (e_Tok2
  (e_Lok (lk_12_317g ho_274 (x_dk dn_274_0_0_ok 1 rfl)))
  (e_Lok (ps_bipush_20 (x_dk dn_274_0_0_ok 2 rfl)))))
  (e_Tok2
  (e_Lok (sm_iadd (x_dk dn_274_0_0_ok 3 rfl)))
  (e_Tok2
  (e_Lok (ps_sipush_4000 (x_dk dn_274_0_0_ok 4 rfl)))
  (e_Lok (e_st (I := eI) (er_icmple (off := 6) (tg := 16) (x_dk dn_274_0_0_ok 5 rfl) (by decide)) nx_if2)))))
  (e_Tok2
  (e_Tok2
  (e_Lok (ps_bipush_m3 (x_dk dn_274_0_0_ok 6 rfl)))
  (e_Tok2
  (e_Lok (e_rt (I := eI) (k := 1) ⟨(x_dk dn_274_0_0_ok 7 rfl), rfl⟩))
  (e_Lok (ld_aload_n_0 (x_dk dn_274_0_0_ok 8 rfl)))))
  (e_Tok2
  (e_Tok2
  (e_Lok (ld_iload_n_1 (x_dk dn_274_0_0_ok 9 rfl)))
  (e_Lok (lk_12_320 ho_274 (x_dk dn_274_0_0_ok 10 rfl))))
  (e_Tok2
  (e_Lok (ld_aload_n_0 (x_dk dn_274_0_0_ok 11 rfl)))
  (e_Lok (ld_iload_n_2 (x_dk dn_274_0_0_ok 12 rfl)))))))
  (e_Tok2
  (e_Tok2
  (e_Tok2
  (e_Lok (lk_12_320 ho_274 (x_dk dn_274_0_0_ok 13 rfl)))
  (e_Tok2
  (e_Lok (ld_aload_n_0 (x_dk dn_274_0_0_ok 14 rfl)))
  (e_Lok (ld_iload_n_3 (x_dk dn_274_0_0_ok 15 rfl)))))
  (e_Tok2
  (e_Lok (lk_12_320 ho_274 (x_dk dn_274_0_0_ok 16 rfl)))
  (e_Tok2
  (e_Lok (ld_aload_n_0 (x_dk dn_274_0_0_ok 17 rfl)))
  (e_Lok (ld_iload_4 (x_dk dn_274_0_0_ok 18 rfl))))))
  (e_Tok2
  (e_Tok2
  (e_Lok (lk_12_320 ho_274 (x_dk dn_274_0_0_ok 19 rfl)))
  (e_Tok2
  (e_Lok (ld_aload_n_0 (x_dk dn_274_0_0_ok 20 rfl)))
  (e_Lok (ld_iload_5 (x_dk dn_274_0_0_ok 21 rfl)))))
  (e_Tok2
  (e_Tok2
  (e_Lok (lk_12_320 ho_274 (x_dk dn_274_0_0_ok 22 rfl)))
  (e_Lok (ld_aload_n_0 (x_dk dn_274_0_0_ok 23 rfl))))
  (e_Tok2
  (e_Lok (lk_12_317g ho_274 (x_dk dn_274_0_0_ok 24 rfl)))
  (e_Lok (e_rt (I := eI) (k := 1) ⟨(x_dk dn_274_0_1_ok 0 rfl), rfl⟩)))))))
def te_274 : Nat → eE := te_274_0
theorem te_274_ok : ∀ pc, e_EOq eft cls elay eI n_274 pc (te_274 pc) := te_274_0_ok
theorem ho_275 : (xm_y n_275).cls = "RobotCellHouseModel" := rfl
def dn_275_0_0 : List (Nat × Instr × Nat) := [(0, .bipush 24, 2), (2, .istore_n 2, 1), (3, .iload_n 2, 1), (4, .ifCond .lt 32, 3), (7, .aload_n 0, 1), (8, .getfield 27, 3), (11, .aload_n 0, 1), (12, .getfield 317, 3), (15, .iload_n 1, 1), (16, .iload_n 2, 1), (17, .ishr, 1), (18, .i2b, 1), (19, .bastore, 1), (20, .aload_n 0, 1), (21, .dup, 1), (22, .getfield 317, 3), (25, .iconst 1, 1), (26, .iadd, 1), (27, .putfield 317, 3), (30, .iinc 2 (-8), 3), (33, .goto (-30), 3), (36, .return_, 1)]
set_option maxRecDepth 20000 in
theorem dn_275_0_0_ok : dn_275_0_0.all (fun q => decide (decode (xm_b n_275) q.1 = .ok (q.2.1, q.2.2))) = true := xa_g_ok (by decide +kernel)
def te_275_0 : Nat → eE := (e_T 17 (e_T 7 (e_T 2 (e_T 0 (e_L 0 (0, ei_push (0, 24) 2, 0, 0)) (e_L 2 (0, ei_stor 2 0 3, 0, 0))) (e_T 3 (e_L 3 (0, ei_load 2 0 4, 0, 0)) (e_T 4 (e_L 4 (0, ei_if1 2 36 7, 0, 0)) (e_L 7 (0, ei_load 0 2 8, 0, 0))))) (e_T 12 (e_T 8 (e_L 8 (0, ei_getf eft elay 12 8 11, 0, 0)) (e_T 11 (e_L 11 (0, ei_load 0 2 12, 0, 0)) (e_L 12 (0, ei_getf eft elay 12 9 15, 0, 0)))) (e_T 15 (e_L 15 (0, ei_load 1 0 16, 0, 0)) (e_T 16 (e_L 16 (0, ei_load 2 0 17, 0, 0)) (e_L 17 (0, ei_bin (eB (fun x y => x >>> (y &&& 31))) 18, 0, 0)))))) (e_T 22 (e_T 19 (e_T 18 (e_L 18 (0, ei_un (fun x => (0, x.bmod 256)) 19, 0, 0)) (e_L 19 (0, ei_ast elay true 20, 0, 0))) (e_T 20 (e_L 20 (0, ei_load 0 2 21, 0, 0)) (e_T 21 (e_L 21 (0, ei_stk ef_dup 22, 0, 0)) (e_L 22 (0, ei_getf eft elay 12 9 25, 0, 0))))) (e_T 27 (e_T 25 (e_L 25 (0, ei_push (0, 1) 26, 0, 0)) (e_T 26 (e_L 26 (0, ei_bin eF_add 27, 0, 0)) (e_L 27 (0, ei_putf eft elay 12 9 0 30, 0, 0)))) (e_T 30 (e_L 30 (0, ei_inc 2 (-8) 33, 0, 0)) (e_T 33 (e_L 33 (0, ei_goto 3, 0, 0)) (e_L 36 (1, e_nof, 0, 0)))))))
set_option maxRecDepth 20000 in
set_option maxHeartbeats 4000000 in
theorem te_275_0_ok : ∀ pc, e_EOq eft cls elay eI n_275 pc (te_275_0 pc) :=
  (e_Tok2
  (e_Tok2
  (e_Tok2
  (e_Tok2
  (e_Lok (ps_bipush_24 (x_dk dn_275_0_0_ok 0 rfl)))
  (e_Lok (e_st (I := eI) (er_istore_n (i := 2) (x_dk dn_275_0_0_ok 1 rfl) (by decide +kernel)) nx_stor)))
  (e_Tok2
  (e_Lok (ld_iload_n_2 (x_dk dn_275_0_0_ok 2 rfl)))
  (e_Tok2
  (e_Lok (e_st (I := eI) (er_iflt (off := 32) (tg := 36) (x_dk dn_275_0_0_ok 3 rfl) (by decide)) nx_if1))
  (e_Lok (ld_aload_n_0 (x_dk dn_275_0_0_ok 4 rfl))))))
  (e_Tok2
  (e_Tok2
  (e_Lok (lk_12_27g ho_275 (x_dk dn_275_0_0_ok 5 rfl)))
  (e_Tok2
  (e_Lok (ld_aload_n_0 (x_dk dn_275_0_0_ok 6 rfl)))
  (e_Lok (lk_12_317g ho_275 (x_dk dn_275_0_0_ok 7 rfl)))))
  (e_Tok2
  (e_Lok (ld_iload_n_1 (x_dk dn_275_0_0_ok 8 rfl)))
  (e_Tok2
  (e_Lok (ld_iload_n_2 (x_dk dn_275_0_0_ok 9 rfl)))
  (e_Lok (e_st (I := eI) (er_ishr (x_dk dn_275_0_0_ok 10 rfl)) nx_bin))))))
  (e_Tok2
  (e_Tok2
  (e_Tok2
  (e_Lok (e_st (I := eI) (er_i2b (x_dk dn_275_0_0_ok 11 rfl)) (nx_un (fun _ => rfl))))
  (e_Lok (e_st (I := eI) (er_bastore (x_dk dn_275_0_0_ok 12 rfl)) nx_ast)))
  (e_Tok2
  (e_Lok (ld_aload_n_0 (x_dk dn_275_0_0_ok 13 rfl)))
  (e_Tok2
  (e_Lok (e_st (I := eI) (er_dup (x_dk dn_275_0_0_ok 14 rfl)) (nx_stk bf_dup)))
  (e_Lok (lk_12_317g ho_275 (x_dk dn_275_0_0_ok 15 rfl))))))
  (e_Tok2
  (e_Tok2
  (e_Lok (ps_iconst_1 (x_dk dn_275_0_0_ok 16 rfl)))
  (e_Tok2
  (e_Lok (sm_iadd (x_dk dn_275_0_0_ok 17 rfl)))
  (e_Lok (lk_12_317p ho_275 (x_dk dn_275_0_0_ok 18 rfl)))))
  (e_Tok2
  (e_Lok (e_st (I := eI) (er_iinc (i := 2) (n := (-8)) (x_dk dn_275_0_0_ok 19 rfl) (by decide +kernel) (by decide)) nx_inc))
  (e_Tok2
  (e_Lok (e_st (I := eI) (er_goto (off := (-30)) (tg := 3) (x_dk dn_275_0_0_ok 20 rfl) (by decide)) nx_goto))
  (e_Lok (e_rt (I := eI) (k := 0) ⟨(x_dk dn_275_0_0_ok 21 rfl), rfl⟩)))))))
def te_275 : Nat → eE := te_275_0
theorem te_275_ok : ∀ pc, e_EOq eft cls elay eI n_275 pc (te_275 pc) := te_275_0_ok
theorem ho_276 : (xm_y n_276).cls = "RobotCellHouseModel" := rfl
def dn_276_0_0 : List (Nat × Instr × Nat) := [(0, .iload_n 1, 1), (1, .i2l, 1), (2, .lconst 0, 1), (3, .aload_n 0, 1), (4, .getfield 317, 3), (7, .i2l, 1), (8, .invokestatic 301, 3), (11, .ifCond .ne 5, 3), (14, .iconst (-1), 1), (15, .ireturn, 1), (16, .aload_n 0, 1), (17, .dup, 1), (18, .getfield 317, 3), (21, .iload_n 1, 1), (22, .isub, 1), (23, .putfield 317, 3), (26, .aload_n 0, 1), (27, .getfield 317, 3), (30, .ireturn, 1)]
set_option maxRecDepth 20000 in
theorem dn_276_0_0_ok : dn_276_0_0.all (fun q => decide (decode (xm_b n_276) q.1 = .ok (q.2.1, q.2.2))) = true := xa_g_ok (by decide +kernel)
def te_276_0 : Nat → eE := (e_T 14 (e_T 3 (e_T 1 (e_T 0 (e_L 0 (0, ei_load 1 0 1, 0, 0)) (e_L 1 (0, ei_un (fun x => (4, x)) 2, 0, 0))) (e_T 2 (e_L 2 (0, ei_push (4, 0) 3, 0, 0)) (e_L 3 (0, ei_load 0 2 4, 0, 0)))) (e_T 7 (e_T 4 (e_L 4 (0, ei_getf eft elay 12 9 7, 0, 0)) (e_L 7 (0, ei_un (fun x => (4, x)) 8, 0, 0))) (e_T 8 (e_L 8 (2, e_nof, 266, 3)) (e_T 11 (e_L 11 (0, ei_if1 1 16 14, 0, 0)) (e_L 14 (0, ei_push (0, (-1)) 15, 0, 0)))))) (e_T 21 (e_T 16 (e_T 15 (e_L 15 (1, e_nof, 1, 0)) (e_L 16 (0, ei_load 0 2 17, 0, 0))) (e_T 17 (e_L 17 (0, ei_stk ef_dup 18, 0, 0)) (e_T 18 (e_L 18 (0, ei_getf eft elay 12 9 21, 0, 0)) (e_L 21 (0, ei_load 1 0 22, 0, 0))))) (e_T 23 (e_T 22 (e_L 22 (0, ei_bin eF_sub 23, 0, 0)) (e_L 23 (0, ei_putf eft elay 12 9 0 26, 0, 0))) (e_T 26 (e_L 26 (0, ei_load 0 2 27, 0, 0)) (e_T 27 (e_L 27 (0, ei_getf eft elay 12 9 30, 0, 0)) (e_L 30 (1, e_nof, 1, 0)))))))
set_option maxRecDepth 20000 in
set_option maxHeartbeats 4000000 in
theorem te_276_0_ok : ∀ pc, e_EOq eft cls elay eI n_276 pc (te_276_0 pc) :=
  (e_Tok2
  (e_Tok2
  (e_Tok2
  (e_Tok2
  (e_Lok (ld_iload_n_1 (x_dk dn_276_0_0_ok 0 rfl)))
  (e_Lok (e_st (I := eI) (er_i2l (x_dk dn_276_0_0_ok 1 rfl)) (nx_un (fun _ => rfl)))))
  (e_Tok2
  (e_Lok (ps_lconst_0 (x_dk dn_276_0_0_ok 2 rfl)))
  (e_Lok (ld_aload_n_0 (x_dk dn_276_0_0_ok 3 rfl)))))
  (e_Tok2
  (e_Tok2
  (e_Lok (lk_12_317g ho_276 (x_dk dn_276_0_0_ok 4 rfl)))
  (e_Lok (e_st (I := eI) (er_i2l (x_dk dn_276_0_0_ok 5 rfl)) (nx_un (fun _ => rfl)))))
  (e_Tok2
  (e_Lok (lk_12_301 ho_276 (x_dk dn_276_0_0_ok 6 rfl)))
  (e_Tok2
  (e_Lok (e_st (I := eI) (er_ifne (off := 5) (tg := 16) (x_dk dn_276_0_0_ok 7 rfl) (by decide)) nx_if1))
  (e_Lok (ps_iconst_m1 (x_dk dn_276_0_0_ok 8 rfl)))))))
  (e_Tok2
  (e_Tok2
  (e_Tok2
  (e_Lok (e_rt (I := eI) (k := 1) ⟨(x_dk dn_276_0_0_ok 9 rfl), rfl⟩))
  (e_Lok (ld_aload_n_0 (x_dk dn_276_0_0_ok 10 rfl))))
  (e_Tok2
  (e_Lok (e_st (I := eI) (er_dup (x_dk dn_276_0_0_ok 11 rfl)) (nx_stk bf_dup)))
  (e_Tok2
  (e_Lok (lk_12_317g ho_276 (x_dk dn_276_0_0_ok 12 rfl)))
  (e_Lok (ld_iload_n_1 (x_dk dn_276_0_0_ok 13 rfl))))))
  (e_Tok2
  (e_Tok2
  (e_Lok (sm_isub (x_dk dn_276_0_0_ok 14 rfl)))
  (e_Lok (lk_12_317p ho_276 (x_dk dn_276_0_0_ok 15 rfl))))
  (e_Tok2
  (e_Lok (ld_aload_n_0 (x_dk dn_276_0_0_ok 16 rfl)))
  (e_Tok2
  (e_Lok (lk_12_317g ho_276 (x_dk dn_276_0_0_ok 17 rfl)))
  (e_Lok (e_rt (I := eI) (k := 1) ⟨(x_dk dn_276_0_0_ok 18 rfl), rfl⟩)))))))
def te_276 : Nat → eE := te_276_0
theorem te_276_ok : ∀ pc, e_EOq eft cls elay eI n_276 pc (te_276 pc) := te_276_0_ok
theorem ho_277 : (xm_y n_277).cls = "RobotCellHouseModel" := rfl
def dn_277_0_0 : List (Nat × Instr × Nat) := [(0, .aload_n 0, 1), (1, .getfield 8, 3), (4, .iconst 0, 1), (5, .iaload, 1), (6, .istore_n 1, 1), (7, .aload_n 0, 1), (8, .invokevirtual 262, 3), (11, .iload_n 1, 1), (12, .ireturn, 1)]
set_option maxRecDepth 20000 in
theorem dn_277_0_0_ok : dn_277_0_0.all (fun q => decide (decode (xm_b n_277) q.1 = .ok (q.2.1, q.2.2))) = true := xa_g_ok (by decide +kernel)
def te_277_0 : Nat → eE := (e_T 5 (e_T 1 (e_T 0 (e_L 0 (0, ei_load 0 2 1, 0, 0)) (e_L 1 (0, ei_getf eft elay 12 0 4, 0, 0))) (e_T 4 (e_L 4 (0, ei_push (0, 0) 5, 0, 0)) (e_L 5 (0, ei_ald elay false 6, 0, 0)))) (e_T 7 (e_T 6 (e_L 6 (0, ei_stor 1 0 7, 0, 0)) (e_L 7 (0, ei_load 0 2 8, 0, 0))) (e_T 8 (e_L 8 (2, e_nof, 267, 1)) (e_T 11 (e_L 11 (0, ei_load 1 0 12, 0, 0)) (e_L 12 (1, e_nof, 1, 0))))))
set_option maxRecDepth 20000 in
set_option maxHeartbeats 4000000 in
theorem te_277_0_ok : ∀ pc, e_EOq eft cls elay eI n_277 pc (te_277_0 pc) :=
  (e_Tok2
  (e_Tok2
  (e_Tok2
  (e_Lok (ld_aload_n_0 (x_dk dn_277_0_0_ok 0 rfl)))
  (e_Lok (lk_12_8g ho_277 (x_dk dn_277_0_0_ok 1 rfl))))
  (e_Tok2
  (e_Lok (ps_iconst_0 (x_dk dn_277_0_0_ok 2 rfl)))
  (e_Lok (sm_iaload (x_dk dn_277_0_0_ok 3 rfl)))))
  (e_Tok2
  (e_Tok2
  (e_Lok (e_st (I := eI) (er_istore_n (i := 1) (x_dk dn_277_0_0_ok 4 rfl) (by decide +kernel)) nx_stor))
  (e_Lok (ld_aload_n_0 (x_dk dn_277_0_0_ok 5 rfl))))
  (e_Tok2
  (e_Lok (lk_12_262 ho_277 (x_dk dn_277_0_0_ok 6 rfl)))
  (e_Tok2
  (e_Lok (ld_iload_n_1 (x_dk dn_277_0_0_ok 7 rfl)))
  (e_Lok (e_rt (I := eI) (k := 1) ⟨(x_dk dn_277_0_0_ok 8 rfl), rfl⟩))))))
def te_277 : Nat → eE := te_277_0
theorem te_277_ok : ∀ pc, e_EOq eft cls elay eI n_277 pc (te_277 pc) := te_277_0_ok
theorem ho_278 : (xm_y n_278).cls = "RobotCellHouseModel" := rfl
def dn_278_0_0 : List (Nat × Instr × Nat) := [(0, .iload_n 1, 1), (1, .i2l, 1), (2, .ldc2_w 324, 3), (5, .ldc2_w 326, 3), (8, .invokestatic 301, 3), (11, .ifCond .eq 42, 3), (14, .iload_n 2, 1), (15, .i2l, 1), (16, .ldc2_w 324, 3), (19, .ldc2_w 326, 3), (22, .invokestatic 301, 3), (25, .ifCond .eq 28, 3), (28, .iload_n 3, 1), (29, .i2l, 1), (30, .lconst 0, 1), (31, .ldc2_w 328, 3), (34, .invokestatic 301, 3), (37, .ifCond .eq 16, 3), (40, .iload 4, 2), (42, .i2l, 1), (43, .lconst 0, 1), (44, .ldc2_w 330, 3), (47, .invokestatic 301, 3), (50, .ifCond .ne 5, 3), (53, .iconst (-1), 1)]
set_option maxRecDepth 20000 in
theorem dn_278_0_0_ok : dn_278_0_0.all (fun q => decide (decode (xm_b n_278) q.1 = .ok (q.2.1, q.2.2))) = true := xa_g_ok (by decide +kernel)
def dn_278_0_1 : List (Nat × Instr × Nat) := [(54, .ireturn, 1), (55, .aload_n 0, 1), (56, .getfield 265, 3), (59, .ifCond .eq 6, 3), (62, .bipush (-2), 2), (64, .ireturn, 1), (65, .aload_n 0, 1), (66, .getfield 269, 3), (69, .iconst 4, 1), (70, .if_icmp .ne 6, 3), (73, .bipush (-3), 2), (75, .ireturn, 1), (76, .aload_n 0, 1), (77, .getfield 31, 3), (80, .aload_n 0, 1), (81, .getfield 269, 3), (84, .iload_n 1, 1), (85, .iastore, 1), (86, .aload_n 0, 1), (87, .getfield 34, 3), (90, .aload_n 0, 1), (91, .getfield 269, 3), (94, .iload_n 2, 1), (95, .iastore, 1), (96, .aload_n 0, 1)]
set_option maxRecDepth 20000 in
theorem dn_278_0_1_ok : dn_278_0_1.all (fun q => decide (decode (xm_b n_278) q.1 = .ok (q.2.1, q.2.2))) = true := xa_g_ok (by decide +kernel)
def dn_278_0_2 : List (Nat × Instr × Nat) := [(97, .getfield 37, 3), (100, .aload_n 0, 1), (101, .getfield 269, 3), (104, .iload_n 3, 1), (105, .iastore, 1), (106, .aload_n 0, 1), (107, .getfield 40, 3), (110, .aload_n 0, 1), (111, .getfield 269, 3), (114, .iload 4, 2), (116, .iastore, 1), (117, .aload_n 0, 1), (118, .dup, 1), (119, .getfield 269, 3), (122, .iconst 1, 1), (123, .iadd, 1), (124, .putfield 269, 3), (127, .aload_n 0, 1), (128, .getfield 269, 3), (131, .iconst 1, 1), (132, .isub, 1), (133, .ireturn, 1)]
set_option maxRecDepth 20000 in
theorem dn_278_0_2_ok : dn_278_0_2.all (fun q => decide (decode (xm_b n_278) q.1 = .ok (q.2.1, q.2.2))) = true := xa_g_ok (by decide +kernel)
def te_278_0 : Nat → eE := (e_T 37 (e_T 16 (e_T 5 (e_T 1 (e_T 0 (e_L 0 (0, ei_load 1 0 1, 0, 0)) (e_L 1 (0, ei_un (fun x => (4, x)) 2, 0, 0))) (e_T 2 (e_L 2 (0, ei_push (4, (-8000)) 5, 0, 0)) (e_L 5 (0, ei_push (4, 8000) 8, 0, 0)))) (e_T 11 (e_T 8 (e_L 8 (2, e_nof, 266, 3)) (e_L 11 (0, ei_if1 0 53 14, 0, 0))) (e_T 14 (e_L 14 (0, ei_load 2 0 15, 0, 0)) (e_T 15 (e_L 15 (0, ei_un (fun x => (4, x)) 16, 0, 0)) (e_L 16 (0, ei_push (4, (-8000)) 19, 0, 0)))))) (e_T 28 (e_T 22 (e_T 19 (e_L 19 (0, ei_push (4, 8000) 22, 0, 0)) (e_L 22 (2, e_nof, 266, 3))) (e_T 25 (e_L 25 (0, ei_if1 0 53 28, 0, 0)) (e_L 28 (0, ei_load 3 0 29, 0, 0)))) (e_T 30 (e_T 29 (e_L 29 (0, ei_un (fun x => (4, x)) 30, 0, 0)) (e_L 30 (0, ei_push (4, 0) 31, 0, 0))) (e_T 31 (e_L 31 (0, ei_push (4, 4095) 34, 0, 0)) (e_T 34 (e_L 34 (2, e_nof, 266, 3)) (e_L 37 (0, ei_if1 0 53 40, 0, 0))))))) (e_T 55 (e_T 44 (e_T 42 (e_T 40 (e_L 40 (0, ei_load 4 0 42, 0, 0)) (e_L 42 (0, ei_un (fun x => (4, x)) 43, 0, 0))) (e_T 43 (e_L 43 (0, ei_push (4, 0) 44, 0, 0)) (e_L 44 (0, ei_push (4, 800) 47, 0, 0)))) (e_T 50 (e_T 47 (e_L 47 (2, e_nof, 266, 3)) (e_L 50 (0, ei_if1 1 55 53, 0, 0))) (e_T 53 (e_L 53 (0, ei_push (0, (-1)) 54, 0, 0)) (e_T 54 (e_L 54 (1, e_nof, 1, 0)) (e_L 55 (0, ei_load 0 2 56, 0, 0)))))) (e_T 64 (e_T 59 (e_T 56 (e_L 56 (0, ei_getf eft elay 12 3 59, 0, 0)) (e_L 59 (0, ei_if1 0 65 62, 0, 0))) (e_T 62 (e_L 62 (0, ei_push (0, (-2)) 64, 0, 0)) (e_L 64 (1, e_nof, 1, 0)))) (e_T 66 (e_T 65 (e_L 65 (0, ei_load 0 2 66, 0, 0)) (e_L 66 (0, ei_getf eft elay 12 10 69, 0, 0))) (e_T 69 (e_L 69 (0, ei_push (0, 4) 70, 0, 0)) (e_T 70 (e_L 70 (0, ei_if2 1 76 73, 0, 0)) (e_L 73 (0, ei_push (0, (-3)) 75, 0, 0))))))))
set_option maxRecDepth 20000 in
set_option maxHeartbeats 4000000 in
theorem te_278_0_ok : ∀ pc, e_EOq eft cls elay eI n_278 pc (te_278_0 pc) :=
  (e_Tok2
  (e_Tok2
  (e_Tok2
  (e_Tok2
  (e_Tok2
  (e_Lok (ld_iload_n_1 (x_dk dn_278_0_0_ok 0 rfl)))
  (e_Lok (e_st (I := eI) (er_i2l (x_dk dn_278_0_0_ok 1 rfl)) (nx_un (fun _ => rfl)))))
  (e_Tok2
  (e_Lok (e_st (I := eI) (er_ldc2 (ix := 324) (z := (-8000)) (v := (-8000)) (x_dk dn_278_0_0_ok 2 rfl) (in_t11 (List.mem_of_getElem? (i := 16) rfl) rfl) (by decide)) (nx_push (Or.inl rfl))))
  (e_Lok (e_st (I := eI) (er_ldc2 (ix := 326) (z := 8000) (v := 8000) (x_dk dn_278_0_0_ok 3 rfl) (in_t11 (List.mem_of_getElem? (i := 17) rfl) rfl) (by decide)) (nx_push (Or.inl rfl))))))
  (e_Tok2
  (e_Tok2
  (e_Lok (lk_12_301 ho_278 (x_dk dn_278_0_0_ok 4 rfl)))
  (e_Lok (e_st (I := eI) (er_ifeq (off := 42) (tg := 53) (x_dk dn_278_0_0_ok 5 rfl) (by decide)) nx_if1)))
  (e_Tok2
  (e_Lok (ld_iload_n_2 (x_dk dn_278_0_0_ok 6 rfl)))
  (e_Tok2
  (e_Lok (e_st (I := eI) (er_i2l (x_dk dn_278_0_0_ok 7 rfl)) (nx_un (fun _ => rfl))))
  (e_Lok (e_st (I := eI) (er_ldc2 (ix := 324) (z := (-8000)) (v := (-8000)) (x_dk dn_278_0_0_ok 8 rfl) (in_t11 (List.mem_of_getElem? (i := 16) rfl) rfl) (by decide)) (nx_push (Or.inl rfl))))))))
  (e_Tok2
  (e_Tok2
  (e_Tok2
  (e_Lok (e_st (I := eI) (er_ldc2 (ix := 326) (z := 8000) (v := 8000) (x_dk dn_278_0_0_ok 9 rfl) (in_t11 (List.mem_of_getElem? (i := 17) rfl) rfl) (by decide)) (nx_push (Or.inl rfl))))
  (e_Lok (lk_12_301 ho_278 (x_dk dn_278_0_0_ok 10 rfl))))
  (e_Tok2
  (e_Lok (e_st (I := eI) (er_ifeq (off := 28) (tg := 53) (x_dk dn_278_0_0_ok 11 rfl) (by decide)) nx_if1))
  (e_Lok (ld_iload_n_3 (x_dk dn_278_0_0_ok 12 rfl)))))
  (e_Tok2
  (e_Tok2
  (e_Lok (e_st (I := eI) (er_i2l (x_dk dn_278_0_0_ok 13 rfl)) (nx_un (fun _ => rfl))))
  (e_Lok (ps_lconst_0 (x_dk dn_278_0_0_ok 14 rfl))))
  (e_Tok2
  (e_Lok (e_st (I := eI) (er_ldc2 (ix := 328) (z := 4095) (v := 4095) (x_dk dn_278_0_0_ok 15 rfl) (in_t11 (List.mem_of_getElem? (i := 18) rfl) rfl) (by decide)) (nx_push (Or.inl rfl))))
  (e_Tok2
  (e_Lok (lk_12_301 ho_278 (x_dk dn_278_0_0_ok 16 rfl)))
  (e_Lok (e_st (I := eI) (er_ifeq (off := 16) (tg := 53) (x_dk dn_278_0_0_ok 17 rfl) (by decide)) nx_if1)))))))
  (e_Tok2
  (e_Tok2
  (e_Tok2
  (e_Tok2
  (e_Lok (ld_iload_4 (x_dk dn_278_0_0_ok 18 rfl)))
  (e_Lok (e_st (I := eI) (er_i2l (x_dk dn_278_0_0_ok 19 rfl)) (nx_un (fun _ => rfl)))))
  (e_Tok2
  (e_Lok (ps_lconst_0 (x_dk dn_278_0_0_ok 20 rfl)))
  (e_Lok (e_st (I := eI) (er_ldc2 (ix := 330) (z := 800) (v := 800) (x_dk dn_278_0_0_ok 21 rfl) (in_t11 (List.mem_of_getElem? (i := 19) rfl) rfl) (by decide)) (nx_push (Or.inl rfl))))))
  (e_Tok2
  (e_Tok2
  (e_Lok (lk_12_301 ho_278 (x_dk dn_278_0_0_ok 22 rfl)))
  (e_Lok (e_st (I := eI) (er_ifne (off := 5) (tg := 55) (x_dk dn_278_0_0_ok 23 rfl) (by decide)) nx_if1)))
  (e_Tok2
  (e_Lok (ps_iconst_m1 (x_dk dn_278_0_0_ok 24 rfl)))
  (e_Tok2
  (e_Lok (e_rt (I := eI) (k := 1) ⟨(x_dk dn_278_0_1_ok 0 rfl), rfl⟩))
  (e_Lok (ld_aload_n_0 (x_dk dn_278_0_1_ok 1 rfl)))))))
  (e_Tok2
  (e_Tok2
  (e_Tok2
  (e_Lok (lk_12_265g ho_278 (x_dk dn_278_0_1_ok 2 rfl)))
  (e_Lok (e_st (I := eI) (er_ifeq (off := 6) (tg := 65) (x_dk dn_278_0_1_ok 3 rfl) (by decide)) nx_if1)))
  (e_Tok2
  (e_Lok (ps_bipush_m2 (x_dk dn_278_0_1_ok 4 rfl)))
  (e_Lok (e_rt (I := eI) (k := 1) ⟨(x_dk dn_278_0_1_ok 5 rfl), rfl⟩))))
  (e_Tok2
  (e_Tok2
  (e_Lok (ld_aload_n_0 (x_dk dn_278_0_1_ok 6 rfl)))
  (e_Lok (lk_12_269g ho_278 (x_dk dn_278_0_1_ok 7 rfl))))
  (e_Tok2
  (e_Lok (ps_iconst_4 (x_dk dn_278_0_1_ok 8 rfl)))
  (e_Tok2
  (e_Lok (e_st (I := eI) (er_icmpne (off := 6) (tg := 76) (x_dk dn_278_0_1_ok 9 rfl) (by decide)) nx_if2))
  (e_Lok (ps_bipush_m3 (x_dk dn_278_0_1_ok 10 rfl)))))))))
def te_278_36 : Nat → eE := (e_T 104 (e_T 87 (e_T 80 (e_T 76 (e_T 75 (e_L 75 (1, e_nof, 1, 0)) (e_L 76 (0, ei_load 0 2 77, 0, 0))) (e_T 77 (e_L 77 (0, ei_getf eft elay 12 11 80, 0, 0)) (e_L 80 (0, ei_load 0 2 81, 0, 0)))) (e_T 84 (e_T 81 (e_L 81 (0, ei_getf eft elay 12 10 84, 0, 0)) (e_L 84 (0, ei_load 1 0 85, 0, 0))) (e_T 85 (e_L 85 (0, ei_ast elay false 86, 0, 0)) (e_T 86 (e_L 86 (0, ei_load 0 2 87, 0, 0)) (e_L 87 (0, ei_getf eft elay 12 12 90, 0, 0)))))) (e_T 95 (e_T 91 (e_T 90 (e_L 90 (0, ei_load 0 2 91, 0, 0)) (e_L 91 (0, ei_getf eft elay 12 10 94, 0, 0))) (e_T 94 (e_L 94 (0, ei_load 2 0 95, 0, 0)) (e_L 95 (0, ei_ast elay false 96, 0, 0)))) (e_T 97 (e_T 96 (e_L 96 (0, ei_load 0 2 97, 0, 0)) (e_L 97 (0, ei_getf eft elay 12 13 100, 0, 0))) (e_T 100 (e_L 100 (0, ei_load 0 2 101, 0, 0)) (e_T 101 (e_L 101 (0, ei_getf eft elay 12 10 104, 0, 0)) (e_L 104 (0, ei_load 3 0 105, 0, 0))))))) (e_T 118 (e_T 110 (e_T 106 (e_T 105 (e_L 105 (0, ei_ast elay false 106, 0, 0)) (e_L 106 (0, ei_load 0 2 107, 0, 0))) (e_T 107 (e_L 107 (0, ei_getf eft elay 12 14 110, 0, 0)) (e_L 110 (0, ei_load 0 2 111, 0, 0)))) (e_T 114 (e_T 111 (e_L 111 (0, ei_getf eft elay 12 10 114, 0, 0)) (e_L 114 (0, ei_load 4 0 116, 0, 0))) (e_T 116 (e_L 116 (0, ei_ast elay false 117, 0, 0)) (e_T 117 (e_L 117 (0, ei_load 0 2 118, 0, 0)) (e_L 118 (0, ei_stk ef_dup 119, 0, 0)))))) (e_T 124 (e_T 122 (e_T 119 (e_L 119 (0, ei_getf eft elay 12 10 122, 0, 0)) (e_L 122 (0, ei_push (0, 1) 123, 0, 0))) (e_T 123 (e_L 123 (0, ei_bin eF_add 124, 0, 0)) (e_L 124 (0, ei_putf eft elay 12 10 0 127, 0, 0)))) (e_T 128 (e_T 127 (e_L 127 (0, ei_load 0 2 128, 0, 0)) (e_L 128 (0, ei_getf eft elay 12 10 131, 0, 0))) (e_T 131 (e_L 131 (0, ei_push (0, 1) 132, 0, 0)) (e_T 132 (e_L 132 (0, ei_bin eF_sub 133, 0, 0)) (e_L 133 (1, e_nof, 1, 0))))))))
set_option maxRecDepth 20000 in
set_option maxHeartbeats 4000000 in
theorem te_278_36_ok : ∀ pc, e_EOq eft cls elay eI n_278 pc (te_278_36 pc) :=
  (e_Tok2
  (e_Tok2
  (e_Tok2
  (e_Tok2
  (e_Tok2
  (e_Lok (e_rt (I := eI) (k := 1) ⟨(x_dk dn_278_0_1_ok 11 rfl), rfl⟩))
  (e_Lok (ld_aload_n_0 (x_dk dn_278_0_1_ok 12 rfl))))
  (e_Tok2
  (e_Lok (lk_12_31g ho_278 (x_dk dn_278_0_1_ok 13 rfl)))
  (e_Lok (ld_aload_n_0 (x_dk dn_278_0_1_ok 14 rfl)))))
  (e_Tok2
  (e_Tok2
  (e_Lok (lk_12_269g ho_278 (x_dk dn_278_0_1_ok 15 rfl)))
  (e_Lok (ld_iload_n_1 (x_dk dn_278_0_1_ok 16 rfl))))
  (e_Tok2
  (e_Lok (sm_iastore (x_dk dn_278_0_1_ok 17 rfl)))
  (e_Tok2
  (e_Lok (ld_aload_n_0 (x_dk dn_278_0_1_ok 18 rfl)))
  (e_Lok (lk_12_34g ho_278 (x_dk dn_278_0_1_ok 19 rfl)))))))
  (e_Tok2
  (e_Tok2
  (e_Tok2
  (e_Lok (ld_aload_n_0 (x_dk dn_278_0_1_ok 20 rfl)))
  (e_Lok (lk_12_269g ho_278 (x_dk dn_278_0_1_ok 21 rfl))))
  (e_Tok2
  (e_Lok (ld_iload_n_2 (x_dk dn_278_0_1_ok 22 rfl)))
  (e_Lok (sm_iastore (x_dk dn_278_0_1_ok 23 rfl)))))
  (e_Tok2
  (e_Tok2
  (e_Lok (ld_aload_n_0 (x_dk dn_278_0_1_ok 24 rfl)))
  (e_Lok (lk_12_37g ho_278 (x_dk dn_278_0_2_ok 0 rfl))))
  (e_Tok2
  (e_Lok (ld_aload_n_0 (x_dk dn_278_0_2_ok 1 rfl)))
  (e_Tok2
  (e_Lok (lk_12_269g ho_278 (x_dk dn_278_0_2_ok 2 rfl)))
  (e_Lok (ld_iload_n_3 (x_dk dn_278_0_2_ok 3 rfl))))))))
  (e_Tok2
  (e_Tok2
  (e_Tok2
  (e_Tok2
  (e_Lok (sm_iastore (x_dk dn_278_0_2_ok 4 rfl)))
  (e_Lok (ld_aload_n_0 (x_dk dn_278_0_2_ok 5 rfl))))
  (e_Tok2
  (e_Lok (lk_12_40g ho_278 (x_dk dn_278_0_2_ok 6 rfl)))
  (e_Lok (ld_aload_n_0 (x_dk dn_278_0_2_ok 7 rfl)))))
  (e_Tok2
  (e_Tok2
  (e_Lok (lk_12_269g ho_278 (x_dk dn_278_0_2_ok 8 rfl)))
  (e_Lok (ld_iload_4 (x_dk dn_278_0_2_ok 9 rfl))))
  (e_Tok2
  (e_Lok (sm_iastore (x_dk dn_278_0_2_ok 10 rfl)))
  (e_Tok2
  (e_Lok (ld_aload_n_0 (x_dk dn_278_0_2_ok 11 rfl)))
  (e_Lok (e_st (I := eI) (er_dup (x_dk dn_278_0_2_ok 12 rfl)) (nx_stk bf_dup)))))))
  (e_Tok2
  (e_Tok2
  (e_Tok2
  (e_Lok (lk_12_269g ho_278 (x_dk dn_278_0_2_ok 13 rfl)))
  (e_Lok (ps_iconst_1 (x_dk dn_278_0_2_ok 14 rfl))))
  (e_Tok2
  (e_Lok (sm_iadd (x_dk dn_278_0_2_ok 15 rfl)))
  (e_Lok (lk_12_269p ho_278 (x_dk dn_278_0_2_ok 16 rfl)))))
  (e_Tok2
  (e_Tok2
  (e_Lok (ld_aload_n_0 (x_dk dn_278_0_2_ok 17 rfl)))
  (e_Lok (lk_12_269g ho_278 (x_dk dn_278_0_2_ok 18 rfl))))
  (e_Tok2
  (e_Lok (ps_iconst_1 (x_dk dn_278_0_2_ok 19 rfl)))
  (e_Tok2
  (e_Lok (sm_isub (x_dk dn_278_0_2_ok 20 rfl)))
  (e_Lok (e_rt (I := eI) (k := 1) ⟨(x_dk dn_278_0_2_ok 21 rfl), rfl⟩))))))))
def te_278 : Nat → eE := (e_T 73 te_278_0 te_278_36)
theorem te_278_ok : ∀ pc, e_EOq eft cls elay eI n_278 pc (te_278 pc) := (e_Tok2 (te_278_0_ok) (te_278_36_ok))
theorem ho_279 : (xm_y n_279).cls = "RobotCellHouseModel" := rfl
def dn_279_0_0 : List (Nat × Instr × Nat) := [(0, .aload_n 0, 1), (1, .iload_n 1, 1), (2, .invokevirtual 305, 3), (5, .ifCond .eq 13, 3), (8, .iload_n 2, 1), (9, .i2l, 1), (10, .lconst 0, 1), (11, .lconst 1, 1), (12, .invokestatic 301, 3), (15, .ifCond .ne 5, 3), (18, .iconst (-1), 1), (19, .ireturn, 1), (20, .iload_n 2, 1), (21, .ifCond .ne 9, 3), (24, .ldc_w 332, 3), (27, .goto 6, 3), (30, .sipush 8000, 3), (33, .istore 6, 2), (35, .iload_n 3, 1), (36, .i2l, 1), (37, .iload 6, 2), (39, .ineg, 1), (40, .i2l, 1), (41, .lconst 0, 1), (42, .invokestatic 301, 3)]
set_option maxRecDepth 20000 in
theorem dn_279_0_0_ok : dn_279_0_0.all (fun q => decide (decode (xm_b n_279) q.1 = .ok (q.2.1, q.2.2))) = true := xa_g_ok (by decide +kernel)
def dn_279_0_1 : List (Nat × Instr × Nat) := [(45, .ifCond .eq 29, 3), (48, .iload 4, 2), (50, .i2l, 1), (51, .lconst 0, 1), (52, .iload 6, 2), (54, .i2l, 1), (55, .invokestatic 301, 3), (58, .ifCond .eq 16, 3), (61, .iload 5, 2), (63, .i2l, 1), (64, .lconst 0, 1), (65, .ldc2_w 326, 3), (68, .invokestatic 301, 3), (71, .ifCond .ne 5, 3), (74, .iconst (-1), 1), (75, .ireturn, 1), (76, .iload 5, 2), (78, .iload_n 2, 1), (79, .iconst 1, 1), (80, .if_icmp .ne 8, 3), (83, .iload 4, 2), (85, .goto 4, 3), (88, .iconst 0, 1), (89, .iadd, 1), (90, .istore 7, 2)]
set_option maxRecDepth 20000 in
theorem dn_279_0_1_ok : dn_279_0_1.all (fun q => decide (decode (xm_b n_279) q.1 = .ok (q.2.1, q.2.2))) = true := xa_g_ok (by decide +kernel)
def dn_279_0_2 : List (Nat × Instr × Nat) := [(92, .iconst 0, 1), (93, .istore 8, 2), (95, .iload 8, 2), (97, .aload_n 0, 1), (98, .getfield 43, 3), (101, .iload_n 1, 1), (102, .iaload, 1), (103, .if_icmp .ge 59, 3), (106, .iload 7, 2), (108, .aload_n 0, 1), (109, .getfield 61, 3), (112, .bipush 6, 2), (114, .iload_n 1, 1), (115, .imul, 1), (116, .iload 8, 2), (118, .iadd, 1), (119, .iaload, 1), (120, .aload_n 0, 1), (121, .getfield 46, 3), (124, .bipush 6, 2), (126, .iload_n 1, 1), (127, .imul, 1), (128, .iload 8, 2), (130, .iadd, 1), (131, .iaload, 1)]
set_option maxRecDepth 20000 in
theorem dn_279_0_2_ok : dn_279_0_2.all (fun q => decide (decode (xm_b n_279) q.1 = .ok (q.2.1, q.2.2))) = true := xa_g_ok (by decide +kernel)
def dn_279_0_3 : List (Nat × Instr × Nat) := [(132, .iconst 1, 1), (133, .if_icmp .ne 7, 3), (136, .iconst 0, 1), (137, .goto 15, 3), (140, .aload_n 0, 1), (141, .getfield 52, 3), (144, .bipush 6, 2), (146, .iload_n 1, 1), (147, .imul, 1), (148, .iload 8, 2), (150, .iadd, 1), (151, .iaload, 1), (152, .iadd, 1), (153, .iadd, 1), (154, .istore 7, 2), (156, .iinc 8 1, 3), (159, .goto (-64), 3), (162, .iload_n 2, 1), (163, .iconst 1, 1), (164, .if_icmp .ne 10, 3), (167, .iload 5, 2), (169, .iload_n 3, 1), (170, .iadd, 1), (171, .ifCond .lt 11, 3), (174, .iload 7, 2)]
set_option maxRecDepth 20000 in
theorem dn_279_0_3_ok : dn_279_0_3.all (fun q => decide (decode (xm_b n_279) q.1 = .ok (q.2.1, q.2.2))) = true := xa_g_ok (by decide +kernel)
def dn_279_1_0 : List (Nat × Instr × Nat) := [(176, .sipush 8000, 3), (179, .if_icmp .le 5, 3), (182, .iconst (-1), 1), (183, .ireturn, 1), (184, .aload_n 0, 1), (185, .getfield 265, 3), (188, .ifCond .eq 6, 3), (191, .bipush (-2), 2), (193, .ireturn, 1), (194, .aload_n 0, 1), (195, .getfield 43, 3), (198, .iload_n 1, 1), (199, .iaload, 1), (200, .bipush 6, 2), (202, .if_icmp .ne 6, 3), (205, .bipush (-3), 2), (207, .ireturn, 1), (208, .bipush 6, 2), (210, .iload_n 1, 1), (211, .imul, 1), (212, .aload_n 0, 1), (213, .getfield 43, 3), (216, .iload_n 1, 1), (217, .iaload, 1), (218, .iadd, 1)]
set_option maxRecDepth 20000 in
theorem dn_279_1_0_ok : dn_279_1_0.all (fun q => decide (decode (xm_b n_279) q.1 = .ok (q.2.1, q.2.2))) = true := xa_g_ok (by decide +kernel)
def dn_279_1_1 : List (Nat × Instr × Nat) := [(219, .istore 8, 2), (221, .aload_n 0, 1), (222, .getfield 46, 3), (225, .iload 8, 2), (227, .iconst 1, 1), (228, .iload_n 2, 1), (229, .isub, 1), (230, .iastore, 1), (231, .aload_n 0, 1), (232, .getfield 49, 3), (235, .iload 8, 2), (237, .iload_n 3, 1), (238, .iastore, 1), (239, .aload_n 0, 1), (240, .getfield 52, 3), (243, .iload 8, 2), (245, .iload 4, 2), (247, .iastore, 1), (248, .aload_n 0, 1), (249, .getfield 55, 3), (252, .iload 8, 2), (254, .bipush 100, 2), (256, .iastore, 1), (257, .aload_n 0, 1), (258, .getfield 58, 3)]
set_option maxRecDepth 20000 in
theorem dn_279_1_1_ok : dn_279_1_1.all (fun q => decide (decode (xm_b n_279) q.1 = .ok (q.2.1, q.2.2))) = true := xa_g_ok (by decide +kernel)
def dn_279_1_2 : List (Nat × Instr × Nat) := [(261, .iload 8, 2), (263, .bipush 10, 2), (265, .iastore, 1), (266, .aload_n 0, 1), (267, .getfield 61, 3), (270, .iload 8, 2), (272, .iload 5, 2), (274, .iastore, 1), (275, .aload_n 0, 1), (276, .getfield 64, 3), (279, .iload 8, 2), (281, .iconst 0, 1), (282, .iastore, 1), (283, .aload_n 0, 1), (284, .getfield 43, 3), (287, .iload_n 1, 1), (288, .dup2, 1), (289, .iaload, 1), (290, .iconst 1, 1), (291, .iadd, 1), (292, .iastore, 1), (293, .aload_n 0, 1), (294, .getfield 43, 3), (297, .iload_n 1, 1), (298, .iaload, 1)]
set_option maxRecDepth 20000 in
theorem dn_279_1_2_ok : dn_279_1_2.all (fun q => decide (decode (xm_b n_279) q.1 = .ok (q.2.1, q.2.2))) = true := xa_g_ok (by decide +kernel)
def dn_279_1_3 : List (Nat × Instr × Nat) := [(299, .iconst 1, 1), (300, .isub, 1), (301, .ireturn, 1)]
set_option maxRecDepth 20000 in
theorem dn_279_1_3_ok : dn_279_1_3.all (fun q => decide (decode (xm_b n_279) q.1 = .ok (q.2.1, q.2.2))) = true := xa_g_ok (by decide +kernel)
def te_279_0 : Nat → eE := (e_T 18 (e_T 8 (e_T 1 (e_T 0 (e_L 0 (0, ei_load 0 2 1, 0, 0)) (e_L 1 (0, ei_load 1 0 2, 0, 0))) (e_T 2 (e_L 2 (2, e_nof, 270, 2)) (e_T 5 (e_L 5 (0, ei_if1 0 18 8, 0, 0)) (e_L 8 (0, ei_load 2 0 9, 0, 0))))) (e_T 11 (e_T 9 (e_L 9 (0, ei_un (fun x => (4, x)) 10, 0, 0)) (e_T 10 (e_L 10 (0, ei_push (4, 0) 11, 0, 0)) (e_L 11 (0, ei_push (4, 1) 12, 0, 0)))) (e_T 12 (e_L 12 (2, e_nof, 266, 3)) (e_T 15 (e_L 15 (0, ei_if1 1 20 18, 0, 0)) (e_L 18 (0, ei_push (0, (-1)) 19, 0, 0)))))) (e_T 27 (e_T 20 (e_T 19 (e_L 19 (1, e_nof, 1, 0)) (e_L 20 (0, ei_load 2 0 21, 0, 0))) (e_T 21 (e_L 21 (0, ei_if1 1 30 24, 0, 0)) (e_T 24 (e_L 24 (0, ei_push (0, 100000) 27, 0, 0)) (e_L 27 (0, ei_goto 33, 0, 0))))) (e_T 35 (e_T 30 (e_L 30 (0, ei_push (0, 8000) 33, 0, 0)) (e_T 33 (e_L 33 (0, ei_stor 6 0 35, 0, 0)) (e_L 35 (0, ei_load 3 0 36, 0, 0)))) (e_T 36 (e_L 36 (0, ei_un (fun x => (4, x)) 37, 0, 0)) (e_T 37 (e_L 37 (0, ei_load 6 0 39, 0, 0)) (e_L 39 (0, ei_un (fun x => (0, e32 (-x))) 40, 0, 0)))))))
set_option maxRecDepth 20000 in
set_option maxHeartbeats 4000000 in
theorem te_279_0_ok : ∀ pc, e_EOq eft cls elay eI n_279 pc (te_279_0 pc) :=
  (e_Tok2
  (e_Tok2
  (e_Tok2
  (e_Tok2
  (e_Lok (ld_aload_n_0 (x_dk dn_279_0_0_ok 0 rfl)))
  (e_Lok (ld_iload_n_1 (x_dk dn_279_0_0_ok 1 rfl))))
  (e_Tok2
  (e_Lok (lk_12_305 ho_279 (x_dk dn_279_0_0_ok 2 rfl)))
  (e_Tok2
  (e_Lok (e_st (I := eI) (er_ifeq (off := 13) (tg := 18) (x_dk dn_279_0_0_ok 3 rfl) (by decide)) nx_if1))
  (e_Lok (ld_iload_n_2 (x_dk dn_279_0_0_ok 4 rfl))))))
  (e_Tok2
  (e_Tok2
  (e_Lok (e_st (I := eI) (er_i2l (x_dk dn_279_0_0_ok 5 rfl)) (nx_un (fun _ => rfl))))
  (e_Tok2
  (e_Lok (ps_lconst_0 (x_dk dn_279_0_0_ok 6 rfl)))
  (e_Lok (ps_lconst_1 (x_dk dn_279_0_0_ok 7 rfl)))))
  (e_Tok2
  (e_Lok (lk_12_301 ho_279 (x_dk dn_279_0_0_ok 8 rfl)))
  (e_Tok2
  (e_Lok (e_st (I := eI) (er_ifne (off := 5) (tg := 20) (x_dk dn_279_0_0_ok 9 rfl) (by decide)) nx_if1))
  (e_Lok (ps_iconst_m1 (x_dk dn_279_0_0_ok 10 rfl)))))))
  (e_Tok2
  (e_Tok2
  (e_Tok2
  (e_Lok (e_rt (I := eI) (k := 1) ⟨(x_dk dn_279_0_0_ok 11 rfl), rfl⟩))
  (e_Lok (ld_iload_n_2 (x_dk dn_279_0_0_ok 12 rfl))))
  (e_Tok2
  (e_Lok (e_st (I := eI) (er_ifne (off := 9) (tg := 30) (x_dk dn_279_0_0_ok 13 rfl) (by decide)) nx_if1))
  (e_Tok2
  (e_Lok (e_st (I := eI) (er_ldcw (ix := 332) (z := 100000) (v := 100000) (x_dk dn_279_0_0_ok 14 rfl) (in_t11 (List.mem_of_getElem? (i := 28) rfl) rfl) (by decide)) (nx_push (Or.inl rfl))))
  (e_Lok (e_st (I := eI) (er_goto (off := 6) (tg := 33) (x_dk dn_279_0_0_ok 15 rfl) (by decide)) nx_goto)))))
  (e_Tok2
  (e_Tok2
  (e_Lok (ps_sipush_8000 (x_dk dn_279_0_0_ok 16 rfl)))
  (e_Tok2
  (e_Lok (e_st (I := eI) (er_istore (i := 6) (x_dk dn_279_0_0_ok 17 rfl) (by decide +kernel)) nx_stor))
  (e_Lok (ld_iload_n_3 (x_dk dn_279_0_0_ok 18 rfl)))))
  (e_Tok2
  (e_Lok (e_st (I := eI) (er_i2l (x_dk dn_279_0_0_ok 19 rfl)) (nx_un (fun _ => rfl))))
  (e_Tok2
  (e_Lok (ld_iload_6 (x_dk dn_279_0_0_ok 20 rfl)))
  (e_Lok (e_st (I := eI) (er_ineg (x_dk dn_279_0_0_ok 21 rfl)) (nx_un (fun _ => rfl)))))))))
def te_279_22 : Nat → eE := (e_T 58 (e_T 48 (e_T 41 (e_T 40 (e_L 40 (0, ei_un (fun x => (4, x)) 41, 0, 0)) (e_L 41 (0, ei_push (4, 0) 42, 0, 0))) (e_T 42 (e_L 42 (2, e_nof, 266, 3)) (e_T 45 (e_L 45 (0, ei_if1 0 74 48, 0, 0)) (e_L 48 (0, ei_load 4 0 50, 0, 0))))) (e_T 52 (e_T 50 (e_L 50 (0, ei_un (fun x => (4, x)) 51, 0, 0)) (e_T 51 (e_L 51 (0, ei_push (4, 0) 52, 0, 0)) (e_L 52 (0, ei_load 6 0 54, 0, 0)))) (e_T 54 (e_L 54 (0, ei_un (fun x => (4, x)) 55, 0, 0)) (e_T 55 (e_L 55 (2, e_nof, 266, 3)) (e_L 58 (0, ei_if1 0 74 61, 0, 0)))))) (e_T 68 (e_T 63 (e_T 61 (e_L 61 (0, ei_load 5 0 63, 0, 0)) (e_L 63 (0, ei_un (fun x => (4, x)) 64, 0, 0))) (e_T 64 (e_L 64 (0, ei_push (4, 0) 65, 0, 0)) (e_T 65 (e_L 65 (0, ei_push (4, 8000) 68, 0, 0)) (e_L 68 (2, e_nof, 266, 3))))) (e_T 75 (e_T 71 (e_L 71 (0, ei_if1 1 76 74, 0, 0)) (e_T 74 (e_L 74 (0, ei_push (0, (-1)) 75, 0, 0)) (e_L 75 (1, e_nof, 1, 0)))) (e_T 76 (e_L 76 (0, ei_load 5 0 78, 0, 0)) (e_T 78 (e_L 78 (0, ei_load 2 0 79, 0, 0)) (e_L 79 (0, ei_push (0, 1) 80, 0, 0)))))))
set_option maxRecDepth 20000 in
set_option maxHeartbeats 4000000 in
theorem te_279_22_ok : ∀ pc, e_EOq eft cls elay eI n_279 pc (te_279_22 pc) :=
  (e_Tok2
  (e_Tok2
  (e_Tok2
  (e_Tok2
  (e_Lok (e_st (I := eI) (er_i2l (x_dk dn_279_0_0_ok 22 rfl)) (nx_un (fun _ => rfl))))
  (e_Lok (ps_lconst_0 (x_dk dn_279_0_0_ok 23 rfl))))
  (e_Tok2
  (e_Lok (lk_12_301 ho_279 (x_dk dn_279_0_0_ok 24 rfl)))
  (e_Tok2
  (e_Lok (e_st (I := eI) (er_ifeq (off := 29) (tg := 74) (x_dk dn_279_0_1_ok 0 rfl) (by decide)) nx_if1))
  (e_Lok (ld_iload_4 (x_dk dn_279_0_1_ok 1 rfl))))))
  (e_Tok2
  (e_Tok2
  (e_Lok (e_st (I := eI) (er_i2l (x_dk dn_279_0_1_ok 2 rfl)) (nx_un (fun _ => rfl))))
  (e_Tok2
  (e_Lok (ps_lconst_0 (x_dk dn_279_0_1_ok 3 rfl)))
  (e_Lok (ld_iload_6 (x_dk dn_279_0_1_ok 4 rfl)))))
  (e_Tok2
  (e_Lok (e_st (I := eI) (er_i2l (x_dk dn_279_0_1_ok 5 rfl)) (nx_un (fun _ => rfl))))
  (e_Tok2
  (e_Lok (lk_12_301 ho_279 (x_dk dn_279_0_1_ok 6 rfl)))
  (e_Lok (e_st (I := eI) (er_ifeq (off := 16) (tg := 74) (x_dk dn_279_0_1_ok 7 rfl) (by decide)) nx_if1))))))
  (e_Tok2
  (e_Tok2
  (e_Tok2
  (e_Lok (ld_iload_5 (x_dk dn_279_0_1_ok 8 rfl)))
  (e_Lok (e_st (I := eI) (er_i2l (x_dk dn_279_0_1_ok 9 rfl)) (nx_un (fun _ => rfl)))))
  (e_Tok2
  (e_Lok (ps_lconst_0 (x_dk dn_279_0_1_ok 10 rfl)))
  (e_Tok2
  (e_Lok (e_st (I := eI) (er_ldc2 (ix := 326) (z := 8000) (v := 8000) (x_dk dn_279_0_1_ok 11 rfl) (in_t11 (List.mem_of_getElem? (i := 17) rfl) rfl) (by decide)) (nx_push (Or.inl rfl))))
  (e_Lok (lk_12_301 ho_279 (x_dk dn_279_0_1_ok 12 rfl))))))
  (e_Tok2
  (e_Tok2
  (e_Lok (e_st (I := eI) (er_ifne (off := 5) (tg := 76) (x_dk dn_279_0_1_ok 13 rfl) (by decide)) nx_if1))
  (e_Tok2
  (e_Lok (ps_iconst_m1 (x_dk dn_279_0_1_ok 14 rfl)))
  (e_Lok (e_rt (I := eI) (k := 1) ⟨(x_dk dn_279_0_1_ok 15 rfl), rfl⟩))))
  (e_Tok2
  (e_Lok (ld_iload_5 (x_dk dn_279_0_1_ok 16 rfl)))
  (e_Tok2
  (e_Lok (ld_iload_n_2 (x_dk dn_279_0_1_ok 17 rfl)))
  (e_Lok (ps_iconst_1 (x_dk dn_279_0_1_ok 18 rfl))))))))
def te_279_44 : Nat → eE := (e_T 98 (e_T 89 (e_T 83 (e_T 80 (e_L 80 (0, ei_if2 1 88 83, 0, 0)) (e_L 83 (0, ei_load 4 0 85, 0, 0))) (e_T 85 (e_L 85 (0, ei_goto 89, 0, 0)) (e_T 88 (e_L 88 (0, ei_push (0, 0) 89, 0, 0)) (e_L 89 (0, ei_bin eF_add 90, 0, 0))))) (e_T 93 (e_T 90 (e_L 90 (0, ei_stor 7 0 92, 0, 0)) (e_T 92 (e_L 92 (0, ei_push (0, 0) 93, 0, 0)) (e_L 93 (0, ei_stor 8 0 95, 0, 0)))) (e_T 95 (e_L 95 (0, ei_load 8 0 97, 0, 0)) (e_T 97 (e_L 97 (0, ei_load 0 2 98, 0, 0)) (e_L 98 (0, ei_getf eft elay 12 15 101, 0, 0)))))) (e_T 108 (e_T 102 (e_T 101 (e_L 101 (0, ei_load 1 0 102, 0, 0)) (e_L 102 (0, ei_ald elay false 103, 0, 0))) (e_T 103 (e_L 103 (0, ei_if2 3 162 106, 0, 0)) (e_T 106 (e_L 106 (0, ei_load 7 0 108, 0, 0)) (e_L 108 (0, ei_load 0 2 109, 0, 0))))) (e_T 114 (e_T 109 (e_L 109 (0, ei_getf eft elay 12 21 112, 0, 0)) (e_T 112 (e_L 112 (0, ei_push (0, 6) 114, 0, 0)) (e_L 114 (0, ei_load 1 0 115, 0, 0)))) (e_T 115 (e_L 115 (0, ei_bin eF_mul 116, 0, 0)) (e_T 116 (e_L 116 (0, ei_load 8 0 118, 0, 0)) (e_L 118 (0, ei_bin eF_add 119, 0, 0)))))))
set_option maxRecDepth 20000 in
set_option maxHeartbeats 4000000 in
theorem te_279_44_ok : ∀ pc, e_EOq eft cls elay eI n_279 pc (te_279_44 pc) :=
  (e_Tok2
  (e_Tok2
  (e_Tok2
  (e_Tok2
  (e_Lok (e_st (I := eI) (er_icmpne (off := 8) (tg := 88) (x_dk dn_279_0_1_ok 19 rfl) (by decide)) nx_if2))
  (e_Lok (ld_iload_4 (x_dk dn_279_0_1_ok 20 rfl))))
  (e_Tok2
  (e_Lok (e_st (I := eI) (er_goto (off := 4) (tg := 89) (x_dk dn_279_0_1_ok 21 rfl) (by decide)) nx_goto))
  (e_Tok2
  (e_Lok (ps_iconst_0 (x_dk dn_279_0_1_ok 22 rfl)))
  (e_Lok (sm_iadd (x_dk dn_279_0_1_ok 23 rfl))))))
  (e_Tok2
  (e_Tok2
  (e_Lok (e_st (I := eI) (er_istore (i := 7) (x_dk dn_279_0_1_ok 24 rfl) (by decide +kernel)) nx_stor))
  (e_Tok2
  (e_Lok (ps_iconst_0 (x_dk dn_279_0_2_ok 0 rfl)))
  (e_Lok (e_st (I := eI) (er_istore (i := 8) (x_dk dn_279_0_2_ok 1 rfl) (by decide +kernel)) nx_stor))))
  (e_Tok2
  (e_Lok (ld_iload_8 (x_dk dn_279_0_2_ok 2 rfl)))
  (e_Tok2
  (e_Lok (ld_aload_n_0 (x_dk dn_279_0_2_ok 3 rfl)))
  (e_Lok (lk_12_43g ho_279 (x_dk dn_279_0_2_ok 4 rfl)))))))
  (e_Tok2
  (e_Tok2
  (e_Tok2
  (e_Lok (ld_iload_n_1 (x_dk dn_279_0_2_ok 5 rfl)))
  (e_Lok (sm_iaload (x_dk dn_279_0_2_ok 6 rfl))))
  (e_Tok2
  (e_Lok (e_st (I := eI) (er_icmpge (off := 59) (tg := 162) (x_dk dn_279_0_2_ok 7 rfl) (by decide)) nx_if2))
  (e_Tok2
  (e_Lok (ld_iload_7 (x_dk dn_279_0_2_ok 8 rfl)))
  (e_Lok (ld_aload_n_0 (x_dk dn_279_0_2_ok 9 rfl))))))
  (e_Tok2
  (e_Tok2
  (e_Lok (lk_12_61g ho_279 (x_dk dn_279_0_2_ok 10 rfl)))
  (e_Tok2
  (e_Lok (ps_bipush_6 (x_dk dn_279_0_2_ok 11 rfl)))
  (e_Lok (ld_iload_n_1 (x_dk dn_279_0_2_ok 12 rfl)))))
  (e_Tok2
  (e_Lok (sm_imul (x_dk dn_279_0_2_ok 13 rfl)))
  (e_Tok2
  (e_Lok (ld_iload_8 (x_dk dn_279_0_2_ok 14 rfl)))
  (e_Lok (sm_iadd (x_dk dn_279_0_2_ok 15 rfl))))))))
def te_279_66 : Nat → eE := (e_T 133 (e_T 126 (e_T 120 (e_T 119 (e_L 119 (0, ei_ald elay false 120, 0, 0)) (e_L 120 (0, ei_load 0 2 121, 0, 0))) (e_T 121 (e_L 121 (0, ei_getf eft elay 12 16 124, 0, 0)) (e_T 124 (e_L 124 (0, ei_push (0, 6) 126, 0, 0)) (e_L 126 (0, ei_load 1 0 127, 0, 0))))) (e_T 130 (e_T 127 (e_L 127 (0, ei_bin eF_mul 128, 0, 0)) (e_T 128 (e_L 128 (0, ei_load 8 0 130, 0, 0)) (e_L 130 (0, ei_bin eF_add 131, 0, 0)))) (e_T 131 (e_L 131 (0, ei_ald elay false 132, 0, 0)) (e_T 132 (e_L 132 (0, ei_push (0, 1) 133, 0, 0)) (e_L 133 (0, ei_if2 1 140 136, 0, 0)))))) (e_T 146 (e_T 140 (e_T 136 (e_L 136 (0, ei_push (0, 0) 137, 0, 0)) (e_T 137 (e_L 137 (0, ei_goto 152, 0, 0)) (e_L 140 (0, ei_load 0 2 141, 0, 0)))) (e_T 141 (e_L 141 (0, ei_getf eft elay 12 18 144, 0, 0)) (e_T 144 (e_L 144 (0, ei_push (0, 6) 146, 0, 0)) (e_L 146 (0, ei_load 1 0 147, 0, 0))))) (e_T 150 (e_T 147 (e_L 147 (0, ei_bin eF_mul 148, 0, 0)) (e_T 148 (e_L 148 (0, ei_load 8 0 150, 0, 0)) (e_L 150 (0, ei_bin eF_add 151, 0, 0)))) (e_T 151 (e_L 151 (0, ei_ald elay false 152, 0, 0)) (e_T 152 (e_L 152 (0, ei_bin eF_add 153, 0, 0)) (e_L 153 (0, ei_bin eF_add 154, 0, 0)))))))
set_option maxRecDepth 20000 in
set_option maxHeartbeats 4000000 in
theorem te_279_66_ok : ∀ pc, e_EOq eft cls elay eI n_279 pc (te_279_66 pc) :=
  (e_Tok2
  (e_Tok2
  (e_Tok2
  (e_Tok2
  (e_Lok (sm_iaload (x_dk dn_279_0_2_ok 16 rfl)))
  (e_Lok (ld_aload_n_0 (x_dk dn_279_0_2_ok 17 rfl))))
  (e_Tok2
  (e_Lok (lk_12_46g ho_279 (x_dk dn_279_0_2_ok 18 rfl)))
  (e_Tok2
  (e_Lok (ps_bipush_6 (x_dk dn_279_0_2_ok 19 rfl)))
  (e_Lok (ld_iload_n_1 (x_dk dn_279_0_2_ok 20 rfl))))))
  (e_Tok2
  (e_Tok2
  (e_Lok (sm_imul (x_dk dn_279_0_2_ok 21 rfl)))
  (e_Tok2
  (e_Lok (ld_iload_8 (x_dk dn_279_0_2_ok 22 rfl)))
  (e_Lok (sm_iadd (x_dk dn_279_0_2_ok 23 rfl)))))
  (e_Tok2
  (e_Lok (sm_iaload (x_dk dn_279_0_2_ok 24 rfl)))
  (e_Tok2
  (e_Lok (ps_iconst_1 (x_dk dn_279_0_3_ok 0 rfl)))
  (e_Lok (e_st (I := eI) (er_icmpne (off := 7) (tg := 140) (x_dk dn_279_0_3_ok 1 rfl) (by decide)) nx_if2))))))
  (e_Tok2
  (e_Tok2
  (e_Tok2
  (e_Lok (ps_iconst_0 (x_dk dn_279_0_3_ok 2 rfl)))
  (e_Tok2
  (e_Lok (e_st (I := eI) (er_goto (off := 15) (tg := 152) (x_dk dn_279_0_3_ok 3 rfl) (by decide)) nx_goto))
  (e_Lok (ld_aload_n_0 (x_dk dn_279_0_3_ok 4 rfl)))))
  (e_Tok2
  (e_Lok (lk_12_52g ho_279 (x_dk dn_279_0_3_ok 5 rfl)))
  (e_Tok2
  (e_Lok (ps_bipush_6 (x_dk dn_279_0_3_ok 6 rfl)))
  (e_Lok (ld_iload_n_1 (x_dk dn_279_0_3_ok 7 rfl))))))
  (e_Tok2
  (e_Tok2
  (e_Lok (sm_imul (x_dk dn_279_0_3_ok 8 rfl)))
  (e_Tok2
  (e_Lok (ld_iload_8 (x_dk dn_279_0_3_ok 9 rfl)))
  (e_Lok (sm_iadd (x_dk dn_279_0_3_ok 10 rfl)))))
  (e_Tok2
  (e_Lok (sm_iaload (x_dk dn_279_0_3_ok 11 rfl)))
  (e_Tok2
  (e_Lok (sm_iadd (x_dk dn_279_0_3_ok 12 rfl)))
  (e_Lok (sm_iadd (x_dk dn_279_0_3_ok 13 rfl))))))))
def te_279_89 : Nat → eE := (e_T 174 (e_T 163 (e_T 156 (e_T 154 (e_L 154 (0, ei_stor 7 0 156, 0, 0)) (e_L 156 (0, ei_inc 8 1 159, 0, 0))) (e_T 159 (e_L 159 (0, ei_goto 95, 0, 0)) (e_T 162 (e_L 162 (0, ei_load 2 0 163, 0, 0)) (e_L 163 (0, ei_push (0, 1) 164, 0, 0))))) (e_T 169 (e_T 164 (e_L 164 (0, ei_if2 1 174 167, 0, 0)) (e_T 167 (e_L 167 (0, ei_load 5 0 169, 0, 0)) (e_L 169 (0, ei_load 3 0 170, 0, 0)))) (e_T 170 (e_L 170 (0, ei_bin eF_add 171, 0, 0)) (e_T 171 (e_L 171 (0, ei_if1 2 182 174, 0, 0)) (e_L 174 (0, ei_load 7 0 176, 0, 0)))))) (e_T 184 (e_T 179 (e_T 176 (e_L 176 (0, ei_push (0, 8000) 179, 0, 0)) (e_L 179 (0, ei_if2 5 184 182, 0, 0))) (e_T 182 (e_L 182 (0, ei_push (0, (-1)) 183, 0, 0)) (e_T 183 (e_L 183 (1, e_nof, 1, 0)) (e_L 184 (0, ei_load 0 2 185, 0, 0))))) (e_T 191 (e_T 185 (e_L 185 (0, ei_getf eft elay 12 3 188, 0, 0)) (e_T 188 (e_L 188 (0, ei_if1 0 194 191, 0, 0)) (e_L 191 (0, ei_push (0, (-2)) 193, 0, 0)))) (e_T 193 (e_L 193 (1, e_nof, 1, 0)) (e_T 194 (e_L 194 (0, ei_load 0 2 195, 0, 0)) (e_L 195 (0, ei_getf eft elay 12 15 198, 0, 0)))))))
set_option maxRecDepth 20000 in
set_option maxHeartbeats 4000000 in
theorem te_279_89_ok : ∀ pc, e_EOq eft cls elay eI n_279 pc (te_279_89 pc) :=
  (e_Tok2
  (e_Tok2
  (e_Tok2
  (e_Tok2
  (e_Lok (e_st (I := eI) (er_istore (i := 7) (x_dk dn_279_0_3_ok 14 rfl) (by decide +kernel)) nx_stor))
  (e_Lok (e_st (I := eI) (er_iinc (i := 8) (n := 1) (x_dk dn_279_0_3_ok 15 rfl) (by decide +kernel) (by decide)) nx_inc)))
  (e_Tok2
  (e_Lok (e_st (I := eI) (er_goto (off := (-64)) (tg := 95) (x_dk dn_279_0_3_ok 16 rfl) (by decide)) nx_goto))
  (e_Tok2
  (e_Lok (ld_iload_n_2 (x_dk dn_279_0_3_ok 17 rfl)))
  (e_Lok (ps_iconst_1 (x_dk dn_279_0_3_ok 18 rfl))))))
  (e_Tok2
  (e_Tok2
  (e_Lok (e_st (I := eI) (er_icmpne (off := 10) (tg := 174) (x_dk dn_279_0_3_ok 19 rfl) (by decide)) nx_if2))
  (e_Tok2
  (e_Lok (ld_iload_5 (x_dk dn_279_0_3_ok 20 rfl)))
  (e_Lok (ld_iload_n_3 (x_dk dn_279_0_3_ok 21 rfl)))))
  (e_Tok2
  (e_Lok (sm_iadd (x_dk dn_279_0_3_ok 22 rfl)))
  (e_Tok2
  (e_Lok (e_st (I := eI) (er_iflt (off := 11) (tg := 182) (x_dk dn_279_0_3_ok 23 rfl) (by decide)) nx_if1))
  (e_Lok (ld_iload_7 (x_dk dn_279_0_3_ok 24 rfl)))))))
  (e_Tok2
  (e_Tok2
  (e_Tok2
  (e_Lok (ps_sipush_8000 (x_dk dn_279_1_0_ok 0 rfl)))
  (e_Lok (e_st (I := eI) (er_icmple (off := 5) (tg := 184) (x_dk dn_279_1_0_ok 1 rfl) (by decide)) nx_if2)))
  (e_Tok2
  (e_Lok (ps_iconst_m1 (x_dk dn_279_1_0_ok 2 rfl)))
  (e_Tok2
  (e_Lok (e_rt (I := eI) (k := 1) ⟨(x_dk dn_279_1_0_ok 3 rfl), rfl⟩))
  (e_Lok (ld_aload_n_0 (x_dk dn_279_1_0_ok 4 rfl))))))
  (e_Tok2
  (e_Tok2
  (e_Lok (lk_12_265g ho_279 (x_dk dn_279_1_0_ok 5 rfl)))
  (e_Tok2
  (e_Lok (e_st (I := eI) (er_ifeq (off := 6) (tg := 194) (x_dk dn_279_1_0_ok 6 rfl) (by decide)) nx_if1))
  (e_Lok (ps_bipush_m2 (x_dk dn_279_1_0_ok 7 rfl)))))
  (e_Tok2
  (e_Lok (e_rt (I := eI) (k := 1) ⟨(x_dk dn_279_1_0_ok 8 rfl), rfl⟩))
  (e_Tok2
  (e_Lok (ld_aload_n_0 (x_dk dn_279_1_0_ok 9 rfl)))
  (e_Lok (lk_12_43g ho_279 (x_dk dn_279_1_0_ok 10 rfl))))))))
def te_279_111 : Nat → eE := (e_T 213 (e_T 205 (e_T 199 (e_T 198 (e_L 198 (0, ei_load 1 0 199, 0, 0)) (e_L 199 (0, ei_ald elay false 200, 0, 0))) (e_T 200 (e_L 200 (0, ei_push (0, 6) 202, 0, 0)) (e_T 202 (e_L 202 (0, ei_if2 1 208 205, 0, 0)) (e_L 205 (0, ei_push (0, (-3)) 207, 0, 0))))) (e_T 210 (e_T 207 (e_L 207 (1, e_nof, 1, 0)) (e_T 208 (e_L 208 (0, ei_push (0, 6) 210, 0, 0)) (e_L 210 (0, ei_load 1 0 211, 0, 0)))) (e_T 211 (e_L 211 (0, ei_bin eF_mul 212, 0, 0)) (e_T 212 (e_L 212 (0, ei_load 0 2 213, 0, 0)) (e_L 213 (0, ei_getf eft elay 12 15 216, 0, 0)))))) (e_T 221 (e_T 217 (e_T 216 (e_L 216 (0, ei_load 1 0 217, 0, 0)) (e_L 217 (0, ei_ald elay false 218, 0, 0))) (e_T 218 (e_L 218 (0, ei_bin eF_add 219, 0, 0)) (e_T 219 (e_L 219 (0, ei_stor 8 0 221, 0, 0)) (e_L 221 (0, ei_load 0 2 222, 0, 0))))) (e_T 227 (e_T 222 (e_L 222 (0, ei_getf eft elay 12 16 225, 0, 0)) (e_T 225 (e_L 225 (0, ei_load 8 0 227, 0, 0)) (e_L 227 (0, ei_push (0, 1) 228, 0, 0)))) (e_T 228 (e_L 228 (0, ei_load 2 0 229, 0, 0)) (e_T 229 (e_L 229 (0, ei_bin eF_sub 230, 0, 0)) (e_L 230 (0, ei_ast elay false 231, 0, 0)))))))
set_option maxRecDepth 20000 in
set_option maxHeartbeats 4000000 in
theorem te_279_111_ok : ∀ pc, e_EOq eft cls elay eI n_279 pc (te_279_111 pc) :=
  (e_Tok2
  (e_Tok2
  (e_Tok2
  (e_Tok2
  (e_Lok (ld_iload_n_1 (x_dk dn_279_1_0_ok 11 rfl)))
  (e_Lok (sm_iaload (x_dk dn_279_1_0_ok 12 rfl))))
  (e_Tok2
  (e_Lok (ps_bipush_6 (x_dk dn_279_1_0_ok 13 rfl)))
  (e_Tok2
  (e_Lok (e_st (I := eI) (er_icmpne (off := 6) (tg := 208) (x_dk dn_279_1_0_ok 14 rfl) (by decide)) nx_if2))
  (e_Lok (ps_bipush_m3 (x_dk dn_279_1_0_ok 15 rfl))))))
  (e_Tok2
  (e_Tok2
  (e_Lok (e_rt (I := eI) (k := 1) ⟨(x_dk dn_279_1_0_ok 16 rfl), rfl⟩))
  (e_Tok2
  (e_Lok (ps_bipush_6 (x_dk dn_279_1_0_ok 17 rfl)))
  (e_Lok (ld_iload_n_1 (x_dk dn_279_1_0_ok 18 rfl)))))
  (e_Tok2
  (e_Lok (sm_imul (x_dk dn_279_1_0_ok 19 rfl)))
  (e_Tok2
  (e_Lok (ld_aload_n_0 (x_dk dn_279_1_0_ok 20 rfl)))
  (e_Lok (lk_12_43g ho_279 (x_dk dn_279_1_0_ok 21 rfl)))))))
  (e_Tok2
  (e_Tok2
  (e_Tok2
  (e_Lok (ld_iload_n_1 (x_dk dn_279_1_0_ok 22 rfl)))
  (e_Lok (sm_iaload (x_dk dn_279_1_0_ok 23 rfl))))
  (e_Tok2
  (e_Lok (sm_iadd (x_dk dn_279_1_0_ok 24 rfl)))
  (e_Tok2
  (e_Lok (e_st (I := eI) (er_istore (i := 8) (x_dk dn_279_1_1_ok 0 rfl) (by decide +kernel)) nx_stor))
  (e_Lok (ld_aload_n_0 (x_dk dn_279_1_1_ok 1 rfl))))))
  (e_Tok2
  (e_Tok2
  (e_Lok (lk_12_46g ho_279 (x_dk dn_279_1_1_ok 2 rfl)))
  (e_Tok2
  (e_Lok (ld_iload_8 (x_dk dn_279_1_1_ok 3 rfl)))
  (e_Lok (ps_iconst_1 (x_dk dn_279_1_1_ok 4 rfl)))))
  (e_Tok2
  (e_Lok (ld_iload_n_2 (x_dk dn_279_1_1_ok 5 rfl)))
  (e_Tok2
  (e_Lok (sm_isub (x_dk dn_279_1_1_ok 6 rfl)))
  (e_Lok (sm_iastore (x_dk dn_279_1_1_ok 7 rfl))))))))
def te_279_133 : Nat → eE := (e_T 248 (e_T 238 (e_T 232 (e_T 231 (e_L 231 (0, ei_load 0 2 232, 0, 0)) (e_L 232 (0, ei_getf eft elay 12 17 235, 0, 0))) (e_T 235 (e_L 235 (0, ei_load 8 0 237, 0, 0)) (e_T 237 (e_L 237 (0, ei_load 3 0 238, 0, 0)) (e_L 238 (0, ei_ast elay false 239, 0, 0))))) (e_T 243 (e_T 239 (e_L 239 (0, ei_load 0 2 240, 0, 0)) (e_T 240 (e_L 240 (0, ei_getf eft elay 12 18 243, 0, 0)) (e_L 243 (0, ei_load 8 0 245, 0, 0)))) (e_T 245 (e_L 245 (0, ei_load 4 0 247, 0, 0)) (e_T 247 (e_L 247 (0, ei_ast elay false 248, 0, 0)) (e_L 248 (0, ei_load 0 2 249, 0, 0)))))) (e_T 257 (e_T 252 (e_T 249 (e_L 249 (0, ei_getf eft elay 12 19 252, 0, 0)) (e_L 252 (0, ei_load 8 0 254, 0, 0))) (e_T 254 (e_L 254 (0, ei_push (0, 100) 256, 0, 0)) (e_T 256 (e_L 256 (0, ei_ast elay false 257, 0, 0)) (e_L 257 (0, ei_load 0 2 258, 0, 0))))) (e_T 263 (e_T 258 (e_L 258 (0, ei_getf eft elay 12 20 261, 0, 0)) (e_T 261 (e_L 261 (0, ei_load 8 0 263, 0, 0)) (e_L 263 (0, ei_push (0, 10) 265, 0, 0)))) (e_T 265 (e_L 265 (0, ei_ast elay false 266, 0, 0)) (e_T 266 (e_L 266 (0, ei_load 0 2 267, 0, 0)) (e_L 267 (0, ei_getf eft elay 12 21 270, 0, 0)))))))
set_option maxRecDepth 20000 in
set_option maxHeartbeats 4000000 in
theorem te_279_133_ok : ∀ pc, e_EOq eft cls elay eI n_279 pc (te_279_133 pc) :=
  (e_Tok2
  (e_Tok2
  (e_Tok2
  (e_Tok2
  (e_Lok (ld_aload_n_0 (x_dk dn_279_1_1_ok 8 rfl)))
  (e_Lok (lk_12_49g ho_279 (x_dk dn_279_1_1_ok 9 rfl))))
  (e_Tok2
  (e_Lok (ld_iload_8 (x_dk dn_279_1_1_ok 10 rfl)))
  (e_Tok2
  (e_Lok (ld_iload_n_3 (x_dk dn_279_1_1_ok 11 rfl)))
  (e_Lok (sm_iastore (x_dk dn_279_1_1_ok 12 rfl))))))
  (e_Tok2
  (e_Tok2
  (e_Lok (ld_aload_n_0 (x_dk dn_279_1_1_ok 13 rfl)))
  (e_Tok2
  (e_Lok (lk_12_52g ho_279 (x_dk dn_279_1_1_ok 14 rfl)))
  (e_Lok (ld_iload_8 (x_dk dn_279_1_1_ok 15 rfl)))))
  (e_Tok2
  (e_Lok (ld_iload_4 (x_dk dn_279_1_1_ok 16 rfl)))
  (e_Tok2
  (e_Lok (sm_iastore (x_dk dn_279_1_1_ok 17 rfl)))
  (e_Lok (ld_aload_n_0 (x_dk dn_279_1_1_ok 18 rfl)))))))
  (e_Tok2
  (e_Tok2
  (e_Tok2
  (e_Lok (lk_12_55g ho_279 (x_dk dn_279_1_1_ok 19 rfl)))
  (e_Lok (ld_iload_8 (x_dk dn_279_1_1_ok 20 rfl))))
  (e_Tok2
  (e_Lok (ps_bipush_100 (x_dk dn_279_1_1_ok 21 rfl)))
  (e_Tok2
  (e_Lok (sm_iastore (x_dk dn_279_1_1_ok 22 rfl)))
  (e_Lok (ld_aload_n_0 (x_dk dn_279_1_1_ok 23 rfl))))))
  (e_Tok2
  (e_Tok2
  (e_Lok (lk_12_58g ho_279 (x_dk dn_279_1_1_ok 24 rfl)))
  (e_Tok2
  (e_Lok (ld_iload_8 (x_dk dn_279_1_2_ok 0 rfl)))
  (e_Lok (ps_bipush_10 (x_dk dn_279_1_2_ok 1 rfl)))))
  (e_Tok2
  (e_Lok (sm_iastore (x_dk dn_279_1_2_ok 2 rfl)))
  (e_Tok2
  (e_Lok (ld_aload_n_0 (x_dk dn_279_1_2_ok 3 rfl)))
  (e_Lok (lk_12_61g ho_279 (x_dk dn_279_1_2_ok 4 rfl))))))))
def te_279_155 : Nat → eE := (e_T 287 (e_T 276 (e_T 272 (e_T 270 (e_L 270 (0, ei_load 8 0 272, 0, 0)) (e_L 272 (0, ei_load 5 0 274, 0, 0))) (e_T 274 (e_L 274 (0, ei_ast elay false 275, 0, 0)) (e_T 275 (e_L 275 (0, ei_load 0 2 276, 0, 0)) (e_L 276 (0, ei_getf eft elay 12 22 279, 0, 0))))) (e_T 282 (e_T 279 (e_L 279 (0, ei_load 8 0 281, 0, 0)) (e_T 281 (e_L 281 (0, ei_push (0, 0) 282, 0, 0)) (e_L 282 (0, ei_ast elay false 283, 0, 0)))) (e_T 283 (e_L 283 (0, ei_load 0 2 284, 0, 0)) (e_T 284 (e_L 284 (0, ei_getf eft elay 12 15 287, 0, 0)) (e_L 287 (0, ei_load 1 0 288, 0, 0)))))) (e_T 293 (e_T 290 (e_T 288 (e_L 288 (0, ei_stk ef_dup2 289, 0, 0)) (e_T 289 (e_L 289 (0, ei_ald elay false 290, 0, 0)) (e_L 290 (0, ei_push (0, 1) 291, 0, 0)))) (e_T 291 (e_L 291 (0, ei_bin eF_add 292, 0, 0)) (e_T 292 (e_L 292 (0, ei_ast elay false 293, 0, 0)) (e_L 293 (0, ei_load 0 2 294, 0, 0))))) (e_T 298 (e_T 294 (e_L 294 (0, ei_getf eft elay 12 15 297, 0, 0)) (e_T 297 (e_L 297 (0, ei_load 1 0 298, 0, 0)) (e_L 298 (0, ei_ald elay false 299, 0, 0)))) (e_T 299 (e_L 299 (0, ei_push (0, 1) 300, 0, 0)) (e_T 300 (e_L 300 (0, ei_bin eF_sub 301, 0, 0)) (e_L 301 (1, e_nof, 1, 0)))))))
set_option maxRecDepth 20000 in
set_option maxHeartbeats 4000000 in
theorem te_279_155_ok : ∀ pc, e_EOq eft cls elay eI n_279 pc (te_279_155 pc) :=
  (e_Tok2
  (e_Tok2
  (e_Tok2
  (e_Tok2
  (e_Lok (ld_iload_8 (x_dk dn_279_1_2_ok 5 rfl)))
  (e_Lok (ld_iload_5 (x_dk dn_279_1_2_ok 6 rfl))))
  (e_Tok2
  (e_Lok (sm_iastore (x_dk dn_279_1_2_ok 7 rfl)))
  (e_Tok2
  (e_Lok (ld_aload_n_0 (x_dk dn_279_1_2_ok 8 rfl)))
  (e_Lok (lk_12_64g ho_279 (x_dk dn_279_1_2_ok 9 rfl))))))
  (e_Tok2
  (e_Tok2
  (e_Lok (ld_iload_8 (x_dk dn_279_1_2_ok 10 rfl)))
  (e_Tok2
  (e_Lok (ps_iconst_0 (x_dk dn_279_1_2_ok 11 rfl)))
  (e_Lok (sm_iastore (x_dk dn_279_1_2_ok 12 rfl)))))
  (e_Tok2
  (e_Lok (ld_aload_n_0 (x_dk dn_279_1_2_ok 13 rfl)))
  (e_Tok2
  (e_Lok (lk_12_43g ho_279 (x_dk dn_279_1_2_ok 14 rfl)))
  (e_Lok (ld_iload_n_1 (x_dk dn_279_1_2_ok 15 rfl)))))))
  (e_Tok2
  (e_Tok2
  (e_Tok2
  (e_Lok (e_st (I := eI) (er_dup2 (x_dk dn_279_1_2_ok 16 rfl)) (nx_stk bf_dup2)))
  (e_Tok2
  (e_Lok (sm_iaload (x_dk dn_279_1_2_ok 17 rfl)))
  (e_Lok (ps_iconst_1 (x_dk dn_279_1_2_ok 18 rfl)))))
  (e_Tok2
  (e_Lok (sm_iadd (x_dk dn_279_1_2_ok 19 rfl)))
  (e_Tok2
  (e_Lok (sm_iastore (x_dk dn_279_1_2_ok 20 rfl)))
  (e_Lok (ld_aload_n_0 (x_dk dn_279_1_2_ok 21 rfl))))))
  (e_Tok2
  (e_Tok2
  (e_Lok (lk_12_43g ho_279 (x_dk dn_279_1_2_ok 22 rfl)))
  (e_Tok2
  (e_Lok (ld_iload_n_1 (x_dk dn_279_1_2_ok 23 rfl)))
  (e_Lok (sm_iaload (x_dk dn_279_1_2_ok 24 rfl)))))
  (e_Tok2
  (e_Lok (ps_iconst_1 (x_dk dn_279_1_3_ok 0 rfl)))
  (e_Tok2
  (e_Lok (sm_isub (x_dk dn_279_1_3_ok 1 rfl)))
  (e_Lok (e_rt (I := eI) (k := 1) ⟨(x_dk dn_279_1_3_ok 2 rfl), rfl⟩)))))))
def te_279 : Nat → eE := (e_T 153 (e_T 79 (e_T 39 te_279_0 te_279_22) (e_T 118 te_279_44 te_279_66)) (e_T 230 (e_T 195 te_279_89 te_279_111) (e_T 267 te_279_133 te_279_155)))
theorem te_279_ok : ∀ pc, e_EOq eft cls elay eI n_279 pc (te_279 pc) := (e_Tok2 ((e_Tok2 ((e_Tok2 (te_279_0_ok) (te_279_22_ok))) ((e_Tok2 (te_279_44_ok) (te_279_66_ok))))) ((e_Tok2 ((e_Tok2 (te_279_89_ok) (te_279_111_ok))) ((e_Tok2 (te_279_133_ok) (te_279_155_ok))))))
theorem ho_280 : (xm_y n_280).cls = "RobotCellHouseModel" := rfl
def dn_280_0_0 : List (Nat × Instr × Nat) := [(0, .aload_n 0, 1), (1, .iload_n 1, 1), (2, .iload_n 2, 1), (3, .invokevirtual 333, 3), (6, .ifCond .eq 15, 3), (9, .iload_n 3, 1), (10, .i2l, 1), (11, .lconst 0, 1), (12, .ldc2_w 330, 3), (15, .invokestatic 301, 3), (18, .ifCond .ne 5, 3), (21, .iconst (-1), 1), (22, .ireturn, 1), (23, .aload_n 0, 1), (24, .getfield 265, 3), (27, .ifCond .eq 6, 3), (30, .bipush (-2), 2), (32, .ireturn, 1), (33, .aload_n 0, 1), (34, .getfield 64, 3), (37, .bipush 6, 2), (39, .iload_n 1, 1), (40, .imul, 1), (41, .iload_n 2, 1), (42, .iadd, 1)]
set_option maxRecDepth 20000 in
theorem dn_280_0_0_ok : dn_280_0_0.all (fun q => decide (decode (xm_b n_280) q.1 = .ok (q.2.1, q.2.2))) = true := xa_g_ok (by decide +kernel)
def dn_280_0_1 : List (Nat × Instr × Nat) := [(43, .iaload, 1), (44, .istore 4, 2), (46, .aload_n 0, 1), (47, .getfield 64, 3), (50, .bipush 6, 2), (52, .iload_n 1, 1), (53, .imul, 1), (54, .iload_n 2, 1), (55, .iadd, 1), (56, .iload_n 3, 1), (57, .iastore, 1), (58, .iload 4, 2), (60, .ireturn, 1)]
set_option maxRecDepth 20000 in
theorem dn_280_0_1_ok : dn_280_0_1.all (fun q => decide (decode (xm_b n_280) q.1 = .ok (q.2.1, q.2.2))) = true := xa_g_ok (by decide +kernel)
def te_280_0 : Nat → eE := (e_T 33 (e_T 12 (e_T 3 (e_T 1 (e_T 0 (e_L 0 (0, ei_load 0 2 1, 0, 0)) (e_L 1 (0, ei_load 1 0 2, 0, 0))) (e_T 2 (e_L 2 (0, ei_load 2 0 3, 0, 0)) (e_L 3 (2, e_nof, 271, 3)))) (e_T 9 (e_T 6 (e_L 6 (0, ei_if1 0 21 9, 0, 0)) (e_L 9 (0, ei_load 3 0 10, 0, 0))) (e_T 10 (e_L 10 (0, ei_un (fun x => (4, x)) 11, 0, 0)) (e_T 11 (e_L 11 (0, ei_push (4, 0) 12, 0, 0)) (e_L 12 (0, ei_push (4, 800) 15, 0, 0)))))) (e_T 23 (e_T 18 (e_T 15 (e_L 15 (2, e_nof, 266, 3)) (e_L 18 (0, ei_if1 1 23 21, 0, 0))) (e_T 21 (e_L 21 (0, ei_push (0, (-1)) 22, 0, 0)) (e_T 22 (e_L 22 (1, e_nof, 1, 0)) (e_L 23 (0, ei_load 0 2 24, 0, 0))))) (e_T 27 (e_T 24 (e_L 24 (0, ei_getf eft elay 12 3 27, 0, 0)) (e_L 27 (0, ei_if1 0 33 30, 0, 0))) (e_T 30 (e_L 30 (0, ei_push (0, (-2)) 32, 0, 0)) (e_T 32 (e_L 32 (1, e_nof, 1, 0)) (e_L 33 (0, ei_load 0 2 34, 0, 0))))))) (e_T 46 (e_T 40 (e_T 37 (e_T 34 (e_L 34 (0, ei_getf eft elay 12 22 37, 0, 0)) (e_L 37 (0, ei_push (0, 6) 39, 0, 0))) (e_T 39 (e_L 39 (0, ei_load 1 0 40, 0, 0)) (e_L 40 (0, ei_bin eF_mul 41, 0, 0)))) (e_T 42 (e_T 41 (e_L 41 (0, ei_load 2 0 42, 0, 0)) (e_L 42 (0, ei_bin eF_add 43, 0, 0))) (e_T 43 (e_L 43 (0, ei_ald elay false 44, 0, 0)) (e_T 44 (e_L 44 (0, ei_stor 4 0 46, 0, 0)) (e_L 46 (0, ei_load 0 2 47, 0, 0)))))) (e_T 54 (e_T 50 (e_T 47 (e_L 47 (0, ei_getf eft elay 12 22 50, 0, 0)) (e_L 50 (0, ei_push (0, 6) 52, 0, 0))) (e_T 52 (e_L 52 (0, ei_load 1 0 53, 0, 0)) (e_T 53 (e_L 53 (0, ei_bin eF_mul 54, 0, 0)) (e_L 54 (0, ei_load 2 0 55, 0, 0))))) (e_T 56 (e_T 55 (e_L 55 (0, ei_bin eF_add 56, 0, 0)) (e_L 56 (0, ei_load 3 0 57, 0, 0))) (e_T 57 (e_L 57 (0, ei_ast elay false 58, 0, 0)) (e_T 58 (e_L 58 (0, ei_load 4 0 60, 0, 0)) (e_L 60 (1, e_nof, 1, 0))))))))
set_option maxRecDepth 20000 in
set_option maxHeartbeats 4000000 in
theorem te_280_0_ok : ∀ pc, e_EOq eft cls elay eI n_280 pc (te_280_0 pc) :=
  (e_Tok2
  (e_Tok2
  (e_Tok2
  (e_Tok2
  (e_Tok2
  (e_Lok (ld_aload_n_0 (x_dk dn_280_0_0_ok 0 rfl)))
  (e_Lok (ld_iload_n_1 (x_dk dn_280_0_0_ok 1 rfl))))
  (e_Tok2
  (e_Lok (ld_iload_n_2 (x_dk dn_280_0_0_ok 2 rfl)))
  (e_Lok (lk_12_333 ho_280 (x_dk dn_280_0_0_ok 3 rfl)))))
  (e_Tok2
  (e_Tok2
  (e_Lok (e_st (I := eI) (er_ifeq (off := 15) (tg := 21) (x_dk dn_280_0_0_ok 4 rfl) (by decide)) nx_if1))
  (e_Lok (ld_iload_n_3 (x_dk dn_280_0_0_ok 5 rfl))))
  (e_Tok2
  (e_Lok (e_st (I := eI) (er_i2l (x_dk dn_280_0_0_ok 6 rfl)) (nx_un (fun _ => rfl))))
  (e_Tok2
  (e_Lok (ps_lconst_0 (x_dk dn_280_0_0_ok 7 rfl)))
  (e_Lok (e_st (I := eI) (er_ldc2 (ix := 330) (z := 800) (v := 800) (x_dk dn_280_0_0_ok 8 rfl) (in_t11 (List.mem_of_getElem? (i := 19) rfl) rfl) (by decide)) (nx_push (Or.inl rfl))))))))
  (e_Tok2
  (e_Tok2
  (e_Tok2
  (e_Lok (lk_12_301 ho_280 (x_dk dn_280_0_0_ok 9 rfl)))
  (e_Lok (e_st (I := eI) (er_ifne (off := 5) (tg := 23) (x_dk dn_280_0_0_ok 10 rfl) (by decide)) nx_if1)))
  (e_Tok2
  (e_Lok (ps_iconst_m1 (x_dk dn_280_0_0_ok 11 rfl)))
  (e_Tok2
  (e_Lok (e_rt (I := eI) (k := 1) ⟨(x_dk dn_280_0_0_ok 12 rfl), rfl⟩))
  (e_Lok (ld_aload_n_0 (x_dk dn_280_0_0_ok 13 rfl))))))
  (e_Tok2
  (e_Tok2
  (e_Lok (lk_12_265g ho_280 (x_dk dn_280_0_0_ok 14 rfl)))
  (e_Lok (e_st (I := eI) (er_ifeq (off := 6) (tg := 33) (x_dk dn_280_0_0_ok 15 rfl) (by decide)) nx_if1)))
  (e_Tok2
  (e_Lok (ps_bipush_m2 (x_dk dn_280_0_0_ok 16 rfl)))
  (e_Tok2
  (e_Lok (e_rt (I := eI) (k := 1) ⟨(x_dk dn_280_0_0_ok 17 rfl), rfl⟩))
  (e_Lok (ld_aload_n_0 (x_dk dn_280_0_0_ok 18 rfl))))))))
  (e_Tok2
  (e_Tok2
  (e_Tok2
  (e_Tok2
  (e_Lok (lk_12_64g ho_280 (x_dk dn_280_0_0_ok 19 rfl)))
  (e_Lok (ps_bipush_6 (x_dk dn_280_0_0_ok 20 rfl))))
  (e_Tok2
  (e_Lok (ld_iload_n_1 (x_dk dn_280_0_0_ok 21 rfl)))
  (e_Lok (sm_imul (x_dk dn_280_0_0_ok 22 rfl)))))
  (e_Tok2
  (e_Tok2
  (e_Lok (ld_iload_n_2 (x_dk dn_280_0_0_ok 23 rfl)))
  (e_Lok (sm_iadd (x_dk dn_280_0_0_ok 24 rfl))))
  (e_Tok2
  (e_Lok (sm_iaload (x_dk dn_280_0_1_ok 0 rfl)))
  (e_Tok2
  (e_Lok (e_st (I := eI) (er_istore (i := 4) (x_dk dn_280_0_1_ok 1 rfl) (by decide +kernel)) nx_stor))
  (e_Lok (ld_aload_n_0 (x_dk dn_280_0_1_ok 2 rfl)))))))
  (e_Tok2
  (e_Tok2
  (e_Tok2
  (e_Lok (lk_12_64g ho_280 (x_dk dn_280_0_1_ok 3 rfl)))
  (e_Lok (ps_bipush_6 (x_dk dn_280_0_1_ok 4 rfl))))
  (e_Tok2
  (e_Lok (ld_iload_n_1 (x_dk dn_280_0_1_ok 5 rfl)))
  (e_Tok2
  (e_Lok (sm_imul (x_dk dn_280_0_1_ok 6 rfl)))
  (e_Lok (ld_iload_n_2 (x_dk dn_280_0_1_ok 7 rfl))))))
  (e_Tok2
  (e_Tok2
  (e_Lok (sm_iadd (x_dk dn_280_0_1_ok 8 rfl)))
  (e_Lok (ld_iload_n_3 (x_dk dn_280_0_1_ok 9 rfl))))
  (e_Tok2
  (e_Lok (sm_iastore (x_dk dn_280_0_1_ok 10 rfl)))
  (e_Tok2
  (e_Lok (ld_iload_4 (x_dk dn_280_0_1_ok 11 rfl)))
  (e_Lok (e_rt (I := eI) (k := 1) ⟨(x_dk dn_280_0_1_ok 12 rfl), rfl⟩))))))))
def te_280 : Nat → eE := te_280_0
theorem te_280_ok : ∀ pc, e_EOq eft cls elay eI n_280 pc (te_280 pc) := te_280_0_ok
theorem ho_281 : (xm_y n_281).cls = "RobotCellHouseModel" := rfl
def dn_281_0_0 : List (Nat × Instr × Nat) := [(0, .aload_n 0, 1), (1, .iload_n 1, 1), (2, .iload_n 2, 1), (3, .invokevirtual 333, 3), (6, .ifCond .eq 28, 3), (9, .iload_n 3, 1), (10, .i2l, 1), (11, .lconst 1, 1), (12, .ldc2_w 336, 3), (15, .invokestatic 301, 3), (18, .ifCond .eq 16, 3), (21, .iload 4, 2), (23, .i2l, 1), (24, .lconst 1, 1), (25, .ldc2_w 336, 3), (28, .invokestatic 301, 3), (31, .ifCond .ne 5, 3), (34, .iconst (-1), 1), (35, .ireturn, 1), (36, .aload_n 0, 1), (37, .getfield 265, 3), (40, .ifCond .eq 6, 3), (43, .bipush (-2), 2), (45, .ireturn, 1), (46, .aload_n 0, 1)]
set_option maxRecDepth 20000 in
theorem dn_281_0_0_ok : dn_281_0_0.all (fun q => decide (decode (xm_b n_281) q.1 = .ok (q.2.1, q.2.2))) = true := xa_g_ok (by decide +kernel)
def dn_281_0_1 : List (Nat × Instr × Nat) := [(47, .getfield 55, 3), (50, .bipush 6, 2), (52, .iload_n 1, 1), (53, .imul, 1), (54, .iload_n 2, 1), (55, .iadd, 1), (56, .iload_n 3, 1), (57, .iastore, 1), (58, .aload_n 0, 1), (59, .getfield 58, 3), (62, .bipush 6, 2), (64, .iload_n 1, 1), (65, .imul, 1), (66, .iload_n 2, 1), (67, .iadd, 1), (68, .iload 4, 2), (70, .iastore, 1), (71, .iconst 0, 1), (72, .ireturn, 1)]
set_option maxRecDepth 20000 in
theorem dn_281_0_1_ok : dn_281_0_1.all (fun q => decide (decode (xm_b n_281) q.1 = .ok (q.2.1, q.2.2))) = true := xa_g_ok (by decide +kernel)
def te_281_0 : Nat → eE := (e_T 18 (e_T 6 (e_T 1 (e_T 0 (e_L 0 (0, ei_load 0 2 1, 0, 0)) (e_L 1 (0, ei_load 1 0 2, 0, 0))) (e_T 2 (e_L 2 (0, ei_load 2 0 3, 0, 0)) (e_T 3 (e_L 3 (2, e_nof, 271, 3)) (e_L 6 (0, ei_if1 0 34 9, 0, 0))))) (e_T 11 (e_T 9 (e_L 9 (0, ei_load 3 0 10, 0, 0)) (e_T 10 (e_L 10 (0, ei_un (fun x => (4, x)) 11, 0, 0)) (e_L 11 (0, ei_push (4, 1) 12, 0, 0)))) (e_T 12 (e_L 12 (0, ei_push (4, 2000) 15, 0, 0)) (e_T 15 (e_L 15 (2, e_nof, 266, 3)) (e_L 18 (0, ei_if1 0 34 21, 0, 0)))))) (e_T 28 (e_T 23 (e_T 21 (e_L 21 (0, ei_load 4 0 23, 0, 0)) (e_L 23 (0, ei_un (fun x => (4, x)) 24, 0, 0))) (e_T 24 (e_L 24 (0, ei_push (4, 1) 25, 0, 0)) (e_T 25 (e_L 25 (0, ei_push (4, 2000) 28, 0, 0)) (e_L 28 (2, e_nof, 266, 3))))) (e_T 35 (e_T 31 (e_L 31 (0, ei_if1 1 36 34, 0, 0)) (e_T 34 (e_L 34 (0, ei_push (0, (-1)) 35, 0, 0)) (e_L 35 (1, e_nof, 1, 0)))) (e_T 36 (e_L 36 (0, ei_load 0 2 37, 0, 0)) (e_T 37 (e_L 37 (0, ei_getf eft elay 12 3 40, 0, 0)) (e_L 40 (0, ei_if1 0 46 43, 0, 0)))))))
set_option maxRecDepth 20000 in
set_option maxHeartbeats 4000000 in
theorem te_281_0_ok : ∀ pc, e_EOq eft cls elay eI n_281 pc (te_281_0 pc) :=
  (e_Tok2
  (e_Tok2
  (e_Tok2
  (e_Tok2
  (e_Lok (ld_aload_n_0 (x_dk dn_281_0_0_ok 0 rfl)))
  (e_Lok (ld_iload_n_1 (x_dk dn_281_0_0_ok 1 rfl))))
  (e_Tok2
  (e_Lok (ld_iload_n_2 (x_dk dn_281_0_0_ok 2 rfl)))
  (e_Tok2
  (e_Lok (lk_12_333 ho_281 (x_dk dn_281_0_0_ok 3 rfl)))
  (e_Lok (e_st (I := eI) (er_ifeq (off := 28) (tg := 34) (x_dk dn_281_0_0_ok 4 rfl) (by decide)) nx_if1)))))
  (e_Tok2
  (e_Tok2
  (e_Lok (ld_iload_n_3 (x_dk dn_281_0_0_ok 5 rfl)))
  (e_Tok2
  (e_Lok (e_st (I := eI) (er_i2l (x_dk dn_281_0_0_ok 6 rfl)) (nx_un (fun _ => rfl))))
  (e_Lok (ps_lconst_1 (x_dk dn_281_0_0_ok 7 rfl)))))
  (e_Tok2
  (e_Lok (e_st (I := eI) (er_ldc2 (ix := 336) (z := 2000) (v := 2000) (x_dk dn_281_0_0_ok 8 rfl) (in_t11 (List.mem_of_getElem? (i := 41) rfl) rfl) (by decide)) (nx_push (Or.inl rfl))))
  (e_Tok2
  (e_Lok (lk_12_301 ho_281 (x_dk dn_281_0_0_ok 9 rfl)))
  (e_Lok (e_st (I := eI) (er_ifeq (off := 16) (tg := 34) (x_dk dn_281_0_0_ok 10 rfl) (by decide)) nx_if1))))))
  (e_Tok2
  (e_Tok2
  (e_Tok2
  (e_Lok (ld_iload_4 (x_dk dn_281_0_0_ok 11 rfl)))
  (e_Lok (e_st (I := eI) (er_i2l (x_dk dn_281_0_0_ok 12 rfl)) (nx_un (fun _ => rfl)))))
  (e_Tok2
  (e_Lok (ps_lconst_1 (x_dk dn_281_0_0_ok 13 rfl)))
  (e_Tok2
  (e_Lok (e_st (I := eI) (er_ldc2 (ix := 336) (z := 2000) (v := 2000) (x_dk dn_281_0_0_ok 14 rfl) (in_t11 (List.mem_of_getElem? (i := 41) rfl) rfl) (by decide)) (nx_push (Or.inl rfl))))
  (e_Lok (lk_12_301 ho_281 (x_dk dn_281_0_0_ok 15 rfl))))))
  (e_Tok2
  (e_Tok2
  (e_Lok (e_st (I := eI) (er_ifne (off := 5) (tg := 36) (x_dk dn_281_0_0_ok 16 rfl) (by decide)) nx_if1))
  (e_Tok2
  (e_Lok (ps_iconst_m1 (x_dk dn_281_0_0_ok 17 rfl)))
  (e_Lok (e_rt (I := eI) (k := 1) ⟨(x_dk dn_281_0_0_ok 18 rfl), rfl⟩))))
  (e_Tok2
  (e_Lok (ld_aload_n_0 (x_dk dn_281_0_0_ok 19 rfl)))
  (e_Tok2
  (e_Lok (lk_12_265g ho_281 (x_dk dn_281_0_0_ok 20 rfl)))
  (e_Lok (e_st (I := eI) (er_ifeq (off := 6) (tg := 46) (x_dk dn_281_0_0_ok 21 rfl) (by decide)) nx_if1)))))))
def te_281_22 : Nat → eE := (e_T 57 (e_T 50 (e_T 45 (e_T 43 (e_L 43 (0, ei_push (0, (-2)) 45, 0, 0)) (e_L 45 (1, e_nof, 1, 0))) (e_T 46 (e_L 46 (0, ei_load 0 2 47, 0, 0)) (e_T 47 (e_L 47 (0, ei_getf eft elay 12 19 50, 0, 0)) (e_L 50 (0, ei_push (0, 6) 52, 0, 0))))) (e_T 54 (e_T 52 (e_L 52 (0, ei_load 1 0 53, 0, 0)) (e_T 53 (e_L 53 (0, ei_bin eF_mul 54, 0, 0)) (e_L 54 (0, ei_load 2 0 55, 0, 0)))) (e_T 55 (e_L 55 (0, ei_bin eF_add 56, 0, 0)) (e_T 56 (e_L 56 (0, ei_load 3 0 57, 0, 0)) (e_L 57 (0, ei_ast elay false 58, 0, 0)))))) (e_T 65 (e_T 59 (e_T 58 (e_L 58 (0, ei_load 0 2 59, 0, 0)) (e_L 59 (0, ei_getf eft elay 12 20 62, 0, 0))) (e_T 62 (e_L 62 (0, ei_push (0, 6) 64, 0, 0)) (e_T 64 (e_L 64 (0, ei_load 1 0 65, 0, 0)) (e_L 65 (0, ei_bin eF_mul 66, 0, 0))))) (e_T 68 (e_T 66 (e_L 66 (0, ei_load 2 0 67, 0, 0)) (e_T 67 (e_L 67 (0, ei_bin eF_add 68, 0, 0)) (e_L 68 (0, ei_load 4 0 70, 0, 0)))) (e_T 70 (e_L 70 (0, ei_ast elay false 71, 0, 0)) (e_T 71 (e_L 71 (0, ei_push (0, 0) 72, 0, 0)) (e_L 72 (1, e_nof, 1, 0)))))))
set_option maxRecDepth 20000 in
set_option maxHeartbeats 4000000 in
theorem te_281_22_ok : ∀ pc, e_EOq eft cls elay eI n_281 pc (te_281_22 pc) :=
  (e_Tok2
  (e_Tok2
  (e_Tok2
  (e_Tok2
  (e_Lok (ps_bipush_m2 (x_dk dn_281_0_0_ok 22 rfl)))
  (e_Lok (e_rt (I := eI) (k := 1) ⟨(x_dk dn_281_0_0_ok 23 rfl), rfl⟩)))
  (e_Tok2
  (e_Lok (ld_aload_n_0 (x_dk dn_281_0_0_ok 24 rfl)))
  (e_Tok2
  (e_Lok (lk_12_55g ho_281 (x_dk dn_281_0_1_ok 0 rfl)))
  (e_Lok (ps_bipush_6 (x_dk dn_281_0_1_ok 1 rfl))))))
  (e_Tok2
  (e_Tok2
  (e_Lok (ld_iload_n_1 (x_dk dn_281_0_1_ok 2 rfl)))
  (e_Tok2
  (e_Lok (sm_imul (x_dk dn_281_0_1_ok 3 rfl)))
  (e_Lok (ld_iload_n_2 (x_dk dn_281_0_1_ok 4 rfl)))))
  (e_Tok2
  (e_Lok (sm_iadd (x_dk dn_281_0_1_ok 5 rfl)))
  (e_Tok2
  (e_Lok (ld_iload_n_3 (x_dk dn_281_0_1_ok 6 rfl)))
  (e_Lok (sm_iastore (x_dk dn_281_0_1_ok 7 rfl)))))))
  (e_Tok2
  (e_Tok2
  (e_Tok2
  (e_Lok (ld_aload_n_0 (x_dk dn_281_0_1_ok 8 rfl)))
  (e_Lok (lk_12_58g ho_281 (x_dk dn_281_0_1_ok 9 rfl))))
  (e_Tok2
  (e_Lok (ps_bipush_6 (x_dk dn_281_0_1_ok 10 rfl)))
  (e_Tok2
  (e_Lok (ld_iload_n_1 (x_dk dn_281_0_1_ok 11 rfl)))
  (e_Lok (sm_imul (x_dk dn_281_0_1_ok 12 rfl))))))
  (e_Tok2
  (e_Tok2
  (e_Lok (ld_iload_n_2 (x_dk dn_281_0_1_ok 13 rfl)))
  (e_Tok2
  (e_Lok (sm_iadd (x_dk dn_281_0_1_ok 14 rfl)))
  (e_Lok (ld_iload_4 (x_dk dn_281_0_1_ok 15 rfl)))))
  (e_Tok2
  (e_Lok (sm_iastore (x_dk dn_281_0_1_ok 16 rfl)))
  (e_Tok2
  (e_Lok (ps_iconst_0 (x_dk dn_281_0_1_ok 17 rfl)))
  (e_Lok (e_rt (I := eI) (k := 1) ⟨(x_dk dn_281_0_1_ok 18 rfl), rfl⟩)))))))
def te_281 : Nat → eE := (e_T 40 te_281_0 te_281_22)
theorem te_281_ok : ∀ pc, e_EOq eft cls elay eI n_281 pc (te_281 pc) := (e_Tok2 (te_281_0_ok) (te_281_22_ok))
theorem ho_282 : (xm_y n_282).cls = "RobotCellHouseModel" := rfl
def dn_282_0_0 : List (Nat × Instr × Nat) := [(0, .aload_n 0, 1), (1, .getfield 265, 3), (4, .ifCond .eq 6, 3), (7, .bipush (-2), 2), (9, .ireturn, 1), (10, .aload_n 0, 1), (11, .getfield 273, 3), (14, .bipush 16, 2), (16, .if_icmp .ne 6, 3), (19, .bipush (-3), 2), (21, .ireturn, 1), (22, .aload_n 0, 1), (23, .getfield 67, 3), (26, .aload_n 0, 1), (27, .getfield 273, 3), (30, .iload_n 1, 1), (31, .bastore, 1), (32, .aload_n 0, 1), (33, .getfield 71, 3), (36, .aload_n 0, 1), (37, .getfield 273, 3), (40, .iload_n 2, 1), (41, .iastore, 1), (42, .aload_n 0, 1), (43, .getfield 74, 3)]
set_option maxRecDepth 20000 in
theorem dn_282_0_0_ok : dn_282_0_0.all (fun q => decide (decode (xm_b n_282) q.1 = .ok (q.2.1, q.2.2))) = true := xa_g_ok (by decide +kernel)
def dn_282_0_1 : List (Nat × Instr × Nat) := [(46, .aload_n 0, 1), (47, .getfield 273, 3), (50, .iload_n 3, 1), (51, .iastore, 1), (52, .aload_n 0, 1), (53, .getfield 77, 3), (56, .aload_n 0, 1), (57, .getfield 273, 3), (60, .iload 4, 2), (62, .iastore, 1), (63, .aload_n 0, 1), (64, .getfield 80, 3), (67, .aload_n 0, 1), (68, .getfield 273, 3), (71, .iload 5, 2), (73, .iastore, 1), (74, .aload_n 0, 1), (75, .dup, 1), (76, .getfield 273, 3), (79, .iconst 1, 1), (80, .iadd, 1), (81, .putfield 273, 3), (84, .aload_n 0, 1), (85, .getfield 273, 3), (88, .iconst 1, 1)]
set_option maxRecDepth 20000 in
theorem dn_282_0_1_ok : dn_282_0_1.all (fun q => decide (decode (xm_b n_282) q.1 = .ok (q.2.1, q.2.2))) = true := xa_g_ok (by decide +kernel)
def dn_282_0_2 : List (Nat × Instr × Nat) := [(89, .isub, 1), (90, .ireturn, 1)]
set_option maxRecDepth 20000 in
theorem dn_282_0_2_ok : dn_282_0_2.all (fun q => decide (decode (xm_b n_282) q.1 = .ok (q.2.1, q.2.2))) = true := xa_g_ok (by decide +kernel)
def te_282_0 : Nat → eE := (e_T 23 (e_T 10 (e_T 4 (e_T 0 (e_L 0 (0, ei_load 0 2 1, 0, 0)) (e_T 1 (e_L 1 (0, ei_getf eft elay 12 3 4, 0, 0)) (e_L 4 (0, ei_if1 0 10 7, 0, 0)))) (e_T 7 (e_L 7 (0, ei_push (0, (-2)) 9, 0, 0)) (e_T 9 (e_L 9 (1, e_nof, 1, 0)) (e_L 10 (0, ei_load 0 2 11, 0, 0))))) (e_T 16 (e_T 11 (e_L 11 (0, ei_getf eft elay 12 23 14, 0, 0)) (e_T 14 (e_L 14 (0, ei_push (0, 16) 16, 0, 0)) (e_L 16 (0, ei_if2 1 22 19, 0, 0)))) (e_T 21 (e_T 19 (e_L 19 (0, ei_push (0, (-3)) 21, 0, 0)) (e_L 21 (1, e_nof, 1, 0))) (e_T 22 (e_L 22 (0, ei_load 0 2 23, 0, 0)) (e_L 23 (0, ei_getf eft elay 12 24 26, 0, 0)))))) (e_T 33 (e_T 30 (e_T 26 (e_L 26 (0, ei_load 0 2 27, 0, 0)) (e_T 27 (e_L 27 (0, ei_getf eft elay 12 23 30, 0, 0)) (e_L 30 (0, ei_load 1 0 31, 0, 0)))) (e_T 31 (e_L 31 (0, ei_ast elay true 32, 0, 0)) (e_T 32 (e_L 32 (0, ei_load 0 2 33, 0, 0)) (e_L 33 (0, ei_getf eft elay 12 25 36, 0, 0))))) (e_T 40 (e_T 36 (e_L 36 (0, ei_load 0 2 37, 0, 0)) (e_T 37 (e_L 37 (0, ei_getf eft elay 12 23 40, 0, 0)) (e_L 40 (0, ei_load 2 0 41, 0, 0)))) (e_T 42 (e_T 41 (e_L 41 (0, ei_ast elay false 42, 0, 0)) (e_L 42 (0, ei_load 0 2 43, 0, 0))) (e_T 43 (e_L 43 (0, ei_getf eft elay 12 26 46, 0, 0)) (e_L 46 (0, ei_load 0 2 47, 0, 0)))))))
set_option maxRecDepth 20000 in
set_option maxHeartbeats 4000000 in
theorem te_282_0_ok : ∀ pc, e_EOq eft cls elay eI n_282 pc (te_282_0 pc) :=
  (e_Tok2
  (e_Tok2
  (e_Tok2
  (e_Tok2
  (e_Lok (ld_aload_n_0 (x_dk dn_282_0_0_ok 0 rfl)))
  (e_Tok2
  (e_Lok (lk_12_265g ho_282 (x_dk dn_282_0_0_ok 1 rfl)))
  (e_Lok (e_st (I := eI) (er_ifeq (off := 6) (tg := 10) (x_dk dn_282_0_0_ok 2 rfl) (by decide)) nx_if1))))
  (e_Tok2
  (e_Lok (ps_bipush_m2 (x_dk dn_282_0_0_ok 3 rfl)))
  (e_Tok2
  (e_Lok (e_rt (I := eI) (k := 1) ⟨(x_dk dn_282_0_0_ok 4 rfl), rfl⟩))
  (e_Lok (ld_aload_n_0 (x_dk dn_282_0_0_ok 5 rfl))))))
  (e_Tok2
  (e_Tok2
  (e_Lok (lk_12_273g ho_282 (x_dk dn_282_0_0_ok 6 rfl)))
  (e_Tok2
  (e_Lok (ps_bipush_16 (x_dk dn_282_0_0_ok 7 rfl)))
  (e_Lok (e_st (I := eI) (er_icmpne (off := 6) (tg := 22) (x_dk dn_282_0_0_ok 8 rfl) (by decide)) nx_if2))))
  (e_Tok2
  (e_Tok2
  (e_Lok (ps_bipush_m3 (x_dk dn_282_0_0_ok 9 rfl)))
  (e_Lok (e_rt (I := eI) (k := 1) ⟨(x_dk dn_282_0_0_ok 10 rfl), rfl⟩)))
  (e_Tok2
  (e_Lok (ld_aload_n_0 (x_dk dn_282_0_0_ok 11 rfl)))
  (e_Lok (lk_12_67g ho_282 (x_dk dn_282_0_0_ok 12 rfl)))))))
  (e_Tok2
  (e_Tok2
  (e_Tok2
  (e_Lok (ld_aload_n_0 (x_dk dn_282_0_0_ok 13 rfl)))
  (e_Tok2
  (e_Lok (lk_12_273g ho_282 (x_dk dn_282_0_0_ok 14 rfl)))
  (e_Lok (ld_iload_n_1 (x_dk dn_282_0_0_ok 15 rfl)))))
  (e_Tok2
  (e_Lok (e_st (I := eI) (er_bastore (x_dk dn_282_0_0_ok 16 rfl)) nx_ast))
  (e_Tok2
  (e_Lok (ld_aload_n_0 (x_dk dn_282_0_0_ok 17 rfl)))
  (e_Lok (lk_12_71g ho_282 (x_dk dn_282_0_0_ok 18 rfl))))))
  (e_Tok2
  (e_Tok2
  (e_Lok (ld_aload_n_0 (x_dk dn_282_0_0_ok 19 rfl)))
  (e_Tok2
  (e_Lok (lk_12_273g ho_282 (x_dk dn_282_0_0_ok 20 rfl)))
  (e_Lok (ld_iload_n_2 (x_dk dn_282_0_0_ok 21 rfl)))))
  (e_Tok2
  (e_Tok2
  (e_Lok (sm_iastore (x_dk dn_282_0_0_ok 22 rfl)))
  (e_Lok (ld_aload_n_0 (x_dk dn_282_0_0_ok 23 rfl))))
  (e_Tok2
  (e_Lok (lk_12_74g ho_282 (x_dk dn_282_0_0_ok 24 rfl)))
  (e_Lok (ld_aload_n_0 (x_dk dn_282_0_1_ok 0 rfl))))))))
def te_282_26 : Nat → eE := (e_T 68 (e_T 56 (e_T 51 (e_T 47 (e_L 47 (0, ei_getf eft elay 12 23 50, 0, 0)) (e_T 50 (e_L 50 (0, ei_load 3 0 51, 0, 0)) (e_L 51 (0, ei_ast elay false 52, 0, 0)))) (e_T 52 (e_L 52 (0, ei_load 0 2 53, 0, 0)) (e_T 53 (e_L 53 (0, ei_getf eft elay 12 27 56, 0, 0)) (e_L 56 (0, ei_load 0 2 57, 0, 0))))) (e_T 62 (e_T 57 (e_L 57 (0, ei_getf eft elay 12 23 60, 0, 0)) (e_T 60 (e_L 60 (0, ei_load 4 0 62, 0, 0)) (e_L 62 (0, ei_ast elay false 63, 0, 0)))) (e_T 64 (e_T 63 (e_L 63 (0, ei_load 0 2 64, 0, 0)) (e_L 64 (0, ei_getf eft elay 12 28 67, 0, 0))) (e_T 67 (e_L 67 (0, ei_load 0 2 68, 0, 0)) (e_L 68 (0, ei_getf eft elay 12 23 71, 0, 0)))))) (e_T 79 (e_T 74 (e_T 71 (e_L 71 (0, ei_load 5 0 73, 0, 0)) (e_T 73 (e_L 73 (0, ei_ast elay false 74, 0, 0)) (e_L 74 (0, ei_load 0 2 75, 0, 0)))) (e_T 75 (e_L 75 (0, ei_stk ef_dup 76, 0, 0)) (e_T 76 (e_L 76 (0, ei_getf eft elay 12 23 79, 0, 0)) (e_L 79 (0, ei_push (0, 1) 80, 0, 0))))) (e_T 84 (e_T 80 (e_L 80 (0, ei_bin eF_add 81, 0, 0)) (e_T 81 (e_L 81 (0, ei_putf eft elay 12 23 0 84, 0, 0)) (e_L 84 (0, ei_load 0 2 85, 0, 0)))) (e_T 88 (e_T 85 (e_L 85 (0, ei_getf eft elay 12 23 88, 0, 0)) (e_L 88 (0, ei_push (0, 1) 89, 0, 0))) (e_T 89 (e_L 89 (0, ei_bin eF_sub 90, 0, 0)) (e_L 90 (1, e_nof, 1, 0)))))))
set_option maxRecDepth 20000 in
set_option maxHeartbeats 4000000 in
theorem te_282_26_ok : ∀ pc, e_EOq eft cls elay eI n_282 pc (te_282_26 pc) :=
  (e_Tok2
  (e_Tok2
  (e_Tok2
  (e_Tok2
  (e_Lok (lk_12_273g ho_282 (x_dk dn_282_0_1_ok 1 rfl)))
  (e_Tok2
  (e_Lok (ld_iload_n_3 (x_dk dn_282_0_1_ok 2 rfl)))
  (e_Lok (sm_iastore (x_dk dn_282_0_1_ok 3 rfl)))))
  (e_Tok2
  (e_Lok (ld_aload_n_0 (x_dk dn_282_0_1_ok 4 rfl)))
  (e_Tok2
  (e_Lok (lk_12_77g ho_282 (x_dk dn_282_0_1_ok 5 rfl)))
  (e_Lok (ld_aload_n_0 (x_dk dn_282_0_1_ok 6 rfl))))))
  (e_Tok2
  (e_Tok2
  (e_Lok (lk_12_273g ho_282 (x_dk dn_282_0_1_ok 7 rfl)))
  (e_Tok2
  (e_Lok (ld_iload_4 (x_dk dn_282_0_1_ok 8 rfl)))
  (e_Lok (sm_iastore (x_dk dn_282_0_1_ok 9 rfl)))))
  (e_Tok2
  (e_Tok2
  (e_Lok (ld_aload_n_0 (x_dk dn_282_0_1_ok 10 rfl)))
  (e_Lok (lk_12_80g ho_282 (x_dk dn_282_0_1_ok 11 rfl))))
  (e_Tok2
  (e_Lok (ld_aload_n_0 (x_dk dn_282_0_1_ok 12 rfl)))
  (e_Lok (lk_12_273g ho_282 (x_dk dn_282_0_1_ok 13 rfl)))))))
  (e_Tok2
  (e_Tok2
  (e_Tok2
  (e_Lok (ld_iload_5 (x_dk dn_282_0_1_ok 14 rfl)))
  (e_Tok2
  (e_Lok (sm_iastore (x_dk dn_282_0_1_ok 15 rfl)))
  (e_Lok (ld_aload_n_0 (x_dk dn_282_0_1_ok 16 rfl)))))
  (e_Tok2
  (e_Lok (e_st (I := eI) (er_dup (x_dk dn_282_0_1_ok 17 rfl)) (nx_stk bf_dup)))
  (e_Tok2
  (e_Lok (lk_12_273g ho_282 (x_dk dn_282_0_1_ok 18 rfl)))
  (e_Lok (ps_iconst_1 (x_dk dn_282_0_1_ok 19 rfl))))))
  (e_Tok2
  (e_Tok2
  (e_Lok (sm_iadd (x_dk dn_282_0_1_ok 20 rfl)))
  (e_Tok2
  (e_Lok (lk_12_273p ho_282 (x_dk dn_282_0_1_ok 21 rfl)))
  (e_Lok (ld_aload_n_0 (x_dk dn_282_0_1_ok 22 rfl)))))
  (e_Tok2
  (e_Tok2
  (e_Lok (lk_12_273g ho_282 (x_dk dn_282_0_1_ok 23 rfl)))
  (e_Lok (ps_iconst_1 (x_dk dn_282_0_1_ok 24 rfl))))
  (e_Tok2
  (e_Lok (sm_isub (x_dk dn_282_0_2_ok 0 rfl)))
  (e_Lok (e_rt (I := eI) (k := 1) ⟨(x_dk dn_282_0_2_ok 1 rfl), rfl⟩)))))))
def te_282 : Nat → eE := (e_T 46 te_282_0 te_282_26)
theorem te_282_ok : ∀ pc, e_EOq eft cls elay eI n_282 pc (te_282 pc) := (e_Tok2 (te_282_0_ok) (te_282_26_ok))
end
