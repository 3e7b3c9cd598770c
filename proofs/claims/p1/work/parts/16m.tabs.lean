noncomputable section
def xi_aTM (px py : xV) (c : Nat) (nx : Nat) : xS → Option (List xS) := fun t => match t.2.2.1 with
  | y :: x :: r => match x_bl t.2.2.2.2.1 x, x_bl t.2.2.2.2.1 y with
    | some a, some b => bif x_eqv x px && (x_eqv y py && (decide (-9223372036854775808 ≤ a.1 + b.1) && decide (a.2 + b.2 ≤ 9223372036854775807))) then some [(nx, t.2.1, (6, (c : Int), 0) :: r, t.2.2.2.1, x_mt t.2.2.2.2.1 c (xG_add a b), t.2.2.2.2.2)] else none
    | _, _ => none
  | _ => none
theorem xr_taddM {cl : List vw_C} {K : xKx} {cc : ByteArray} {own : String} {nL : Nat} {nm : String} {MC MS pc : Nat} {px py : xV} {c : Nat} (d : decode cc pc = .ok (.ladd, 1)) (hV : ∀ R s A H V sc, K R s A H V sc → ∀ ad (x y : Int64), x_rel ad V sc px (.long x) → x_rel ad V sc py (.long y) → V[c]? = some (x.toInt + y.toInt)) : x_Snd cl K cc own nL nm MC MS pc (xi_aTM px py c (pc + 1)) := by
  have hw : ∀ x y, x_Stk cc own nL pc (pc + 1) [.long y, .long x] [.long (x + y)] := fun x y => (fun S => fun k => lv_ladd S.1 S.2.1 d k)
  intro V sc p l e R s m args below meth c D A H0 Q C hA hK t ts hpc hf hg
  unfold xi_aTM at hf
  split at hf
  · rename_i y x r hst
    split at hf
    · rename_i a b ha hb
      cases hbb : (x_eqv x px && (x_eqv y py && (decide (-9223372036854775808 ≤ a.1 + b.1) && decide (a.2 + b.2 ≤ 9223372036854775807)))) with
      | false => rw [hbb] at hf; cases hf
      | true =>
        rw [hbb] at hf
        cases hf
        simp only [Bool.and_eq_true, decide_eq_true_eq] at hbb
        obtain ⟨q1, q2, q3⟩ := hbb
        have e1 := x_eqv_ok q1
        have e2 := x_eqv_ok q2
        subst e1
        subst e2
        subst hpc
        intro ls stk H locs ⟨lv, ws, tys, h1, h2, h3, h4, h5, h6, h7, h8, h9⟩
        rw [hst] at h3
        match stk, h3 with
        | v1 :: v2 :: rest, h3 =>
          obtain ⟨ny, rfl, y1, y2⟩ := x_bl_ok h9 hb h3.1
          obtain ⟨nx', rfl, x1, x2⟩ := x_bl_ok h9 ha h3.2.1
          have hv := hV _ _ _ _ _ _ hK _ nx' ny h3.2.1 h3.1
          have eg : (nx' + ny).toInt = nx'.toInt + ny.toInt := by rw [Int64.toInt_add]; exact x_bmodL (by omega) (by omega)
          exact hw nx' ny C.1 (hg _ List.mem_cons_self ls (.long (nx' + ny) :: rest) H locs ⟨lv, ws, tys, h1, h2, ⟨⟨_, rfl, by simp only [Int.toNat_natCast]; rw [eg]; exact hv⟩, h3.2.2⟩, h4, h5, h6, h7, h8, x_mt_ok h9 hv (by show a.1 + b.1 ≤ _; omega) (by show _ ≤ a.2 + b.2; omega)⟩)
    · cases hf
  · cases hf
def dl_110c_0 : List (Nat × Instr × Nat) := [(0, .iload_n 0, 1), (1, .iload_n 1, 1), (2, .invokestatic 313, 3), (5, .ifCond .eq 39, 3), (8, .iload_n 2, 1), (9, .ifCond .lt 35, 3), (12, .iload_n 3, 1), (13, .ifCond .lt 31, 3), (16, .iload_n 0, 1), (17, .i2l, 1), (18, .iload_n 2, 1), (19, .i2l, 1), (20, .ladd, 1), (21, .ldc2_w 311, 3), (24, .lcmp, 1), (25, .ifCond .gt 19, 3), (28, .iload_n 1, 1), (29, .i2l, 1), (30, .iload_n 3, 1), (31, .i2l, 1), (32, .ladd, 1), (33, .ldc2_w 311, 3), (36, .lcmp, 1), (37, .ifCond .gt 7, 3), (40, .iconst 1, 1), (41, .goto 4, 3), (44, .iconst 0, 1), (45, .ireturn, 1)]
set_option maxRecDepth 20000 in
theorem dl_110c_0_ok : dl_110c_0.all (fun q => decide (decode prog_14_method_9_code q.1 = .ok (q.2.1, q.2.2))) = true := by decide +kernel
def tb_110c_0 : Nat → xE := (x_T 20 (x_T 9 (x_T 2 (x_T 0 (x_L 0 (0, xi_load 0 0 1, 0, 0)) (x_T 1 (x_L 1 (0, xi_load 1 0 2, 0, 0)) (x_L 2 (2, x_nof, 109, 2)))) (x_T 5 (x_L 5 (0, xi_if1 0 44 8, 0, 0)) (x_T 8 (x_L 8 (0, xi_load 2 0 9, 0, 0)) (x_L 9 (0, xi_if1 2 44 12, 0, 0))))) (x_T 16 (x_T 12 (x_L 12 (0, xi_load 3 0 13, 0, 0)) (x_T 13 (x_L 13 (0, xi_if1 2 44 16, 0, 0)) (x_L 16 (0, xi_load 0 0 17, 0, 0)))) (x_T 18 (x_T 17 (x_L 17 (0, xi_i2l 18, 0, 0)) (x_L 18 (0, xi_load 2 0 19, 0, 0))) (x_T 19 (x_L 19 (0, xi_i2l 20, 0, 0)) (x_L 20 (0, xi_aTM (6, 1, 0) (6, 3, 0) 6 21, 0, 0)))))) (x_T 31 (x_T 28 (x_T 21 (x_L 21 (0, xi_push (4, 16000, 16000) 24, 0, 0)) (x_T 24 (x_L 24 (0, xi_lif 4 44 28, 0, 0)) (x_L 28 (0, xi_load 1 0 29, 0, 0)))) (x_T 29 (x_L 29 (0, xi_i2l 30, 0, 0)) (x_T 30 (x_L 30 (0, xi_load 3 0 31, 0, 0)) (x_L 31 (0, xi_i2l 32, 0, 0))))) (x_T 36 (x_T 32 (x_L 32 (0, xi_aTM (6, 2, 0) (6, 4, 0) 7 33, 0, 0)) (x_T 33 (x_L 33 (0, xi_push (4, 16000, 16000) 36, 0, 0)) (x_L 36 (0, xi_lif 4 44 40, 0, 0)))) (x_T 41 (x_T 40 (x_L 40 (0, xi_push (0, 1, 1) 41, 0, 0)) (x_L 41 (0, xi_goto 45, 0, 0))) (x_T 44 (x_L 44 (0, xi_push (0, 0, 0) 45, 0, 0)) (x_L 45 (1, x_nof, 4, 0)))))))
set_option maxRecDepth 20000 in
set_option maxHeartbeats 4000000 in
theorem tb_110c_0_ok (K : xKx) (hK : x_KP K) : ∀ pc, x_EOq cls K xI m_110 pc (tb_110c_0 pc) :=
  (x_Tok2
  (x_Tok2
  (x_Tok2
  (x_Tok2
  (x_Lok (x_st (I := xI) (xr_iload_n (i := 0) (x_dk dl_110c_0_ok 0 rfl))))
  (x_Tok2
  (x_Lok (x_st (I := xI) (xr_iload_n (i := 1) (x_dk dl_110c_0_ok 1 rfl))))
  (x_Lok (x_ca (I := xI) (q' := m_109) rfl (xr_callS (q' := m_109) (ix := 313) (n := 2) (in_t11 (List.mem_of_getElem? (i := 48) rfl) rfl) good_w (in_t1 (List.mem_of_getElem? (i := 14) rfl) rfl) (in_t11 (List.mem_of_getElem? (i := 46) rfl) rfl) (in_t11 (List.mem_of_getElem? (i := 47) rfl) rfl) (by decide +kernel) (by decide +kernel) (x_dk dl_110c_0_ok 2 rfl))))))
  (x_Tok2
  (x_Lok (x_st (I := xI) (xr_ifeq (off := 39) (tg := 44) (x_dk dl_110c_0_ok 3 rfl) (by decide))))
  (x_Tok2
  (x_Lok (x_st (I := xI) (xr_iload_n (i := 2) (x_dk dl_110c_0_ok 4 rfl))))
  (x_Lok (x_st (I := xI) (xr_iflt (off := 35) (tg := 44) (x_dk dl_110c_0_ok 5 rfl) (by decide)))))))
  (x_Tok2
  (x_Tok2
  (x_Lok (x_st (I := xI) (xr_iload_n (i := 3) (x_dk dl_110c_0_ok 6 rfl))))
  (x_Tok2
  (x_Lok (x_st (I := xI) (xr_iflt (off := 31) (tg := 44) (x_dk dl_110c_0_ok 7 rfl) (by decide))))
  (x_Lok (x_st (I := xI) (xr_iload_n (i := 0) (x_dk dl_110c_0_ok 8 rfl))))))
  (x_Tok2
  (x_Tok2
  (x_Lok (x_st (I := xI) (xr_i2l (x_dk dl_110c_0_ok 9 rfl))))
  (x_Lok (x_st (I := xI) (xr_iload_n (i := 2) (x_dk dl_110c_0_ok 10 rfl)))))
  (x_Tok2
  (x_Lok (x_st (I := xI) (xr_i2l (x_dk dl_110c_0_ok 11 rfl))))
  (x_Lok (x_st (I := xI) (xr_taddM (px := (6, 1, 0)) (py := (6, 3, 0)) (c := 6) (x_dk dl_110c_0_ok 12 rfl) (x_hV2L hK rfl rfl (by decide) (fun f h => by unfold x_fR at h; show f 6 = f 1 + f 3; omega)))))))))
  (x_Tok2
  (x_Tok2
  (x_Tok2
  (x_Lok (x_st (I := xI) (xr_ldc2 (ix := 311) (z := 16000) (v := 16000) (x_dk dl_110c_0_ok 13 rfl) (in_t11 (List.mem_of_getElem? (i := 50) rfl) rfl) (by decide))))
  (x_Tok2
  (x_Lok (x_st (I := xI) (xr_lifgt (off := 19) (tg := 44) (x_dk dl_110c_0_ok 14 rfl) (x_dk dl_110c_0_ok 15 rfl) (by decide))))
  (x_Lok (x_st (I := xI) (xr_iload_n (i := 1) (x_dk dl_110c_0_ok 16 rfl))))))
  (x_Tok2
  (x_Lok (x_st (I := xI) (xr_i2l (x_dk dl_110c_0_ok 17 rfl))))
  (x_Tok2
  (x_Lok (x_st (I := xI) (xr_iload_n (i := 3) (x_dk dl_110c_0_ok 18 rfl))))
  (x_Lok (x_st (I := xI) (xr_i2l (x_dk dl_110c_0_ok 19 rfl)))))))
  (x_Tok2
  (x_Tok2
  (x_Lok (x_st (I := xI) (xr_taddM (px := (6, 2, 0)) (py := (6, 4, 0)) (c := 7) (x_dk dl_110c_0_ok 20 rfl) (x_hV2L hK rfl rfl (by decide) (fun f h => by unfold x_fR at h; show f 7 = f 2 + f 4; omega)))))
  (x_Tok2
  (x_Lok (x_st (I := xI) (xr_ldc2 (ix := 311) (z := 16000) (v := 16000) (x_dk dl_110c_0_ok 21 rfl) (in_t11 (List.mem_of_getElem? (i := 50) rfl) rfl) (by decide))))
  (x_Lok (x_st (I := xI) (xr_lifgt (off := 7) (tg := 44) (x_dk dl_110c_0_ok 22 rfl) (x_dk dl_110c_0_ok 23 rfl) (by decide))))))
  (x_Tok2
  (x_Tok2
  (x_Lok (x_st (I := xI) (xr_iconst (n := 1) (z := 1) (v := 1) (x_dk dl_110c_0_ok 24 rfl) (by decide) (by decide))))
  (x_Lok (x_st (I := xI) (xr_goto (off := 4) (tg := 45) (x_dk dl_110c_0_ok 25 rfl) (by decide)))))
  (x_Tok2
  (x_Lok (x_st (I := xI) (xr_iconst (n := 0) (z := 0) (v := 0) (x_dk dl_110c_0_ok 26 rfl) (by decide) (by decide))))
  (x_Lok (x_rt (I := xI) (k := 4) ⟨(x_dk dl_110c_0_ok 27 rfl), rfl⟩)))))))
def tb_110c : Nat → xE := tb_110c_0
theorem tb_110c_ok (K : xKx) (hK : x_KP K) : ∀ pc, x_EOq cls K xI m_110 pc (tb_110c pc) := tb_110c_0_ok K hK
end
