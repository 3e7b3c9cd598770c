noncomputable section
/-! texts on the exact machine: rows -/
section ETX
variable {ft : Nat → Nat → Nat} {cl : List vw_C} {lay : List eY} {cc : ByteArray} {own : String} {nL : Nat} {nm : String} {MC MS pc : Nat}
theorem e_T_ok {g : List eV → Option (Nat × List eV)} (h : ∀ {ad : List Nat} {ce sl : Nat} {p : Program} {l : Launch} {e : Env} {R : Room} {s : State} {m : MethodId} {args : Array Value} {below : List Frame} {meth : Method} {c : Code} {A : Nat → Prop} {H : Heap} {locs : List Loc} {Q : State → Prop} {ls : Array Slot} {st : List eV} {stk : List Value} {q : Nat × List eV}, x_Cx cc own nL nm MC MS p R s m args meth c → e_Old ad A s H → g st = some q → x_all2 (e_rel ad) st stk → ∃ stk', x_all2 (e_rel ad) q.2 stk' ∧ (W p l e R s m args below meth c H locs ce sl Q (F0 m q.1 ls stk') → W p l e R s m args below meth c H locs ce sl Q (F0 m pc ls stk))) : e_Snd ft cl lay cc own nL nm MC MS pc (e_S g) := by
  intro ad ce sl p l e R s m args below meth c D A H0 Q C hce hsl hA t t' hpc hf hg ls stk H locs hI
  obtain ⟨lv, ws, tys, h1, h2, h3, h4, h5, h6, h7, h8⟩ := hI
  subst hpc
  unfold e_S at hf
  cases hgt : g t.2.2.1 with
  | none => rw [hgt] at hf; cases hf
  | some q =>
    rw [hgt] at hf
    have hf' : some (q.1, t.2.1, q.2, t.2.2.2) = some t' := hf
    cases hf'
    obtain ⟨stk', k1, k2⟩ := h C (h5.2.kept h8.2.1) hgt h3
    exact k2 (hg ls stk' H locs ⟨lv, ws, tys, h1, h2, k1, h4, h5, h6, h7, h8⟩)
theorem e_ref1 {ad : List Nat} {j : Int} {a : Nat} (h0 : 0 ≤ j) (h : ad[j.toNat]? = some a) : e_rel ad (1, j) (.ref a) := ⟨h0, a, h, rfl⟩
theorem e_refE {ad : List Nat} {j : Int} {a : Nat} {v : Value} (hr : e_rel ad (1, j) v) (h : ad[j.toNat]? = some a) : v = .ref a := by
  obtain ⟨-, b, hb, rfl⟩ := hr
  have e : some a = some b := h.symm.trans hb
  cases e
  rfl
theorem er_ldcK (d : decode cc pc = .ok (.ldc 106, 2)) : e_Snd ft cl lay cc "RobotCellHouse$Reader" nL nm MC MS pc (ei_push (1, 357) (pc + 2)) :=
  e_T_ok (g := fun st => some (pc + 2, (1, 357) :: st)) (by
    intro ad ce sl p l e R s m args below meth c A H locs Q ls st stk q C hO hg h3
    cases hg
    obtain ⟨aK, aS, aN, bK, bS, h1, h2, -⟩ := hO
    exact ⟨.ref aK :: stk, ⟨e_ref1 (by decide) h1.1, h3⟩, fun k => va_ldcS C.1.1 C.1.2.1 C.1.2.2.2.1 h2.1 d k⟩)
theorem er_ldcG (d : decode cc pc = .ok (.ldc 135, 2)) : e_Snd ft cl lay cc "RobotCellHouse$Reader" nL nm MC MS pc (ei_push (1, 358) (pc + 2)) :=
  e_T_ok (g := fun st => some (pc + 2, (1, 358) :: st)) (by
    intro ad ce sl p l e R s m args below meth c A H locs Q ls st stk q C hO hg h3
    cases hg
    obtain ⟨aK, aS, aN, bK, bS, h1, h2, -⟩ := hO
    exact ⟨.ref aS :: stk, ⟨e_ref1 (by decide) h1.2.1, h3⟩, fun k => va_ldcS C.1.1 C.1.2.1 C.1.2.2.2.1 h2.2.1 d k⟩)
theorem e_ldcwS {p : Program} {l : Launch} {e : Env} {R : Room} {s : State} {m : MethodId} {args : Array Value} {below : List Frame} {meth : Method} {c : Code} {H : Heap} {locs : List Loc} {cells slots : Nat} {Q : State → Prop} {ls : Array Slot} {rest : List Value} (hexec : p.tables.exec = Jvm.exec) (hb : c.code = cc) {tx : String} {index q : Nat} (hown : s.vm.findClass own = some m.cls) (hZ : vk_R own index tx q s) (hdg : decode cc pc = .ok (.ldc_w index, 3))
    (k : W p l e R s m args below meth c H locs cells slots Q (F0 m (pc + 3) ls (.ref q :: rest))) : W p l e R s m args below meth c H locs cells slots Q (F0 m pc ls rest) := by
  intro T hT X
  obtain ⟨t, a1, b1⟩ := k T hT X
  refine ⟨t, ?_, b1⟩
  obtain ⟨k0, cf, i, a', hk, hcf, hcp, -, hr, hev'⟩ := Cond.stringRef_spec hown hZ.1
  cases hZ.2.symm.trans hev'
  obtain ⟨k', hk', he⟩ := X.warmed.alike.2.2 _ _ hk
  have hr' : k'.resolved[index]? = some (some (.string q)) := by
    rcases X.warmed.entry hk hk' index with h | ⟨h, -⟩
    · rw [h]; exact hr
    · rw [hr] at h; cases h
  have hdg2 : decode c.code (F0 m pc ls rest).pc = .ok (.ldc_w index, 3) := by rw [hb]; exact hdg
  jvm_step X.here [hexec, hdg2, ldc_w.wp_string (e := e) (s := T) (f := F0 m pc ls rest) X.here.top hk' (by rw [he]; exact hcf) hcp hr']
  exact a1
theorem er_ldcM (d : decode cc pc = .ok (.ldc_w 515, 3)) : e_Snd ft cl lay cc "RobotCellHouseModel" nL nm MC MS pc (ei_push (1, 357) (pc + 3)) :=
  e_T_ok (g := fun st => some (pc + 3, (1, 357) :: st)) (by
    intro ad ce sl p l e R s m args below meth c A H locs Q ls st stk q C hO hg h3
    cases hg
    obtain ⟨aK, aS, aN, bK, bS, h1, h2, -⟩ := hO
    exact ⟨.ref aK :: stk, ⟨e_ref1 (by decide) h1.1, h3⟩, fun k => e_ldcwS C.1.1 C.1.2.1 C.1.2.2.2.1 h2.2.2 d k⟩)
theorem e_gets {p : Program} {l : Launch} {e : Env} {R : Room} {s : State} {m : MethodId} {args : Array Value} {below : List Frame} {meth : Method} {c : Code} {H : Heap} {locs : List Loc} {cells slots : Nat} {Q : State → Prop} {ls : Array Slot} {rest : List Value} {A : Nat → Prop} {K n d : String} {v : Value} {ix : Nat} (C : x_Cx cc own nL nm MC MS p R s m args meth c) (hZ : va_Z K n d v A s H) (hw : Cond.fieldLink own ix K n d ∈ x_tbl) (hd : decode cc pc = .ok (.getstatic ix, 3))
    (k : W p l e R s m args below meth c H locs cells slots Q (F0 m (pc + 3) ls (v :: rest))) : W p l e R s m args below meth c H locs cells slots Q (F0 m pc ls rest) := by
  obtain ⟨cf, kf, fi, f, a, cell, k1, k2, k3, k4, k5, k6, k7, k8⟩ := hZ
  exact W.gets C.1.1 C.1.2.1 C.1.2.2.2.1 (C.1.2.2.2.2 _ hw) k1 k2 k3 k4 k5 (fun e => by rw [e] at k6; cases k6) k7 rfl hd k
theorem er_comp {ix : Nat} (hw : Cond.fieldLink own ix "java/lang/String" "COMPACT_STRINGS" "Z" ∈ x_tbl) (d : decode cc pc = .ok (.getstatic ix, 3)) : e_Snd ft cl lay cc own nL nm MC MS pc (ei_push (0, 1) (pc + 3)) :=
  e_T_ok (g := fun st => some (pc + 3, (0, 1) :: st)) (by
    intro ad ce sl p l e R s m args below meth c A H locs Q ls st stk q C hO hg h3
    cases hg
    obtain ⟨aK, aS, aN, bK, bS, h1, h2, h4, h5, h6, h7, -⟩ := hO
    exact ⟨.int 1 :: stk, ⟨⟨1, rfl, by decide⟩, h3⟩, fun k => e_gets C h7 hw d k⟩)
theorem er_sio {ix : Nat} (hw : Cond.fieldLink own ix "jdk/internal/util/Preconditions" "SIOOBE_FORMATTER" "Ljava/util/function/BiFunction;" ∈ x_tbl) (d : decode cc pc = .ok (.getstatic ix, 3)) : e_Snd ft cl lay cc own nL nm MC MS pc (ei_push (5, 0) (pc + 3)) :=
  e_T_ok (g := fun st => some (pc + 3, (5, 0) :: st)) (by
    intro ad ce sl p l e R s m args below meth c A H locs Q ls st stk q C hO hg h3
    cases hg
    obtain ⟨aK, aS, aN, bK, bS, h1, h2, h4, h5, h6, h7, vF, h8, h9⟩ := hO
    exact ⟨vF :: stk, ⟨h8, h3⟩, fun k => e_gets C h9 hw d k⟩)
theorem er_sines {ix : Nat} (hw : Cond.fieldLink own ix "RobotCellHouse" "SINES" "[I" ∈ x_tbl) (d : decode cc pc = .ok (.getstatic ix, 3)) : e_Snd ft cl lay cc own nL nm MC MS pc (ei_push (1, 359) (pc + 3)) :=
  e_T_ok (g := fun st => some (pc + 3, (1, 359) :: st)) (by
    intro ad ce sl p l e R s m args below meth c A H locs Q ls st stk q C hO hg h3
    cases hg
    obtain ⟨aK, aS, aN, bK, bS, h1, h2, h4, h5, -⟩ := hO
    exact ⟨.ref aN :: stk, ⟨e_ref1 (by decide) h1.2.2.1, h3⟩, fun k => e_gets C h5 hw d k⟩)
def g_cod (nx : Nat) : List eV → Option (Nat × List eV)
  | (1, j) :: r => if j = 357 ∨ j = 358 then some (nx, (0, 0) :: r) else none
  | _ => none
def g_val (nx : Nat) : List eV → Option (Nat × List eV)
  | (1, j) :: r => if j = 357 then some (nx, (1, 360) :: r) else if j = 358 then some (nx, (1, 361) :: r) else none
  | _ => none
def g_tln (nx : Nat) : List eV → Option (Nat × List eV)
  | (1, j) :: r => if j = 360 then some (nx, (0, 171) :: r) else if j = 361 then some (nx, (0, 13) :: r) else none
  | _ => none
def g_tld (nx : Nat) : List eV → Option (Nat × List eV)
  | (0, i) :: (1, j) :: r => if j = 360 ∧ 0 ≤ i ∧ i < 171 then some (nx, (0, (e_key.getD i.toNat 0).toInt) :: r) else if j = 361 ∧ 0 ≤ i ∧ i < 13 then some (nx, (0, (e_sgn.getD i.toNat 0).toInt) :: r) else none
  | _ => none
theorem e_tgetf {p : Program} {l : Launch} {e : Env} {R : Room} {s : State} {m : MethodId} {args : Array Value} {below : List Frame} {meth : Method} {c : Code} {H : Heap} {locs : List Loc} {cells slots : Nat} {Q : State → Prop} {ls : Array Slot} {rest : List Value} {A : Nat → Prop} {o n d : String} {v : Value} {ix a : Nat} (C : x_Cx cc own nL nm MC MS p R s m args meth c) (hZ : va_OF o n d v a A s H) (hw : Cond.fieldLink own ix o n d ∈ x_tbl) (hd : decode cc pc = .ok (.getfield ix, 3))
    (k : W p l e R s m args below meth c H locs cells slots Q (F0 m (pc + 3) ls (v :: rest))) : W p l e R s m args below meth c H locs cells slots Q (F0 m pc ls (.ref a :: rest)) := by
  obtain ⟨cf, k0, fi, f, cell, h1, h2, h3, h4, h5, h6⟩ := hZ
  exact W.getf C.1.1 C.1.2.1 C.1.2.2.2.1 (C.1.2.2.2.2 _ hw) h1 h2 h3 h4 (v := v) h5 rfl rfl hd k
theorem er_tcod {ix : Nat} (hw : Cond.fieldLink own ix "java/lang/String" "coder" "B" ∈ x_tbl) (d : decode cc pc = .ok (.getfield ix, 3)) : e_Snd ft cl lay cc own nL nm MC MS pc (e_S (g_cod (pc + 3))) :=
  e_T_ok (by
    intro ad ce sl p l e R s m args below meth c A H locs Q ls st stk q C hO hg h3
    unfold g_cod at hg
    split at hg
    · rename_i j r
      split at hg
      · rename_i hj
        cases hg
        obtain ⟨aK, aS, aN, bK, bS, h1, h2, h4, -⟩ := hO
        match stk, h3 with
        | v :: rest, h3 =>
          rcases hj with rfl | rfl
          · have e := e_refE h3.1 h1.1
            subst e
            exact ⟨.int 0 :: rest, ⟨⟨0, rfl, by decide⟩, h3.2⟩, fun k => e_tgetf C (h4.1 0 (by decide)).2.1 hw d k⟩
          · have e := e_refE h3.1 h1.2.1
            subst e
            exact ⟨.int 0 :: rest, ⟨⟨0, rfl, by decide⟩, h3.2⟩, fun k => e_tgetf C (h4.1 1 (by decide)).2.1 hw d k⟩
      · cases hg
    · cases hg)
theorem er_tval {ix : Nat} (hw : Cond.fieldLink own ix "java/lang/String" "value" "[B" ∈ x_tbl) (d : decode cc pc = .ok (.getfield ix, 3)) : e_Snd ft cl lay cc own nL nm MC MS pc (e_S (g_val (pc + 3))) :=
  e_T_ok (by
    intro ad ce sl p l e R s m args below meth c A H locs Q ls st stk q C hO hg h3
    unfold g_val at hg
    split at hg
    · rename_i j r
      obtain ⟨aK, aS, aN, bK, bS, h1, h2, h4, -⟩ := hO
      match stk, h3 with
      | v :: rest, h3 =>
        split at hg
        · rename_i hj
          cases hg
          subst hj
          have e := e_refE h3.1 h1.1
          subst e
          exact ⟨.ref bK :: rest, ⟨e_ref1 (by decide) h1.2.2.2.1, h3.2⟩, fun k => e_tgetf C (h4.1 0 (by decide)).2.2.1 hw d k⟩
        · split at hg
          · rename_i hj
            cases hg
            subst hj
            have e := e_refE h3.1 h1.2.1
            subst e
            exact ⟨.ref bS :: rest, ⟨e_ref1 (by decide) h1.2.2.2.2, h3.2⟩, fun k => e_tgetf C (h4.1 1 (by decide)).2.2.1 hw d k⟩
          · cases hg
    · cases hg)
theorem er_tln (d : decode cc pc = .ok (.arraylength, 1)) : e_Snd ft cl lay cc own nL nm MC MS pc (e_S (g_tln (pc + 1))) :=
  e_T_ok (by
    intro ad ce sl p l e R s m args below meth c A H locs Q ls st stk q C hO hg h3
    unfold g_tln at hg
    split at hg
    · rename_i j r
      obtain ⟨aK, aS, aN, bK, bS, h1, h2, h4, -⟩ := hO
      match stk, h3 with
      | v :: rest, h3 =>
        split at hg
        · rename_i hj
          cases hg
          subst hj
          have e := e_refE h3.1 h1.2.2.2.1
          subst e
          obtain ⟨cell, k1, k2, k3, k4, k5, k6, k7⟩ := (h4.1 0 (by decide)).2.2.2
          exact ⟨.int (Int32.ofNat 171) :: rest, ⟨⟨_, rfl, by decide⟩, h3.2⟩, fun k => W.alen (n := Int32.ofNat 171) C.1.1 C.1.2.1 k1 k2 k5 rfl rfl d k⟩
        · split at hg
          · rename_i hj
            cases hg
            subst hj
            have e := e_refE h3.1 h1.2.2.2.2
            subst e
            obtain ⟨cell, k1, k2, k3, k4, k5, k6, k7⟩ := (h4.1 1 (by decide)).2.2.2
            exact ⟨.int (Int32.ofNat 13) :: rest, ⟨⟨_, rfl, by decide⟩, h3.2⟩, fun k => W.alen (n := Int32.ofNat 13) C.1.1 C.1.2.1 k1 k2 k5 rfl rfl d k⟩
          · cases hg
    · cases hg)
/-- an index that lies in a row -/
theorem e_inr {z : Int32} {N n : Nat} (h0 : 0 ≤ z.toInt) (h1 : z.toInt < N) (h : N ≤ n) : ¬ (z < 0 ∨ n ≤ z.toNatClampNeg) := by
  intro q
  rcases q with q | q
  · have : z.toInt < (0 : Int32).toInt := x_lt32.mp q
    have e : (0 : Int32).toInt = 0 := by decide
    omega
  · have e : z.toNatClampNeg = z.toInt.toNat := rfl
    omega
theorem er_tld (d : decode cc pc = .ok (.baload, 1)) : e_Snd ft cl lay cc own nL nm MC MS pc (e_S (g_tld (pc + 1))) :=
  e_T_ok (by
    intro ad ce sl p l e R s m args below meth c A H locs Q ls st stk q C hO hg h3
    unfold g_tld at hg
    split at hg
    · rename_i i j r
      obtain ⟨aK, aS, aN, bK, bS, h1, h2, h4, -⟩ := hO
      match stk, h3 with
      | v1 :: v :: rest, h3 =>
        obtain ⟨z, rfl, rfl⟩ := e_int h3.1
        split at hg
        · rename_i hj
          cases hg
          obtain ⟨rfl, g0, g1⟩ := hj
          have e := e_refE h3.2.1 h1.2.2.2.1
          subst e
          obtain ⟨cell, k1, k2, k3, k4, k5, k6, k7⟩ := (h4.1 0 (by decide)).2.2.2
          exact ⟨.int (e_key.getD z.toInt.toNat 0) :: rest, ⟨⟨_, rfl, rfl⟩, h3.2.2⟩, fun k => W.bald (v := .int (e_key.getD z.toInt.toNat 0)) C.1.1 C.1.2.1 k1 k2 k3 (e_inr (N := 171) g0 g1 k4) (k6 z.toInt.toNat (show z.toInt.toNat < 171 by omega)) rfl rfl d k⟩
        · split at hg
          · rename_i hj
            cases hg
            obtain ⟨rfl, g0, g1⟩ := hj
            have e := e_refE h3.2.1 h1.2.2.2.2
            subst e
            obtain ⟨cell, k1, k2, k3, k4, k5, k6, k7⟩ := (h4.1 1 (by decide)).2.2.2
            exact ⟨.int (e_sgn.getD z.toInt.toNat 0) :: rest, ⟨⟨_, rfl, rfl⟩, h3.2.2⟩, fun k => W.bald (v := .int (e_sgn.getD z.toInt.toNat 0)) C.1.1 C.1.2.1 k1 k2 k3 (e_inr (N := 13) g0 g1 k4) (k6 z.toInt.toNat (show z.toInt.toNat < 13 by omega)) rfl rfl d k⟩
          · cases hg
    · cases hg)
theorem er_sn (d : decode cc pc = .ok (.iaload, 1)) : e_Snd ft cl lay cc own nL nm MC MS pc (e_S (g_sn (pc + 1))) :=
  e_T_ok (by
    intro ad ce sl p l e R s m args below meth c A H locs Q ls st stk q C hO hg h3
    unfold g_sn at hg
    split at hg
    · rename_i i j r
      obtain ⟨aK, aS, aN, bK, bS, h1, h2, h4, h5, h6, -⟩ := hO
      match stk, h3 with
      | v1 :: v :: rest, h3 =>
        obtain ⟨z, rfl, rfl⟩ := e_int h3.1
        split at hg
        · rename_i hj
          cases hg
          obtain ⟨rfl, g0, g1⟩ := hj
          have e := e_refE h3.2.1 h1.2.2.1
          subst e
          obtain ⟨cell, k1, k2, k3, k4, k5, k6, k7⟩ := h6
          exact ⟨.int (e_sin.getD z.toInt.toNat 0) :: rest, ⟨⟨_, rfl, rfl⟩, h3.2.2⟩, fun k => W.iald (v := .int (e_sin.getD z.toInt.toNat 0)) C.1.1 C.1.2.1 k1 k2 k3 (e_inr (N := 1025) g0 g1 k4) (k6 z.toInt.toNat (show z.toInt.toNat < 1025 by omega)) rfl rfl d k⟩
        · cases hg
    · cases hg)
theorem er_ml {ix : Nat} (hl : Cond.methodLink own ix Lib.MathLoose.min_long.x ∈ x_tbl) (hst : Cond.static Lib.MathLoose.min_long.x ∈ x_tbl) (hi : Cond.initialized "java/lang/Math" ∈ x_tbl) (hc : Cond.code Lib.MathLoose.min_long.x Lib.MathLoose.min_long.code 4 (some .long) ∈ x_tbl) (d : decode cc pc = .ok (.invokestatic ix, 3)) : e_Snd ft cl lay cc own nL nm MC MS pc (e_S (g_ml (pc + 3))) := by
  intro ad ce sl p l e R s m args below meth c D A H0 Q C hce hsl hA t t' hpc hf hg
  unfold e_S g_ml at hf
  split at hf
  · rename_i y x r hst'
    cases hb : Nat.ble (e_cats r) 8 with
    | false => rw [hb] at hf; cases hf
    | true =>
      rw [hb] at hf
      cases hf
      have b1 := Nat.le_of_ble_eq_true hb
      subst hpc
      intro ls stk H locs ⟨lv, ws, tys, h1, h2, h3, h4⟩
      rw [hst'] at h3
      match stk, h3 with
      | v1 :: v2 :: rest, h3 =>
        obtain ⟨ny, rfl, rfl⟩ := e_long h3.1
        obtain ⟨nx', rfl, rfl⟩ := e_long h3.2.1
        have hcat := (e_cats_ok h3.2.2).1
        have hts := C.1.2.2.2.2
        refine va_mmin_long C.1.1 C.1.2.1 (by rw [C.1.2.2.1, h1.1]) C.1.2.2.2.1 (hts _ hl) (hts _ hst) (hts _ hi) (hts _ hc) C.2.2.2.2.1 (by have := C.2.2.2.2.2.1; omega) (by rw [C.2.2.1]; exact hce) (by rw [C.2.2.2.1]; exact hsl) d (hg ls (.long (if ny < nx' then ny else nx') :: rest) H locs ⟨lv, ws, tys, h1, h2, ⟨⟨_, rfl, ?_⟩, h3.2.2⟩, h4⟩)
        show _ = (if nx'.toInt ≤ ny.toInt then nx'.toInt else ny.toInt)
        by_cases hlt : ny < nx'
        · rw [if_pos hlt, if_neg (by have := Int64.lt_iff_toInt_lt.mp hlt; omega)]
        · rw [if_neg hlt, if_pos (by have : ¬ ny.toInt < nx'.toInt := fun q => hlt (Int64.lt_iff_toInt_lt.mpr q); omega)]
  · cases hf
theorem nx_S {g : List eV → Option (Nat × List eV)} (hg : ∀ st q, g st = some q → ∀ x ∈ q.2, x ∈ st ∨ x.1 ≠ 1 ∨ (357 ≤ x.2 ∧ x.2 ≤ 400)) : e_NI lay (e_S g) ∧ e_IN ft lay (e_S g) := ⟨ni_S, e_IN.stk g (fun _ => rfl) hg⟩
/-- one value comes, k go -/
theorem bS_one {x : eV} {st r : List eV} (hx : x.1 ≠ 1 ∨ (357 ≤ x.2 ∧ x.2 ≤ 400)) (hr : ∀ y ∈ r, y ∈ st) : ∀ y ∈ x :: r, y ∈ st ∨ y.1 ≠ 1 ∨ (357 ≤ y.2 ∧ y.2 ≤ 400) := fun y hy => by
  rcases List.mem_cons.mp hy with rfl | hy
  · exact Or.inr hx
  · exact Or.inl (hr y hy)
theorem bS_cod {nx : Nat} : ∀ st q, g_cod nx st = some q → ∀ x ∈ q.2, x ∈ st ∨ x.1 ≠ 1 ∨ (357 ≤ x.2 ∧ x.2 ≤ 400) := fun st q h => by
  unfold g_cod at h
  split at h
  · split at h
    · cases h; exact bS_one (Or.inl (show (0 : Nat) ≠ 1 by decide)) (fun y hy => List.mem_cons_of_mem _ hy)
    · cases h
  · cases h
theorem bS_val {nx : Nat} : ∀ st q, g_val nx st = some q → ∀ x ∈ q.2, x ∈ st ∨ x.1 ≠ 1 ∨ (357 ≤ x.2 ∧ x.2 ≤ 400) := fun st q h => by
  unfold g_val at h
  split at h
  · split at h
    · cases h; exact bS_one (Or.inr ⟨(show (357 : Int) ≤ 360 by decide), (show (360 : Int) ≤ 400 by decide)⟩) (fun y hy => List.mem_cons_of_mem _ hy)
    · split at h
      · cases h; exact bS_one (Or.inr ⟨(show (357 : Int) ≤ 361 by decide), (show (361 : Int) ≤ 400 by decide)⟩) (fun y hy => List.mem_cons_of_mem _ hy)
      · cases h
  · cases h
theorem bS_tln {nx : Nat} : ∀ st q, g_tln nx st = some q → ∀ x ∈ q.2, x ∈ st ∨ x.1 ≠ 1 ∨ (357 ≤ x.2 ∧ x.2 ≤ 400) := fun st q h => by
  unfold g_tln at h
  split at h
  · split at h
    · cases h; exact bS_one (Or.inl (show (0 : Nat) ≠ 1 by decide)) (fun y hy => List.mem_cons_of_mem _ hy)
    · split at h
      · cases h; exact bS_one (Or.inl (show (0 : Nat) ≠ 1 by decide)) (fun y hy => List.mem_cons_of_mem _ hy)
      · cases h
  · cases h
theorem bS_tld {nx : Nat} : ∀ st q, g_tld nx st = some q → ∀ x ∈ q.2, x ∈ st ∨ x.1 ≠ 1 ∨ (357 ≤ x.2 ∧ x.2 ≤ 400) := fun st q h => by
  unfold g_tld at h
  split at h
  · split at h
    · cases h; exact bS_one (Or.inl (show (0 : Nat) ≠ 1 by decide)) (fun y hy => List.mem_cons_of_mem _ (List.mem_cons_of_mem _ hy))
    · split at h
      · cases h; exact bS_one (Or.inl (show (0 : Nat) ≠ 1 by decide)) (fun y hy => List.mem_cons_of_mem _ (List.mem_cons_of_mem _ hy))
      · cases h
  · cases h
theorem bS_sn {nx : Nat} : ∀ st q, g_sn nx st = some q → ∀ x ∈ q.2, x ∈ st ∨ x.1 ≠ 1 ∨ (357 ≤ x.2 ∧ x.2 ≤ 400) := fun st q h => by
  unfold g_sn at h
  split at h
  · split at h
    · cases h; exact bS_one (Or.inl (show (0 : Nat) ≠ 1 by decide)) (fun y hy => List.mem_cons_of_mem _ (List.mem_cons_of_mem _ hy))
    · cases h
  · cases h
theorem bS_sl {nx : Nat} : ∀ st q, g_sl nx st = some q → ∀ x ∈ q.2, x ∈ st ∨ x.1 ≠ 1 ∨ (357 ≤ x.2 ∧ x.2 ≤ 400) := fun st q h => by
  unfold g_sl at h
  split at h
  · rename_i r
    cases hb : Nat.ble (e_cats r) 8 with
    | false => rw [hb] at h; cases h
    | true =>
      rw [hb] at h
      simp only [cond_true, Option.map_eq_some_iff] at h
      obtain ⟨n, -, rfl⟩ := h
      exact bS_one (Or.inl (show (0 : Nat) ≠ 1 by decide)) (fun y hy => List.mem_cons_of_mem _ hy)
  · cases h
theorem bS_sc {nx : Nat} : ∀ st q, g_sc nx st = some q → ∀ x ∈ q.2, x ∈ st ∨ x.1 ≠ 1 ∨ (357 ≤ x.2 ∧ x.2 ≤ 400) := fun st q h => by
  unfold g_sc at h
  split at h
  · rename_i r
    cases hb : Nat.ble (e_cats r) 8 with
    | false => rw [hb] at h; cases h
    | true =>
      rw [hb] at h
      simp only [cond_true, Option.map_eq_some_iff] at h
      obtain ⟨n, -, rfl⟩ := h
      exact bS_one (Or.inl (show (0 : Nat) ≠ 1 by decide)) (fun y hy => List.mem_cons_of_mem _ (List.mem_cons_of_mem _ hy))
  · cases h
theorem bS_ix {nx : Nat} : ∀ st q, g_ix nx st = some q → ∀ x ∈ q.2, x ∈ st ∨ x.1 ≠ 1 ∨ (357 ≤ x.2 ∧ x.2 ≤ 400) := fun st q h => by
  unfold g_ix at h
  split at h
  · rename_i r
    cases hb : Nat.ble (e_cats r) 8 with
    | false => rw [hb] at h; cases h
    | true =>
      rw [hb] at h
      simp only [cond_true, Option.map_eq_some_iff] at h
      obtain ⟨n, -, rfl⟩ := h
      exact bS_one (Or.inl (show (0 : Nat) ≠ 1 by decide)) (fun y hy => List.mem_cons_of_mem _ (List.mem_cons_of_mem _ hy))
  · cases h
theorem bS_ml {nx : Nat} : ∀ st q, g_ml nx st = some q → ∀ x ∈ q.2, x ∈ st ∨ x.1 ≠ 1 ∨ (357 ≤ x.2 ∧ x.2 ≤ 400) := fun st q h => by
  unfold g_ml at h
  split at h
  · rename_i r
    cases hb : Nat.ble (e_cats r) 8 with
    | false => rw [hb] at h; cases h
    | true =>
      rw [hb] at h
      cases h
      exact bS_one (Or.inl (show (4 : Nat) ≠ 1 by decide)) (fun y hy => List.mem_cons_of_mem _ (List.mem_cons_of_mem _ hy))
  · cases h
end ETX
end
