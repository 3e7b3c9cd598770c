noncomputable section
/-! exact: the stack, the machine's own calls, null -/
def ef_dup (st : List eV) : Option (List eV) := match st with
  | x :: r => bif Nat.beq (e_ty x) 1 then none else some (x :: x :: r)
  | _ => none
def ef_pop (st : List eV) : Option (List eV) := match st with
  | x :: r => bif Nat.beq (e_ty x) 1 then none else some r
  | _ => none
def ef_dup2 (st : List eV) : Option (List eV) := match st with
  | x :: y :: r => bif Nat.beq (e_ty x) 1 || Nat.beq (e_ty y) 1 then none else some (x :: y :: x :: y :: r)
  | _ => none
def ef_dupx1 (st : List eV) : Option (List eV) := match st with
  | x :: y :: r => bif Nat.beq (e_ty x) 1 || Nat.beq (e_ty y) 1 then none else some (x :: y :: x :: r)
  | _ => none
def ef_dupx2 (st : List eV) : Option (List eV) := match st with
  | x :: y :: z :: r => bif Nat.beq (e_ty x) 1 || (Nat.beq (e_ty y) 1 || Nat.beq (e_ty z) 1) then none else some (x :: y :: z :: x :: r)
  | _ => none
theorem e_one {ad : List Nat} {x : eV} {v : Value} (h : e_rel ad x v) (hb : Nat.beq (e_ty x) 1 = false) : v.category = 1 := by
  rw [x_kd_cat (e_ty_ok h), if_neg (fun q => by rw [q] at hb; cases hb)]
section E35
variable {ft : Nat → Nat → Nat} {cl : List vw_C} {lay : List eY} {cc : ByteArray} {own : String} {nL : Nat} {nm : String} {MC MS pc nx : Nat}
theorem ef_dup_ok (hw : ∀ v : Value, v.category = 1 → x_Stk cc own nL pc nx [v] [v, v]) : e_Snd ft cl lay cc own nL nm MC MS pc (ei_stk ef_dup nx) := ei_stk_ok fun ad st st' stk h hr => by
  unfold ef_dup at h
  split at h
  · rename_i x r
    cases hb : Nat.beq (e_ty x) 1 with
    | true => rw [hb] at h; cases h
    | false =>
      rw [hb] at h
      cases h
      match stk, hr with
      | v :: rest, hr => exact ⟨[v], [v, v], rest, rfl, hw v (e_one hr.1 hb), hr.1, hr.1, hr.2⟩
  · cases h
theorem ef_pop_ok (hw : ∀ v : Value, v.category = 1 → x_Stk cc own nL pc nx [v] []) : e_Snd ft cl lay cc own nL nm MC MS pc (ei_stk ef_pop nx) := ei_stk_ok fun ad st st' stk h hr => by
  unfold ef_pop at h
  split at h
  · rename_i x r
    cases hb : Nat.beq (e_ty x) 1 with
    | true => rw [hb] at h; cases h
    | false =>
      rw [hb] at h
      cases h
      match stk, hr with
      | v :: rest, hr => exact ⟨[v], [], rest, rfl, hw v (e_one hr.1 hb), hr.2⟩
  · cases h
theorem ef_dup2_ok (hw : ∀ v u : Value, v.category = 1 → u.category = 1 → x_Stk cc own nL pc nx [v, u] [v, u, v, u]) : e_Snd ft cl lay cc own nL nm MC MS pc (ei_stk ef_dup2 nx) := ei_stk_ok fun ad st st' stk h hr => by
  unfold ef_dup2 at h
  split at h
  · rename_i x y r
    cases hb : (Nat.beq (e_ty x) 1 || Nat.beq (e_ty y) 1) with
    | true => rw [hb] at h; cases h
    | false =>
      rw [hb] at h
      cases h
      simp only [Bool.or_eq_false_iff] at hb
      match stk, hr with
      | v :: u :: rest, hr => exact ⟨[v, u], [v, u, v, u], rest, rfl, hw v u (e_one hr.1 hb.1) (e_one hr.2.1 hb.2), hr.1, hr.2.1, hr.1, hr.2.1, hr.2.2⟩
  · cases h
theorem ef_dupx1_ok (hw : ∀ v u : Value, v.category = 1 → u.category = 1 → x_Stk cc own nL pc nx [v, u] [v, u, v]) : e_Snd ft cl lay cc own nL nm MC MS pc (ei_stk ef_dupx1 nx) := ei_stk_ok fun ad st st' stk h hr => by
  unfold ef_dupx1 at h
  split at h
  · rename_i x y r
    cases hb : (Nat.beq (e_ty x) 1 || Nat.beq (e_ty y) 1) with
    | true => rw [hb] at h; cases h
    | false =>
      rw [hb] at h
      cases h
      simp only [Bool.or_eq_false_iff] at hb
      match stk, hr with
      | v :: u :: rest, hr => exact ⟨[v, u], [v, u, v], rest, rfl, hw v u (e_one hr.1 hb.1) (e_one hr.2.1 hb.2), hr.1, hr.2.1, hr.1, hr.2.2⟩
  · cases h
theorem ef_dupx2_ok (hw : ∀ v u w : Value, v.category = 1 → u.category = 1 → w.category = 1 → x_Stk cc own nL pc nx [v, u, w] [v, u, w, v]) : e_Snd ft cl lay cc own nL nm MC MS pc (ei_stk ef_dupx2 nx) := ei_stk_ok fun ad st st' stk h hr => by
  unfold ef_dupx2 at h
  split at h
  · rename_i x y z r
    cases hb : (Nat.beq (e_ty x) 1 || (Nat.beq (e_ty y) 1 || Nat.beq (e_ty z) 1)) with
    | true => rw [hb] at h; cases h
    | false =>
      rw [hb] at h
      cases h
      simp only [Bool.or_eq_false_iff] at hb
      match stk, hr with
      | v :: u :: w :: rest, hr => exact ⟨[v, u, w], [v, u, w, v], rest, rfl, hw v u w (e_one hr.1 hb.1) (e_one hr.2.1 hb.2.1) (e_one hr.2.2.1 hb.2.2), hr.1, hr.2.1, hr.2.2.1, hr.1, hr.2.2.2⟩
  · cases h
theorem er_dup (d : decode cc pc = .ok (.dup, 1)) : e_Snd ft cl lay cc own nL nm MC MS pc (ei_stk ef_dup (pc + 1)) := ef_dup_ok (fun v h => (fun S => fun k => lv_dup S.1 S.2.1 d h k))
theorem er_pop (d : decode cc pc = .ok (.pop, 1)) : e_Snd ft cl lay cc own nL nm MC MS pc (ei_stk ef_pop (pc + 1)) := ef_pop_ok (fun v h => (fun S => fun k => lv_pop S.1 S.2.1 d h k))
theorem er_dup2 (d : decode cc pc = .ok (.dup2, 1)) : e_Snd ft cl lay cc own nL nm MC MS pc (ei_stk ef_dup2 (pc + 1)) := ef_dup2_ok (fun v u h h' => (fun S => fun k => lv_dup2_11 S.1 S.2.1 d h h' k))
theorem er_dup_x1 (d : decode cc pc = .ok (.dup_x1, 1)) : e_Snd ft cl lay cc own nL nm MC MS pc (ei_stk ef_dupx1 (pc + 1)) := ef_dupx1_ok (fun v u h h' => (fun S => fun k => lv_dup_x1 S.1 S.2.1 d h h' k))
theorem er_dup_x2 (d : decode cc pc = .ok (.dup_x2, 1)) : e_Snd ft cl lay cc own nL nm MC MS pc (ei_stk ef_dupx2 (pc + 1)) := ef_dupx2_ok (fun v u w h h' h'' => (fun S => fun k => lv_dup_x2 S.1 S.2.1 d h h' h'' k))
/-- calls that the machine knows -/
def ei_m2 (F : Int → Int → Int) (nx : Nat) : eS → Option eS := fun t => match t.2.2.1 with
  | (0, y) :: (0, x) :: r => bif Nat.ble (e_cats r) 8 then some (nx, t.2.1, (0, F x y) :: r, t.2.2.2) else none
  | _ => none
def ei_abs (nx : Nat) : eS → Option eS := fun t => match t.2.2.1 with
  | (0, x) :: r => bif Nat.ble (e_cats r) 8 then some (nx, t.2.1, (0, bif decide (0 ≤ x) then x else e32 (-x)) :: r, t.2.2.2) else none
  | _ => none
def eM_min (x y : Int) : Int := bif decide (y < x) then y else x
def eM_max (x y : Int) : Int := bif decide (x < y) then y else x
theorem er_min {ix : Nat} (hl : Cond.methodLink own ix Lib.Math.min.name ∈ x_tbl) (hst : Cond.static Lib.Math.min.name ∈ x_tbl) (hi : Cond.initialized "java/lang/Math" ∈ x_tbl) (hc : Cond.code Lib.Math.min.name Lib.Math.min.code 2 (some .int) ∈ x_tbl) (d : decode cc pc = .ok (.invokestatic ix, 3)) : e_Snd ft cl lay cc own nL nm MC MS pc (ei_m2 eM_min (pc + 3)) := by
  intro ad ce sl p l e R s m args below meth c D A H0 Q C hce hsl hA t t' hpc hf hg
  unfold ei_m2 at hf
  split at hf
  · rename_i y x r hst'
    cases hb : Nat.ble (e_cats r) 8 with
    | false => rw [hb] at hf; cases hf
    | true =>
      rw [hb] at hf
      cases hf
      have b1 := Nat.le_of_ble_eq_true hb
      subst hpc
      intro ls stk H locs ⟨lv, ws, tys, h1, h2, h3, h4⟩
      rw [hst'] at h3
      match stk, h3 with
      | v1 :: v2 :: rest, h3 =>
        obtain ⟨ny, rfl, rfl⟩ := e_int h3.1
        obtain ⟨nx', rfl, rfl⟩ := e_int h3.2.1
        have hcat := (e_cats_ok h3.2.2).1
        have hts := C.1.2.2.2.2
        refine va_mmin C.1.1 C.1.2.1 (by rw [C.1.2.2.1, h1.1]) C.1.2.2.2.1 (hts _ hl) (hts _ hst) (hts _ hi) (hts _ hc) C.2.2.2.2.1 (by have := C.2.2.2.2.2.1; omega) (by rw [C.2.2.1]; exact hce) (by rw [C.2.2.2.1]; exact hsl) d (hg ls (.int (if ny < nx' then ny else nx') :: rest) H locs ⟨lv, ws, tys, h1, h2, ⟨⟨_, rfl, ?_⟩, h3.2.2⟩, h4⟩)
        show _ = eM_min _ _
        unfold eM_min
        by_cases hlt : ny < nx'
        · rw [if_pos hlt, decide_eq_true (x_lt32.mp hlt)]; rfl
        · rw [if_neg hlt, decide_eq_false (fun q => hlt (x_lt32.mpr q))]; rfl
  · cases hf
theorem er_max {ix : Nat} (hl : Cond.methodLink own ix Lib.Math.max.name ∈ x_tbl) (hst : Cond.static Lib.Math.max.name ∈ x_tbl) (hi : Cond.initialized "java/lang/Math" ∈ x_tbl) (hc : Cond.code Lib.Math.max.name Lib.Math.max.code 2 (some .int) ∈ x_tbl) (d : decode cc pc = .ok (.invokestatic ix, 3)) : e_Snd ft cl lay cc own nL nm MC MS pc (ei_m2 eM_max (pc + 3)) := by
  intro ad ce sl p l e R s m args below meth c D A H0 Q C hce hsl hA t t' hpc hf hg
  unfold ei_m2 at hf
  split at hf
  · rename_i y x r hst'
    cases hb : Nat.ble (e_cats r) 8 with
    | false => rw [hb] at hf; cases hf
    | true =>
      rw [hb] at hf
      cases hf
      have b1 := Nat.le_of_ble_eq_true hb
      subst hpc
      intro ls stk H locs ⟨lv, ws, tys, h1, h2, h3, h4⟩
      rw [hst'] at h3
      match stk, h3 with
      | v1 :: v2 :: rest, h3 =>
        obtain ⟨ny, rfl, rfl⟩ := e_int h3.1
        obtain ⟨nx', rfl, rfl⟩ := e_int h3.2.1
        have hcat := (e_cats_ok h3.2.2).1
        have hts := C.1.2.2.2.2
        refine va_mmax C.1.1 C.1.2.1 (by rw [C.1.2.2.1, h1.1]) C.1.2.2.2.1 (hts _ hl) (hts _ hst) (hts _ hi) (hts _ hc) C.2.2.2.2.1 (by have := C.2.2.2.2.2.1; omega) (by rw [C.2.2.1]; exact hce) (by rw [C.2.2.2.1]; exact hsl) d (hg ls (.int (if nx' < ny then ny else nx') :: rest) H locs ⟨lv, ws, tys, h1, h2, ⟨⟨_, rfl, ?_⟩, h3.2.2⟩, h4⟩)
        show _ = eM_max _ _
        unfold eM_max
        by_cases hlt : nx' < ny
        · rw [if_pos hlt, decide_eq_true (x_lt32.mp hlt)]; rfl
        · rw [if_neg hlt, decide_eq_false (fun q => hlt (x_lt32.mpr q))]; rfl
  · cases hf
theorem er_abs {ix : Nat} (hl : Cond.methodLink own ix Lib.Math.abs.name ∈ x_tbl) (hst : Cond.static Lib.Math.abs.name ∈ x_tbl) (hi : Cond.initialized "java/lang/Math" ∈ x_tbl) (hc : Cond.code Lib.Math.abs.name Lib.Math.abs.code 1 (some .int) ∈ x_tbl) (d : decode cc pc = .ok (.invokestatic ix, 3)) : e_Snd ft cl lay cc own nL nm MC MS pc (ei_abs (pc + 3)) := by
  intro ad ce sl p l e R s m args below meth c D A H0 Q C hce hsl hA t t' hpc hf hg
  unfold ei_abs at hf
  split at hf
  · rename_i x r hst'
    cases hb : Nat.ble (e_cats r) 8 with
    | false => rw [hb] at hf; cases hf
    | true =>
      rw [hb] at hf
      cases hf
      have b1 := Nat.le_of_ble_eq_true hb
      subst hpc
      intro ls stk H locs ⟨lv, ws, tys, h1, h2, h3, h4⟩
      rw [hst'] at h3
      match stk, h3 with
      | v2 :: rest, h3 =>
        obtain ⟨nx', rfl, rfl⟩ := e_int h3.1
        have hcat := (e_cats_ok h3.2).1
        have hts := C.1.2.2.2.2
        refine va_mabs C.1.1 C.1.2.1 (by rw [C.1.2.2.1, h1.1]) C.1.2.2.2.1 (hts _ hl) (hts _ hst) (hts _ hi) (hts _ hc) C.2.2.2.2.1 (by have := C.2.2.2.2.2.1; omega) (by rw [C.2.2.1]; exact hce) (by rw [C.2.2.2.1]; exact hsl) d (hg ls (.int (if 0 ≤ nx' then nx' else 0 - nx') :: rest) H locs ⟨lv, ws, tys, h1, h2, ⟨⟨_, rfl, ?_⟩, h3.2⟩, h4⟩)
        show _ = bif decide (0 ≤ nx'.toInt) then nx'.toInt else e32 (-nx'.toInt)
        by_cases hle : 0 ≤ nx'
        · rw [if_pos hle, decide_eq_true (x_ge0.mp hle)]; rfl
        · rw [if_neg hle, decide_eq_false (fun q => hle (x_ge0.mpr q))]
          rw [Int32.toInt_sub, x_z, Int.zero_sub]
          rfl
  · cases hf
/-- null, or a cell -/
def ei_null (tg nx : Nat) : eS → Option eS := fun t => match t.2.2.1 with
  | (2, _) :: r => some (tg, t.2.1, r, t.2.2.2)
  | (1, _) :: r => some (nx, t.2.1, r, t.2.2.2)
  | _ => none
theorem er_ifnull {off : Int} {tg : Nat} (d : decode cc pc = .ok (.ifnull off, 3)) (ht : (pc : Int) + off = (tg : Int)) : e_Snd ft cl lay cc own nL nm MC MS pc (ei_null tg (pc + 3)) := by
  intro ad ce sl p l e R s m args below meth c D A H0 Q C hce hsl hA t t' hpc hf hg
  unfold ei_null at hf
  split at hf
  · rename_i b r hst
    cases hf
    subst hpc
    intro ls stk H locs ⟨lv, ws, tys, h1, h2, h3, h4⟩
    rw [hst] at h3
    match stk, h3 with
    | v :: rest, h3 =>
      have hv : v = .null := h3.1
      subst hv
      exact lv_ifnullN C.1.1 C.1.2.1 d ht (hg ls rest H locs ⟨lv, ws, tys, h1, h2, h3.2, h4⟩)
  · rename_i b r hst
    cases hf
    subst hpc
    intro ls stk H locs ⟨lv, ws, tys, h1, h2, h3, h4⟩
    rw [hst] at h3
    match stk, h3 with
    | v :: rest, h3 =>
      obtain ⟨-, a, -, rfl⟩ := h3.1
      exact lv_ifnull C.1.1 C.1.2.1 d (hg ls rest H locs ⟨lv, ws, tys, h1, h2, h3.2, h4⟩)
  · cases hf
theorem er_i2c (d : decode cc pc = .ok (.i2c, 1)) : e_Snd ft cl lay cc own nL nm MC MS pc (ei_un (fun x => (0, ((Int32.ofInt x).toUInt32 % 65536).toInt32.toInt)) (pc + 1)) := ei_un_ok (g := fun x => .int (x.toUInt32 % 65536).toInt32) (fun x => (fun S => fun k => lv_i2c S.1 S.2.1 d rfl k)) (fun x ad => e_c (z := ((Int32.ofInt x.toInt).toUInt32 % 65536).toInt32.toInt) (by rw [Int32.ofInt_toInt]) ad)
def eG_and (x y : Int) : Option eV := some (4, (Int64.ofInt x &&& Int64.ofInt y).toInt)
theorem er_land (d : decode cc pc = .ok (.land, 1)) : e_Snd ft cl lay cc own nL nm MC MS pc (ei_binL eG_and (pc + 1)) := ei_binL_ok (g := fun x y => .long (x &&& y)) (fun _ => True) (fun x y _ => (fun S => fun k => lv_land S.1 S.2.1 d k)) (fun x y z h => ⟨trivial, fun ad => by
  unfold eG_and at h
  rw [Int64.ofInt_toInt, Int64.ofInt_toInt] at h
  cases h
  exact e_cL rfl ad⟩)
def eG_div (x y : Int) : Option eV := bif decide (y = 0) then none else some (4, e64 (x.tdiv y))
theorem er_ldiv (d : decode cc pc = .ok (.ldiv, 1)) : e_Snd ft cl lay cc own nL nm MC MS pc (ei_binL eG_div (pc + 1)) := ei_binL_ok (g := fun x y => .long (x / y)) (fun y => ¬ y = 0) (fun x y hy => (fun S => fun k => lv_ldiv S.1 S.2.1 d hy k)) (fun x y z h => by
  unfold eG_div at h
  cases hb : decide (y.toInt = 0) with
  | true => rw [hb] at h; cases h
  | false =>
    rw [hb] at h
    cases h
    refine ⟨fun e => ?_, fun ad => e_cL (Int64.toInt_div x y) ad⟩
    subst e
    have : (0 : Int64).toInt = 0 := by decide
    simp [this] at hb)
theorem ni_m2 {lay : List eY} {F : Int → Int → Int} {nx : Nat} : e_NI lay (ei_m2 F nx) := e_NI.stk (fun st => match st with
  | (0, y) :: (0, x) :: r => bif Nat.ble (e_cats r) 8 then some (nx, (0, F x y) :: r) else none
  | _ => none) (fun t => by
    unfold ei_m2
    split
    · rename_i y x r h
      cases hb : Nat.ble (e_cats r) 8 <;> simp [*]
    · rfl)
theorem ni_abs {lay : List eY} {nx : Nat} : e_NI lay (ei_abs nx) := e_NI.stk (fun st => match st with
  | (0, x) :: r => bif Nat.ble (e_cats r) 8 then some (nx, (0, bif decide (0 ≤ x) then x else e32 (-x)) :: r) else none
  | _ => none) (fun t => by
    unfold ei_abs
    split
    · rename_i x r h
      cases hb : Nat.ble (e_cats r) 8 <;> simp [*]
    · rfl)
theorem ni_null {lay : List eY} {tg nx : Nat} : e_NI lay (ei_null tg nx) := e_NI.stk (fun st => match st with
  | (2, _) :: r => some (tg, r)
  | (1, _) :: r => some (nx, r)
  | _ => none) (fun t => by
    unfold ei_null
    split <;> simp [*])
end E35
end
