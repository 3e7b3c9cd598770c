noncomputable section
/-! exact: fields, arrays, switches, the stack -/
/-- a number that a slot can hold: what is read must be one (what is none stands for 'nobody knows') -/
def e_okz (z : Int) : Bool := decide (-2147483648 ≤ z) && decide (z ≤ 2147483647)
def ei_getf (ft : Nat → Nat → Nat) (lay : List eY) (ci k nx : Nat) : eS → Option eS := fun t => match t.2.2.1 with
  | (1, j) :: r => match lay[j.toNat]? with
    | some (0, c, n) => bif Nat.beq c ci && (Nat.ble (k + 1) n && e_okz (t.2.2.2 j k)) then some (nx, t.2.1, e_rd (ft ci k) (t.2.2.2 j k) :: r, t.2.2.2) else none
    | _ => none
  | _ => none
/-- fk as in the rows of fields: 0 an int, 1 a boolean, 2 a reference -/
def e_pk (fk : Nat) (x : eV) : Bool := match fk with
  | 0 => Nat.beq (e_ty x) 0
  | 1 => Nat.beq x.1 0 && (decide (0 ≤ x.2) && decide (x.2 ≤ 1))
  | _ => Nat.beq (e_ty x) 2
theorem e_pk_ok {ad : List Nat} {fk : Nat} {x : eV} {v : Value} (hr : e_rel ad x v) (h : e_pk fk x = true) : x_pk fk v := by
  unfold e_pk at h
  unfold x_pk
  split at h
  · have hk := e_ty_ok hr
    rw [Nat.eq_of_beq_eq_true h] at hk
    exact hk
  · simp only [Bool.and_eq_true, decide_eq_true_eq] at h
    obtain ⟨t, a⟩ := x
    have e := Nat.eq_of_beq_eq_true h.1
    simp only at e
    subst e
    obtain ⟨n, rfl, hn⟩ := e_int hr
    simp only at h
    have h3 : n.toInt = 0 ∨ n.toInt = 1 := by omega
    rcases h3 with h3 | h3
    · left; rw [show n = 0 from Int32.toInt_inj.mp h3]
    · right; rw [show n = 1 from Int32.toInt_inj.mp h3]
  · rename_i n0 n1
    have hk := e_ty_ok hr
    rw [Nat.eq_of_beq_eq_true h] at hk
    split
    · exact (n0 rfl).elim
    · exact (n1 rfl).elim
    · exact hk
def ei_putf (ft : Nat → Nat → Nat) (lay : List eY) (ci k fk nx : Nat) : eS → Option eS := fun t => match t.2.2.1 with
  | x :: (1, j) :: r => match lay[j.toNat]?, e_wr (ft ci k) x with
    | some (0, c, n), some z => bif Nat.beq c ci && (Nat.ble (k + 1) n && e_pk fk x) then some (nx, t.2.1, r, e_up t.2.2.2 j k z) else none
    | _, _ => none
  | _ => none
def ei_ald (lay : List eY) (b : Bool) (nx : Nat) : eS → Option eS := fun t => match t.2.2.1 with
  | (0, i) :: (1, j) :: r => match lay[j.toNat]? with
    | some (kd, _, n) => bif x_akd b kd && (decide (0 ≤ i) && (decide (i < n) && e_okz (t.2.2.2 j i))) then some (nx, t.2.1, (0, t.2.2.2 j i) :: r, t.2.2.2) else none
    | _ => none
  | _ => none
def e_nar (kd : Nat) (z : Int) : Option Int := match kd with
  | 1 => some z
  | 2 => some (z.bmod 256)
  | _ => bif decide (0 ≤ z) && decide (z ≤ 1) then some z else none
theorem e_nar_ok {kd : Nat} {n : Int32} {z : Int} (h : e_nar kd n.toInt = some z) : (vp_nar (x_aty kd) n).toInt = z := by
  unfold e_nar at h
  unfold x_aty
  split at h
  · cases h; rfl
  · cases h
    show (vp_nar .byte n).toInt = _
    rw [vp_nar_byte, Int8.toInt_toInt32, Int32.toInt_toInt8]
  · rename_i n1 n2
    cases hb : (decide (0 ≤ n.toInt) && decide (n.toInt ≤ 1)) with
    | false => rw [hb] at h; cases h
    | true =>
      rw [hb] at h
      cases h
      simp only [Bool.and_eq_true, decide_eq_true_eq] at hb
      have e0 : vp_nar .boolean n = n &&& 1 := rfl
      split
      · exact (n1 rfl).elim
      · exact (n2 rfl).elim
      · rw [e0]
        have h3 : n.toInt = 0 ∨ n.toInt = 1 := by omega
        rcases h3 with h3 | h3
        · rw [show n = 0 from Int32.toInt_inj.mp h3]; decide
        · rw [show n = 1 from Int32.toInt_inj.mp h3]; decide
def ei_ast (lay : List eY) (b : Bool) (nx : Nat) : eS → Option eS := fun t => match t.2.2.1 with
  | (0, x) :: (0, i) :: (1, j) :: r => match lay[j.toNat]? with
    | some (kd, _, n) => match e_nar kd x with
      | some z => bif x_akd b kd && (decide (0 ≤ i) && decide (i < n)) then some (nx, t.2.1, r, e_up t.2.2.2 j i z) else none
      | none => none
    | _ => none
  | _ => none
def ei_aald (lay : List eY) (nx : Nat) : eS → Option eS := fun t => match t.2.2.1 with
  | (0, i) :: (1, j) :: r => match lay[j.toNat]? with
    | some (kd, _, n) => bif (Nat.beq kd 5 || Nat.beq kd 6) && (decide (0 ≤ i) && (decide (i < n) && e_okz (t.2.2.2 j i))) then some (nx, t.2.1, e_rd 1 (t.2.2.2 j i) :: r, t.2.2.2) else none
    | _ => none
  | _ => none
def ei_alen (lay : List eY) (nx : Nat) : eS → Option eS := fun t => match t.2.2.1 with
  | (1, j) :: r => match lay[j.toNat]? with
    | some (kd, _, n) => bif Nat.beq kd 0 then none else some (nx, t.2.1, (0, (n : Int)) :: r, t.2.2.2)
    | _ => none
  | _ => none
def e_arm (x : Int) : List (Int × Int × Nat) → Option Nat
  | [] => none
  | q :: r => bif decide (q.1 ≤ x) && decide (x ≤ q.2.1) then some q.2.2 else e_arm x r
def ei_sw (l : List (Int × Int × Nat)) : eS → Option eS := fun t => match t.2.2.1 with
  | (0, x) :: r => match e_arm x l with
    | some tg => some (tg, t.2.1, r, t.2.2.2)
    | none => none
  | _ => none
section E31
variable {ft : Nat → Nat → Nat} {cl : List vw_C} {lay : List eY} {cc : ByteArray} {own : String} {nL : Nat} {nm : String} {MC MS pc nx tg : Nat}
theorem ei_getf_ok {ci k : Nat} (hw : x_Gf cl cc own nL nm MC MS pc nx ci k) : e_Snd ft cl lay cc own nL nm MC MS pc (ei_getf ft lay ci k nx) := by
  intro ad ce sl p l e R s m args below meth c D A H0 Q C hce hsl hA t t' hpc hf hg
  unfold ei_getf at hf
  split at hf
  · rename_i j r hst
    split at hf
    · rename_i c' n hy
      cases hb : (Nat.beq c' ci && (Nat.ble (k + 1) n && e_okz (t.2.2.2 j k))) with
      | false => rw [hb] at hf; cases hf
      | true =>
        rw [hb] at hf
        cases hf
        subst hpc
        simp only [Bool.and_eq_true] at hb
        have e1 := Nat.eq_of_beq_eq_true hb.1
        have e2 := Nat.le_of_ble_eq_true hb.2.1
        subst e1
        intro ls stk H locs ⟨lv, ws, tys, h1, h2, h3, h4, h5, h6, h7, h8⟩
        rw [hst] at h3
        match stk, h3 with
        | v1 :: rest, h3 =>
          obtain ⟨a, ee, hq, rfl, hc, ej⟩ := e_ref h4 h3.1 hy
          obtain ⟨fs, rfl, hl, hv⟩ := hc
          obtain ⟨v, hv1, hv2⟩ := hv k e2
          exact hw C h5.1 h6 hq hv1 (hg ls (v :: rest) H locs ⟨lv, ws, tys, h1, h2, ⟨e_rd_ok hv2, h3.2⟩, h4, h5, h6, h7, h8⟩)
    · cases hf
  · cases hf
theorem ei_putf_ok {ci k fk : Nat} (hw : x_Pf cl cc own nL nm MC MS pc nx ci k fk) : e_Snd ft cl lay cc own nL nm MC MS pc (ei_putf ft lay ci k fk nx) := by
  intro ad ce sl p l e R s m args below meth c D A H0 Q C hce hsl hA t t' hpc hf hg
  unfold ei_putf at hf
  split at hf
  · rename_i x j r hst
    split at hf
    · rename_i c' n z hy hz
      cases hb : (Nat.beq c' ci && (Nat.ble (k + 1) n && e_pk fk x)) with
      | false => rw [hb] at hf; cases hf
      | true =>
        rw [hb] at hf
        cases hf
        subst hpc
        simp only [Bool.and_eq_true] at hb
        have e1 := Nat.eq_of_beq_eq_true hb.1
        have e2 := Nat.le_of_ble_eq_true hb.2.1
        subst e1
        intro ls stk H locs ⟨lv, ws, tys, h1, h2, h3, h4, h5, h6, h7, h8⟩
        rw [hst] at h3
        match stk, h3 with
        | v0 :: v1 :: rest, h3 =>
          obtain ⟨a, ee, hq, rfl, hc, ej⟩ := e_ref h4 h3.2.1 hy
          obtain ⟨fs, rfl, hl, hv⟩ := hc
          simp only at hl hv
          rw [← ej] at hg
          refine hw C h5.1 h6 h7 h8 hq (by rw [hl]; exact e2) (e_pk_ok h3.1 hb.2.2) (fun H1 locs1 hP hD hS => hg ls rest H1 locs1 ⟨lv, _, tys, h1, h2, h3.2.2, e_world_set (y := (0, c', n)) (z := z) (k := k) h4 hy hq ?_, h5, hP, hD, hS⟩)
          refine ⟨fs.set k v0, rfl, by rw [List.length_set]; exact hl, fun i hi => ?_⟩
          simp only at hi
          by_cases hik : i = k
          · subst hik
            exact ⟨v0, by rw [List.getElem?_set_self (by rw [hl]; exact hi)], by rw [e_up_eq]; exact e_wr_ok hz h3.1⟩
          · obtain ⟨v, g1, g2⟩ := hv i hi
            exact ⟨v, by rw [List.getElem?_set_ne (Ne.symm hik)]; exact g1, by rw [e_up_ne _ _ (Or.inr (by omega)), ej]; exact g2⟩
    · cases hf
  · cases hf
theorem e_arr {ad : List Nat} {tys : List (ClassId × FieldType)} {b : Bool} {kd c n : Nat} {g : Int → Int} {e : va_E} (hk : x_akd b kd = true) (h : e_cell ft cl ad tys (kd, c, n) g e) :
    ∃ (t0 : Nat) (cA : ClassId) (f : Nat → Int32), tys[t0]? = some (cA, x_aty kd) ∧ e = .inl (cA, n, .inl f) ∧ n < 2147483648 ∧ ∀ k : Nat, k < n → (f k).toInt = g k := by
  unfold x_akd at hk
  split at hk
  · have := Nat.eq_of_beq_eq_true hk
    subst this
    exact h
  · simp only [Bool.or_eq_true] at hk
    rcases hk with hk | hk
    · have := Nat.eq_of_beq_eq_true hk
      subst this
      exact h
    · have := Nat.eq_of_beq_eq_true hk
      subst this
      exact h
theorem e_cell_arr {ad : List Nat} {tys : List (ClassId × FieldType)} {b : Bool} {kd c n : Nat} {g : Int → Int} {e : va_E} (hk : x_akd b kd = true)
    (h : ∃ (t0 : Nat) (cA : ClassId) (f : Nat → Int32), tys[t0]? = some (cA, x_aty kd) ∧ e = .inl (cA, n, .inl f) ∧ n < 2147483648 ∧ ∀ k : Nat, k < n → (f k).toInt = g k) : e_cell ft cl ad tys (kd, c, n) g e := by
  unfold x_akd at hk
  split at hk
  · have := Nat.eq_of_beq_eq_true hk
    subst this
    exact h
  · simp only [Bool.or_eq_true] at hk
    rcases hk with hk | hk
    · have := Nat.eq_of_beq_eq_true hk
      subst this
      exact h
    · have := Nat.eq_of_beq_eq_true hk
      subst this
      exact h
theorem e_ix {i : Int32} {n : Nat} (h0 : 0 ≤ i.toInt) (h1 : i.toInt < n) : vp_in i n ∧ i.toNatClampNeg < n ∧ ((i.toNatClampNeg : Nat) : Int) = i.toInt := by
  have e : i.toNatClampNeg = i.toInt.toNat := rfl
  refine ⟨vp_in_iff.mpr ⟨by omega, by omega⟩, ?_, ?_⟩
  · rw [e]; omega
  · rw [e]; omega
theorem ei_ald_ok {b : Bool} (hw : ∀ kd, x_akd b kd = true → x_Al cl cc own nL nm MC MS pc nx (x_aty kd)) : e_Snd ft cl lay cc own nL nm MC MS pc (ei_ald lay b nx) := by
  intro ad ce sl p l e R s m args below meth c D A H0 Q C hce hsl hA t t' hpc hf hg
  unfold ei_ald at hf
  split at hf
  · rename_i i j r hst
    split at hf
    · rename_i kd c' n hy
      cases hb : (x_akd b kd && (decide (0 ≤ i) && (decide (i < n) && e_okz (t.2.2.2 j i)))) with
      | false => rw [hb] at hf; cases hf
      | true =>
        rw [hb] at hf
        cases hf
        subst hpc
        simp only [Bool.and_eq_true, decide_eq_true_eq] at hb
        intro ls stk H locs ⟨lv, ws, tys, h1, h2, h3, h4, h5, h6, h7, h8⟩
        rw [hst] at h3
        match stk, h3 with
        | v1 :: v2 :: rest, h3 =>
          obtain ⟨ni, rfl, rfl⟩ := e_int h3.1
          obtain ⟨a, ee, hq, rfl, hc, ej⟩ := e_ref h4 h3.2.1 hy
          obtain ⟨t0, cA, f, g1, rfl, g2, g3⟩ := e_arr hb.1 hc
          obtain ⟨k1, k2, k3⟩ := e_ix hb.2.1 hb.2.2.1
          exact hw kd hb.1 C h5.1 h6 hq g1 k1 (hg ls (.int (f ni.toNatClampNeg) :: rest) H locs ⟨lv, ws, tys, h1, h2, ⟨⟨_, rfl, by rw [← k3]; exact g3 _ k2⟩, h3.2.2⟩, h4, h5, h6, h7, h8⟩)
    · cases hf
  · cases hf
theorem ei_ast_ok {b : Bool} (hw : ∀ kd, x_akd b kd = true → x_As cl cc own nL nm MC MS pc nx (x_aty kd)) : e_Snd ft cl lay cc own nL nm MC MS pc (ei_ast lay b nx) := by
  intro ad ce sl p l e R s m args below meth c D A H0 Q C hce hsl hA t t' hpc hf hg
  unfold ei_ast at hf
  split at hf
  · rename_i x i j r hst
    split at hf
    · rename_i kd c' n hy
      split at hf
      · rename_i z hz
        cases hb : (x_akd b kd && (decide (0 ≤ i) && decide (i < n))) with
        | false => rw [hb] at hf; cases hf
        | true =>
          rw [hb] at hf
          cases hf
          subst hpc
          simp only [Bool.and_eq_true, decide_eq_true_eq] at hb
          intro ls stk H locs ⟨lv, ws, tys, h1, h2, h3, h4, h5, h6, h7, h8⟩
          rw [hst] at h3
          match stk, h3 with
          | v0 :: v1 :: v2 :: rest, h3 =>
            obtain ⟨nx', rfl, rfl⟩ := e_int h3.1
            obtain ⟨ni, rfl, rfl⟩ := e_int h3.2.1
            obtain ⟨a, ee, hq, rfl, hc, ej⟩ := e_ref h4 h3.2.2.1 hy
            obtain ⟨t0, cA, f, g1, rfl, g2, g3⟩ := e_arr hb.1 hc
            obtain ⟨k1, k2, k3⟩ := e_ix hb.2.1 hb.2.2
            rw [← ej] at hg
            refine hw kd hb.1 C h5.1 h6 h7 h8 hq g1 k1 (fun H1 locs1 hP hD hS => hg ls rest H1 locs1 ⟨lv, _, tys, h1, h2, h3.2.2.2, e_world_set (y := (kd, c', n)) h4 hy hq (e_cell_arr hb.1 ⟨t0, cA, _, g1, rfl, g2, fun i' hi' => ?_⟩), h5, hP, hD, hS⟩)
            by_cases hik : i' = ni.toNatClampNeg
            · subst hik
              rw [← k3, e_up_eq]
              simp only [upd, if_pos]
              exact e_nar_ok hz
            · rw [e_up_ne _ _ (Or.inr (by rw [← k3]; omega)), ej]
              simp only [upd, if_neg hik]
              exact g3 i' hi'
      · cases hf
    · cases hf
  · cases hf
theorem ei_aald_ok (hw : x_Aq cl cc own nL nm MC MS pc nx) : e_Snd ft cl lay cc own nL nm MC MS pc (ei_aald lay nx) := by
  intro ad ce sl p l e R s m args below meth c D A H0 Q C hce hsl hA t t' hpc hf hg
  unfold ei_aald at hf
  split at hf
  · rename_i i j r hst
    split at hf
    · rename_i kd c' n hy
      cases hb : ((Nat.beq kd 5 || Nat.beq kd 6) && (decide (0 ≤ i) && (decide (i < n) && e_okz (t.2.2.2 j i)))) with
      | false => rw [hb] at hf; cases hf
      | true =>
        rw [hb] at hf
        cases hf
        subst hpc
        simp only [Bool.and_eq_true, decide_eq_true_eq, Bool.or_eq_true] at hb
        intro ls stk H locs ⟨lv, ws, tys, h1, h2, h3, h4, h5, h6, h7, h8⟩
        rw [hst] at h3
        match stk, h3 with
        | v1 :: v2 :: rest, h3 =>
          obtain ⟨ni, rfl, rfl⟩ := e_int h3.1
          obtain ⟨a, ee, hq, rfl, hc, ej⟩ := e_ref h4 h3.2.1 hy
          obtain ⟨k1, k2, k3⟩ := e_ix hb.2.1 hb.2.2.1
          rcases hb.1 with hk | hk
          · have := Nat.eq_of_beq_eq_true hk
            subst this
            obtain ⟨t0, cA, r', f, g0, g1, rfl, g2, g3⟩ := hc
            exact hw C rfl h5.1 h6 hq g1 k1 (hg ls (va_rf (f ni.toNatClampNeg) :: rest) H locs ⟨lv, ws, tys, h1, h2, ⟨by rw [← k3]; exact e_rd_ok (g3 _ k2), h3.2.2⟩, h4, h5, h6, h7, h8⟩)
          · have := Nat.eq_of_beq_eq_true hk
            subst this
            obtain ⟨t0, cA, f, g1, rfl, g2, g3⟩ := hc
            exact hw C rfl h5.1 h6 hq g1 k1 (hg ls (va_rf (f ni.toNatClampNeg) :: rest) H locs ⟨lv, ws, tys, h1, h2, ⟨by rw [← k3]; exact e_rd_ok (g3 _ k2), h3.2.2⟩, h4, h5, h6, h7, h8⟩)
    · cases hf
  · cases hf
theorem ei_alen_ok (hw : x_Ln cl cc own nL nm MC MS pc nx) : e_Snd ft cl lay cc own nL nm MC MS pc (ei_alen lay nx) := by
  intro ad ce sl p l e R s m args below meth c D A H0 Q C hce hsl hA t t' hpc hf hg
  unfold ei_alen at hf
  split at hf
  · rename_i j r hst
    split at hf
    · rename_i kd c' n hy
      cases hb : Nat.beq kd 0 with
      | true => rw [hb] at hf; cases hf
      | false =>
        rw [hb] at hf
        cases hf
        subst hpc
        intro ls stk H locs ⟨lv, ws, tys, h1, h2, h3, h4, h5, h6, h7, h8⟩
        rw [hst] at h3
        match stk, h3 with
        | v2 :: rest, h3 =>
          obtain ⟨a, ee, hq, rfl, hc, ej⟩ := e_ref h4 h3.1 hy
          have key : ∃ (t0 : Nat) (cA : ClassId) (x : vp_A) (ty : FieldType), tys[t0]? = some (cA, ty) ∧ ee = .inl (cA, x) ∧ x.1 = n ∧ n < 2147483648 := by
            unfold e_cell at hc
            split at hc
            · rename_i h0; simp only at h0; subst h0; cases hb
            · obtain ⟨t0, cA, f, g1, g2, g3, -⟩ := hc
              exact ⟨t0, cA, _, _, g1, g2, rfl, g3⟩
            · obtain ⟨t0, cA, f, g1, g2, g3, -⟩ := hc
              exact ⟨t0, cA, _, _, g1, g2, rfl, g3⟩
            · obtain ⟨t0, cA, f, g1, g2, g3, -⟩ := hc
              exact ⟨t0, cA, _, _, g1, g2, rfl, g3⟩
            · obtain ⟨t0, cA, r', f, -, g1, g2, g3, -⟩ := hc
              exact ⟨t0, cA, _, _, g1, g2, rfl, g3⟩
            · obtain ⟨t0, cA, f, g1, g2, g3, -⟩ := hc
              exact ⟨t0, cA, _, _, g1, g2, rfl, g3⟩
            · exact hc.elim
          obtain ⟨t0, cA, x, ty, g1, rfl, rfl, g3⟩ := key
          have e := nI_toInt g3
          exact hw C h5.1 h6 hq g1 (hg ls (.int (Int32.ofNat x.1) :: rest) H locs ⟨lv, ws, tys, h1, h2, ⟨⟨_, rfl, e⟩, h3.2⟩, h4, h5, h6, h7, h8⟩)
    · cases hf
  · cases hf
theorem e_arm_ok {x : Int} {tg : Nat} : ∀ {l : List (Int × Int × Nat)}, e_arm x l = some tg → ∃ q ∈ l, q.1 ≤ x ∧ x ≤ q.2.1 ∧ q.2.2 = tg
  | [], h => by cases h
  | q :: r, h => by
    unfold e_arm at h
    cases hb : (decide (q.1 ≤ x) && decide (x ≤ q.2.1)) with
    | true =>
      rw [hb] at h
      cases h
      simp only [Bool.and_eq_true, decide_eq_true_eq] at hb
      exact ⟨q, List.mem_cons_self, hb.1, hb.2, rfl⟩
    | false =>
      rw [hb] at h
      obtain ⟨q', h1, h2⟩ := e_arm_ok h
      exact ⟨q', List.mem_cons_of_mem _ h1, h2⟩
theorem ei_sw_ok {l : List (Int × Int × Nat)} (hw : ∀ x : Int32, ∀ q ∈ l, q.1 ≤ x.toInt → x.toInt ≤ q.2.1 → x_Sw cc own nL pc x q.2.2) : e_Snd ft cl lay cc own nL nm MC MS pc (ei_sw l) := by
  intro ad ce sl p ll e R s m args below meth c D A H0 Q C hce hsl hA t t' hpc hf hg
  unfold ei_sw at hf
  split at hf
  · rename_i x r hst
    split at hf
    · rename_i tg htg
      cases hf
      subst hpc
      intro ls stk H locs ⟨lv, ws, tys, h1, h2, h3, h4⟩
      rw [hst] at h3
      match stk, h3 with
      | v2 :: rest, h3 =>
        obtain ⟨n, rfl, rfl⟩ := e_int h3.1
        obtain ⟨q, hq, q1, q2, rfl⟩ := e_arm_ok htg
        exact hw n q hq q1 q2 C.1 (hg ls rest H locs ⟨lv, ws, tys, h1, h2, h3.2, h4⟩)
    · cases hf
  · cases hf
def ei_stk (f : List eV → Option (List eV)) (nx : Nat) : eS → Option eS := fun t => match f t.2.2.1 with
  | some st => some (nx, t.2.1, st, t.2.2.2)
  | none => none
theorem ei_stk_ok {f : List eV → Option (List eV)} (hw : ∀ (ad : List Nat) (st st' : List eV) (stk : List Value), f st = some st' → x_all2 (e_rel ad) st stk → ∃ (i o rest : List Value), stk = i ++ rest ∧ x_Stk cc own nL pc nx i o ∧ x_all2 (e_rel ad) st' (o ++ rest)) : e_Snd ft cl lay cc own nL nm MC MS pc (ei_stk f nx) := by
  intro ad ce sl p l e R s m args below meth c D A H0 Q C hce hsl hA t t' hpc hf hg
  unfold ei_stk at hf
  split at hf
  · rename_i st hst
    cases hf
    subst hpc
    intro ls stk H locs ⟨lv, ws, tys, h1, h2, h3, h4⟩
    obtain ⟨i, o, rest, rfl, hs, hr⟩ := hw _ _ _ _ hst h3
    exact hs C.1 (hg ls (o ++ rest) H locs ⟨lv, ws, tys, h1, h2, hr, h4⟩)
  · cases hf
end E31
end
