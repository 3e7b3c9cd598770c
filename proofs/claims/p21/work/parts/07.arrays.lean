noncomputable section
/-! arrays -/
def x_join (x y : xV) : Option xV := match x.1, y.1 with
  | 0, 0 => some (0, x_min x.2.1 y.2.1, x_max x.2.2 y.2.2)
  | _, _ => none
theorem x_min_l {a b x : Int} (h : a ≤ x) : x_min a b ≤ x := by
  unfold x_min
  cases hc : decide (a ≤ b) with
  | true => exact h
  | false => simp only [decide_eq_false_iff_not] at hc; show b ≤ x; omega
theorem x_min_r {a b x : Int} (h : b ≤ x) : x_min a b ≤ x := by
  unfold x_min
  cases hc : decide (a ≤ b) with
  | true => simp only [decide_eq_true_eq] at hc; show a ≤ x; omega
  | false => exact h
theorem x_max_l {a b x : Int} (h : x ≤ a) : x ≤ x_max a b := by
  unfold x_max
  cases hc : decide (a ≤ b) with
  | true => simp only [decide_eq_true_eq] at hc; show x ≤ b; omega
  | false => exact h
theorem x_max_r {a b x : Int} (h : x ≤ b) : x ≤ x_max a b := by
  unfold x_max
  cases hc : decide (a ≤ b) with
  | true => exact h
  | false => simp only [decide_eq_false_iff_not] at hc; show x ≤ a; omega
theorem x_join_l {ad : List Nat} {V : List Int} {sc : Nat × Nat × List Nat} {x y z : xV} {v : Value} (h : x_join x y = some z) (hr : x_rel ad V sc x v) : x_rel ad V sc z v := by
  obtain ⟨t, a, b⟩ := x
  obtain ⟨t', a', b'⟩ := y
  unfold x_join at h
  split at h
  · rename_i h1 h2
    simp only at h1 h2
    subst h1
    cases h
    obtain ⟨n, rfl, h3, h4⟩ := hr
    exact ⟨n, rfl, x_min_l h3, x_max_l h4⟩
  · cases h
theorem x_join_r {ad : List Nat} {V : List Int} {sc : Nat × Nat × List Nat} {x y z : xV} {v : Value} (h : x_join x y = some z) (hr : x_rel ad V sc y v) : x_rel ad V sc z v := by
  obtain ⟨t, a, b⟩ := x
  obtain ⟨t', a', b'⟩ := y
  unfold x_join at h
  split at h
  · rename_i h1 h2
    simp only at h1 h2
    subst h2
    cases h
    obtain ⟨n, rfl, h3, h4⟩ := hr
    exact ⟨n, rfl, x_min_r h3, x_max_r h4⟩
  · cases h
/-- what stands at the places lo .. lo + n, together -/
def x_rgn (d : xV) (o : xA) (lo : Nat) : Nat → Option xV
  | 0 => some (x_get d o lo)
  | n + 1 => match x_rgn d o lo n with
    | some y => x_join y (x_get d o (lo + n + 1))
    | none => none
theorem x_rgn_ok {ad : List Nat} {V : List Int} {sc : Nat × Nat × List Nat} {d : xV} {o : xA} {lo : Nat} {v : Value} : ∀ {n : Nat} {z : xV}, x_rgn d o lo n = some z → ∀ k, lo ≤ k → k ≤ lo + n → x_rel ad V sc (x_get d o k) v → x_rel ad V sc z v
  | 0, z, h, k, h1, h2, hr => by
    cases h
    rw [show k = lo by omega] at hr
    exact hr
  | n + 1, z, h, k, h1, h2, hr => by
    unfold x_rgn at h
    split at h
    · rename_i y hy
      by_cases hk : k = lo + n + 1
      · subst hk
        exact x_join_r h hr
      · exact x_join_l h (x_rgn_ok hy k h1 (by omega) hr)
    · cases h
def x_hul : xV → xA → Option xV
  | z, [] => some z
  | z, q :: r => match x_join z q.2 with
    | some y => x_hul y r
    | none => none
theorem x_hul_l {ad : List Nat} {V : List Int} {sc : Nat × Nat × List Nat} {v : Value} : ∀ {o : xA} {z y : xV}, x_hul z o = some y → x_rel ad V sc z v → x_rel ad V sc y v
  | [], z, y, h, hr => by cases h; exact hr
  | q :: r, z, y, h, hr => by
    unfold x_hul at h
    split at h
    · rename_i y' hy
      exact x_hul_l h (x_join_l hy hr)
    · cases h
theorem x_hul_ok {ad : List Nat} {V : List Int} {sc : Nat × Nat × List Nat} {v : Value} {d : xV} : ∀ {o : xA} {z y : xV}, x_hul z o = some y → (∀ v, x_rel ad V sc d v → x_rel ad V sc z v) → ∀ k, x_rel ad V sc (x_get d o k) v → x_rel ad V sc y v
  | [], z, y, h, hz, k, hr => by cases h; exact hz v hr
  | q :: r, z, y, h, hz, k, hr => by
    unfold x_hul at h
    split at h
    · rename_i y' hy
      rw [x_get_cons] at hr
      cases hb : Nat.beq q.1 k with
      | true =>
        rw [hb] at hr
        exact x_hul_l h (x_join_r hy hr)
      | false =>
        rw [hb] at hr
        exact x_hul_ok h (fun v h => x_join_l hy (hz v h)) k hr
    · cases h
/-- the kinds of arrays that an instruction is for: false iaload, true baload -/
def x_akd (b : Bool) (kd : Nat) : Bool := match b with
  | false => Nat.beq kd 1
  | true => Nat.beq kd 2 || Nat.beq kd 3
def x_aty (kd : Nat) : FieldType := match kd with
  | 1 => .int
  | 2 => .byte
  | _ => .boolean
theorem x_arr {cl : List vw_C} {ad : List Nat} {V : List Int} {sc : Nat × Nat × List Nat} {tys : List (ClassId × FieldType)} {b : Bool} {kd c n : Nat} {d : xV} {o : xA} {e : va_E} (hk : x_akd b kd = true) (h : x_cell cl ad V sc tys (kd, c, n, d, o) e) :
    ∃ (t0 : Nat) (cA : ClassId) (f : Nat → Int32), tys[t0]? = some (cA, x_aty kd) ∧ e = .inl (cA, n, .inl f) ∧ n < 2147483648 ∧ ∀ k, k < n → x_rel ad V sc (x_get d o k) (.int (f k)) := by
  unfold x_akd at hk
  split at hk
  · have := Nat.eq_of_beq_eq_true hk
    subst this
    exact h
  · simp only [Bool.or_eq_true] at hk
    rcases hk with hk | hk
    · have := Nat.eq_of_beq_eq_true hk
      subst this
      exact h
    · have := Nat.eq_of_beq_eq_true hk
      subst this
      exact h
theorem x_cell_arr {cl : List vw_C} {ad : List Nat} {V : List Int} {sc : Nat × Nat × List Nat} {tys : List (ClassId × FieldType)} {b : Bool} {kd c n : Nat} {d : xV} {o : xA} {e : va_E} (hk : x_akd b kd = true)
    (h : ∃ (t0 : Nat) (cA : ClassId) (f : Nat → Int32), tys[t0]? = some (cA, x_aty kd) ∧ e = .inl (cA, n, .inl f) ∧ n < 2147483648 ∧ ∀ k, k < n → x_rel ad V sc (x_get d o k) (.int (f k))) : x_cell cl ad V sc tys (kd, c, n, d, o) e := by
  unfold x_akd at hk
  split at hk
  · have := Nat.eq_of_beq_eq_true hk
    subst this
    exact h
  · simp only [Bool.or_eq_true] at hk
    rcases hk with hk | hk
    · have := Nat.eq_of_beq_eq_true hk
      subst this
      exact h
    · have := Nat.eq_of_beq_eq_true hk
      subst this
      exact h
theorem x_ix {i : Int32} {n : Nat} {lo hi : Int} (h0 : 0 ≤ lo) (hn : hi < n) (h1 : lo ≤ i.toInt) (h2 : i.toInt ≤ hi) : vp_in i n ∧ i.toNatClampNeg < n ∧ lo.toNat ≤ i.toNatClampNeg ∧ i.toNatClampNeg ≤ lo.toNat + (hi - lo).toNat := by
  have e : i.toNatClampNeg = i.toInt.toNat := rfl
  refine ⟨vp_in_iff.mpr ⟨by omega, by omega⟩, ?_, ?_, ?_⟩ <;> rw [e] <;> omega
section XW7
variable (cl : List vw_C) (cc : ByteArray) (own : String) (nL : Nat) (nm : String) (MC MS pc nx : Nat)
def x_Al (ty : FieldType) : Prop := ∀ {p : Program} {l : Launch} {e : Env} {R : Room} {s : State} {m : MethodId} {args : Array Value} {below : List Frame} {meth : Method} {c : Code}, x_Cx cc own nL nm MC MS p R s m args meth c → ∀ {H : Heap} {locs : List Loc} {cells slots : Nat} {Q : State → Prop} {ls : Array Slot} {rest : List Value} {D : va_G} {tys : List (ClassId × FieldType)} {ws : va_W} {a q0 t0 n : Nat} {cA : ClassId} {f : Nat → Int32} {i : Int32},
  va_K D cl tys s → va_P D cl ws H → ws[q0]? = some (a, .inl (cA, n, .inl f)) → tys[t0]? = some (cA, ty) → vp_in i n → W p l e R s m args below meth c H locs cells slots Q (F0 m nx ls (.int (f i.toNatClampNeg) :: rest)) → W p l e R s m args below meth c H locs cells slots Q (F0 m pc ls (.int i :: .ref a :: rest))
def x_As (ty : FieldType) : Prop := ∀ {p : Program} {l : Launch} {e : Env} {R : Room} {s : State} {m : MethodId} {args : Array Value} {below : List Frame} {meth : Method} {c : Code}, x_Cx cc own nL nm MC MS p R s m args meth c → ∀ {H H0 : Heap} {locs : List Loc} {cells slots : Nat} {Q : State → Prop} {ls : Array Slot} {rest : List Value} {D : va_G} {A : Nat → Prop} {tys : List (ClassId × FieldType)} {ws : va_W} {a q0 t0 n : Nat} {cA : ClassId} {f : Nat → Int32} {i x : Int32},
  va_K D cl tys s → va_P D cl ws H → va_D A ws → va_S A H0 H locs → ws[q0]? = some (a, .inl (cA, n, .inl f)) → tys[t0]? = some (cA, ty) → vp_in i n → (∀ (H1 : Heap) (locs1 : List Loc), va_P D cl (ws.set q0 (a, .inl (cA, n, .inl (upd f i.toNatClampNeg (vp_nar ty x))))) H1 → va_D A (ws.set q0 (a, .inl (cA, n, .inl (upd f i.toNatClampNeg (vp_nar ty x))))) → va_S A H0 H1 locs1 → W p l e R s m args below meth c H1 locs1 cells slots Q (F0 m nx ls rest)) → W p l e R s m args below meth c H locs cells slots Q (F0 m pc ls (.int x :: .int i :: .ref a :: rest))
end XW7
def xi_ald (b : Bool) (nx : Nat) : xS → Option (List xS) := fun t => match t.2.2.1 with
  | i :: (1, j, _) :: r => match x_bi t.2.2.2.2.1 i, x_at t.2.2.2.1 j.toNat with
    | some ib, some (kd, _, n, d, o) => bif x_akd b kd && (decide (0 ≤ ib.1) && decide (ib.2 < n)) then match x_rgn d o ib.1.toNat (ib.2 - ib.1).toNat with
      | some x => some [(nx, t.2.1, x :: r, t.2.2.2)]
      | none => none
      else none
    | _, _ => none
  | _ => none
/-- what of a value an array's cell keeps -/
def x_nrw (kd : Nat) (x : xV) (b : Int × Int) : xV × (Int × Int) := match kd with
  | 1 => (x, b)
  | 2 => bif decide (-128 ≤ b.1) && decide (b.2 ≤ 127) then (x, b) else ((0, -128, 127), (-128, 127))
  | _ => bif decide (0 ≤ b.1) && decide (b.2 ≤ 1) then (x, b) else ((0, 0, 1), (0, 1))
theorem x_nrw_ok {ad : List Nat} {V : List Int} {sc : Nat × Nat × List Nat} {kd : Nat} {x : xV} {b : Int × Int} {n : Int32} (hr : x_rel ad V sc x (.int n)) (h1 : b.1 ≤ n.toInt) (h2 : n.toInt ≤ b.2) : x_rel ad V sc (x_nrw kd x b).1 (.int (vp_nar (x_aty kd) n)) ∧ (x_nrw kd x b).2.1 ≤ (vp_nar (x_aty kd) n).toInt ∧ (vp_nar (x_aty kd) n).toInt ≤ (x_nrw kd x b).2.2 := by
  unfold x_nrw x_aty
  split
  · exact ⟨hr, h1, h2⟩
  · rw [vp_nar_byte]
    have e : (n.toInt8.toInt32).toInt = n.toInt.bmod 256 := by
      rw [Int8.toInt_toInt32, Int32.toInt_toInt8]
    cases hc : (decide (-128 ≤ b.1) && decide (b.2 ≤ 127)) with
    | true =>
      simp only [Bool.and_eq_true, decide_eq_true_eq] at hc
      have e2 : n.toInt8.toInt32 = n := Int32.toInt_inj.mp (by rw [e, Int.bmod_eq_of_le] <;> omega)
      rw [e2]
      exact ⟨hr, h1, h2⟩
    | false =>
      have h3 := Int.le_bmod (x := n.toInt) (m := 256) (by decide)
      have h4 := Int.bmod_lt (x := n.toInt) (m := 256) (by decide)
      rw [← e] at h3 h4
      exact ⟨⟨_, rfl, by show (-128 : Int) ≤ _; omega, by show _ ≤ (127 : Int); omega⟩, by show (-128 : Int) ≤ _; omega, by show _ ≤ (127 : Int); omega⟩
  · have e0 : vp_nar .boolean n = n &&& 1 := rfl
    rw [e0]
    obtain ⟨j, hj, ej⟩ := pk_andE n (m := 1) 1 (by decide)
    have e : (n &&& 1).toInt = j := by rw [ej]; exact nI_toInt (by omega)
    cases hc : (decide (0 ≤ b.1) && decide (b.2 ≤ 1)) with
    | true =>
      simp only [Bool.and_eq_true, decide_eq_true_eq] at hc
      have h3 : n.toInt = 0 ∨ n.toInt = 1 := by omega
      have e2 : n &&& 1 = n := by
        rcases h3 with h3 | h3
        · rw [show n = 0 from Int32.toInt_inj.mp h3]; decide
        · rw [show n = 1 from Int32.toInt_inj.mp h3]; decide
      rw [e2]
      exact ⟨hr, h1, h2⟩
    | false =>
      exact ⟨⟨_, rfl, by show (0 : Int) ≤ _; omega, by show _ ≤ (1 : Int); omega⟩, by show (0 : Int) ≤ _; omega, by show _ ≤ (1 : Int); omega⟩
def xi_ast (b : Bool) (nx : Nat) : xS → Option (List xS) := fun t => match t.2.2.1 with
  | x :: i :: (1, j, _) :: r => match x_bi t.2.2.2.2.1 i, x_bi t.2.2.2.2.1 x, x_at t.2.2.2.1 j.toNat with
    | some ib, some xb, some (kd, c, n, d, o) => bif x_akd b kd && (decide (0 ≤ ib.1) && decide (ib.2 < n)) then
      bif decide (ib.1 = ib.2) then some [(nx, t.2.1, r, x_up t.2.2.2.1 j.toNat (kd, c, n, d, x_put d o ib.1.toNat (x_nrw kd x xb).1), t.2.2.2.2)]
      else match x_join d (0, (x_nrw kd x xb).2) with
        | some z => match x_hul z o with
          | some y => some [(nx, t.2.1, r, x_up t.2.2.2.1 j.toNat (kd, c, n, y, []), t.2.2.2.2)]
          | none => none
        | none => none
      else none
    | _, _, _ => none
  | _ => none
section X7
variable {cl : List vw_C} {K : xKx} {cc : ByteArray} {own : String} {nL : Nat} {nm : String} {MC MS pc nx : Nat}
theorem xi_ald_ok {b : Bool} (hw : ∀ kd, x_akd b kd = true → x_Al cl cc own nL nm MC MS pc nx (x_aty kd)) : x_Snd cl K cc own nL nm MC MS pc (xi_ald b nx) := by
  intro V sc p l e R s m args below meth c D A H0 Q C hA hK t ts hpc hf hg
  unfold xi_ald at hf
  split at hf
  · rename_i i j jb r hst
    split at hf
    · rename_i ib kd cN n d o hib hcell
      cases hb : (x_akd b kd && (decide (0 ≤ ib.1) && decide (ib.2 < n))) with
      | false => rw [hb] at hf; cases hf
      | true =>
        rw [hb] at hf
        simp only [cond_true] at hf
        split at hf
        · rename_i x hx
          cases hf
          subst hpc
          simp only [Bool.and_eq_true, decide_eq_true_eq] at hb
          intro ls stk H locs ⟨lv, ws, tys, h1, h2, h3, h4, h5, h6, h7, h8, h9⟩
          rw [hst] at h3
          match stk, h3 with
          | v1 :: v2 :: rest, h3 =>
            obtain ⟨ni, rfl, i1, i2⟩ := x_bi_ok h9 hib h3.1
            obtain ⟨a, ee, hq, rfl, hc⟩ := x_ref h4 h3.2.1 hcell
            obtain ⟨t0, cA, f, g1, rfl, g2, g3⟩ := x_arr hb.1 hc
            obtain ⟨k1, k2, k3, k4⟩ := x_ix hb.2.1 hb.2.2 i1 i2
            exact hw kd hb.1 C h5 h6 hq g1 k1 (hg _ List.mem_cons_self ls (.int (f ni.toNatClampNeg) :: rest) H locs ⟨lv, ws, tys, h1, h2, ⟨x_rgn_ok hx _ k3 k4 (g3 _ k2), h3.2.2⟩, h4, h5, h6, h7, h8, h9⟩)
        · cases hf
    · cases hf
  · cases hf
theorem xi_ast_ok {b : Bool} (hw : ∀ kd, x_akd b kd = true → x_As cl cc own nL nm MC MS pc nx (x_aty kd)) : x_Snd cl K cc own nL nm MC MS pc (xi_ast b nx) := by
  intro V sc p l e R s m args below meth c D A H0 Q C hA hK t ts hpc hf hg
  unfold xi_ast at hf
  split at hf
  · rename_i x i j jb r hst
    split at hf
    · rename_i ib xb kd cN n d o hib hxb hcell
      cases hb : (x_akd b kd && (decide (0 ≤ ib.1) && decide (ib.2 < n))) with
      | false => rw [hb] at hf; cases hf
      | true =>
        rw [hb] at hf
        simp only [cond_true] at hf
        subst hpc
        simp only [Bool.and_eq_true, decide_eq_true_eq] at hb
        intro ls stk H locs ⟨lv, ws, tys, h1, h2, h3, h4, h5, h6, h7, h8, h9⟩
        rw [hst] at h3
        match stk, h3 with
        | v0 :: v1 :: v2 :: rest, h3 =>
          obtain ⟨nx', rfl, x1, x2⟩ := x_bi_ok h9 hxb h3.1
          obtain ⟨ni, rfl, i1, i2⟩ := x_bi_ok h9 hib h3.2.1
          obtain ⟨a, ee, hq, rfl, hc⟩ := x_ref h4 h3.2.2.1 hcell
          obtain ⟨t0, cA, f, g1, rfl, g2, g3⟩ := x_arr hb.1 hc
          obtain ⟨k1, k2, k3, k4⟩ := x_ix hb.2.1 hb.2.2 i1 i2
          obtain ⟨n1, n2, n3⟩ := x_nrw_ok (kd := kd) h3.1 x1 x2
          cases hd : decide (ib.1 = ib.2) with
          | true =>
            rw [hd] at hf
            cases hf
            simp only [decide_eq_true_eq] at hd
            refine hw kd hb.1 C h5 h6 h7 h8 hq g1 k1 (fun H1 locs1 hP hD hS => hg _ List.mem_cons_self ls rest H1 locs1 ⟨lv, _, tys, h1, ?_, ?_, x_world_set h4 hq (x_cell_arr hb.1 ⟨t0, cA, _, g1, rfl, g2, fun k hk => ?_⟩), h5, hP, hD, hS, h9⟩)
            · rw [x_fst_set hq]; exact h2
            · rw [x_fst_set hq]; exact h3.2.2.2
            · rw [x_get_put]
              have ek : ni.toNatClampNeg = ib.1.toNat := by omega
              rw [ek]
              by_cases hik : k = ib.1.toNat
              · rw [if_pos hik]
                simp only [upd, hik, if_pos]
                exact n1
              · rw [if_neg hik]
                simp only [upd, if_neg hik]
                exact g3 k hk
          | false =>
            rw [hd] at hf
            simp only [cond_false] at hf
            split at hf
            · rename_i z hz
              split at hf
              · rename_i y hy
                cases hf
                refine hw kd hb.1 C h5 h6 h7 h8 hq g1 k1 (fun H1 locs1 hP hD hS => hg _ List.mem_cons_self ls rest H1 locs1 ⟨lv, _, tys, h1, ?_, ?_, x_world_set h4 hq (x_cell_arr hb.1 ⟨t0, cA, _, g1, rfl, g2, fun k hk => ?_⟩), h5, hP, hD, hS, h9⟩)
                · rw [x_fst_set hq]; exact h2
                · rw [x_fst_set hq]; exact h3.2.2.2
                · unfold x_get
                  by_cases hik : k = ni.toNatClampNeg
                  · simp only [upd, if_pos hik]
                    exact x_hul_l hy (x_join_r hz ⟨_, rfl, n2, n3⟩)
                  · simp only [upd, if_neg hik]
                    exact x_hul_ok hy (fun v h => x_join_l hz h) k (g3 k hk)
              · cases hf
            · cases hf
    · cases hf
  · cases hf
end X7
end
