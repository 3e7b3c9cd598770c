noncomputable section
/-! numbers by bounds; branches -/
def x_I (lo hi : Int) : xV := bif decide (-2147483648 ≤ lo) && decide (hi ≤ 2147483647) then (0, lo, hi) else (0, -2147483648, 2147483647)
def x_J (lo hi : Int) : xV := bif decide (-9223372036854775808 ≤ lo) && decide (hi ≤ 9223372036854775807) then (4, lo, hi) else (4, -9223372036854775808, 9223372036854775807)
theorem x_bmod {z : Int} (h1 : -2147483648 ≤ z) (h2 : z ≤ 2147483647) : z.bmod 4294967296 = z := by
  rw [Int.bmod_eq_of_le] <;> omega
theorem x_bmodL {z : Int} (h1 : -9223372036854775808 ≤ z) (h2 : z ≤ 9223372036854775807) : z.bmod 18446744073709551616 = z := by
  rw [Int.bmod_eq_of_le] <;> omega
theorem x_rng (n : Int32) : -2147483648 ≤ n.toInt ∧ n.toInt ≤ 2147483647 := by
  have h1 := Int32.le_toInt n
  have h2 := Int32.toInt_lt n
  omega
theorem x_rngL (n : Int64) : -9223372036854775808 ≤ n.toInt ∧ n.toInt ≤ 9223372036854775807 := by
  have h1 := Int64.le_toInt n
  have h2 := Int64.toInt_lt n
  omega
theorem x_I_ok {ad : List Nat} {V : List Int} {sc : Nat × Nat × List Nat} {n : Int32} {z lo hi : Int} (hz : n.toInt = z.bmod 4294967296) (h1 : lo ≤ z) (h2 : z ≤ hi) : x_rel ad V sc (x_I lo hi) (.int n) := by
  unfold x_I
  cases hc : (decide (-2147483648 ≤ lo) && decide (hi ≤ 2147483647)) with
  | false => exact ⟨n, rfl, (x_rng n).1, (x_rng n).2⟩
  | true =>
    simp only [Bool.and_eq_true, decide_eq_true_eq] at hc
    rw [x_bmod (by omega) (by omega)] at hz
    exact ⟨n, rfl, by show lo ≤ n.toInt; omega, by show n.toInt ≤ hi; omega⟩
theorem x_J_ok {ad : List Nat} {V : List Int} {sc : Nat × Nat × List Nat} {n : Int64} {z lo hi : Int} (hz : n.toInt = z.bmod 18446744073709551616) (h1 : lo ≤ z) (h2 : z ≤ hi) : x_rel ad V sc (x_J lo hi) (.long n) := by
  unfold x_J
  cases hc : (decide (-9223372036854775808 ≤ lo) && decide (hi ≤ 9223372036854775807)) with
  | false => exact ⟨n, rfl, (x_rngL n).1, (x_rngL n).2⟩
  | true =>
    simp only [Bool.and_eq_true, decide_eq_true_eq] at hc
    rw [x_bmodL (by omega) (by omega)] at hz
    exact ⟨n, rfl, by show lo ≤ n.toInt; omega, by show n.toInt ≤ hi; omega⟩
/-- any int -/
def x_any : xV := (0, -2147483648, 2147483647)
theorem x_any_ok {ad : List Nat} {V : List Int} {sc : Nat × Nat × List Nat} (n : Int32) : x_rel ad V sc x_any (.int n) := ⟨n, rfl, (x_rng n).1, (x_rng n).2⟩
def x_anyL : xV := (4, -9223372036854775808, 9223372036854775807)
theorem x_anyL_ok {ad : List Nat} {V : List Int} {sc : Nat × Nat × List Nat} (n : Int64) : x_rel ad V sc x_anyL (.long n) := ⟨n, rfl, (x_rngL n).1, (x_rngL n).2⟩
/-- two ints on the stack, an int comes: by bounds -/
def xi_bin (F : Int × Int → Int × Int → Option xV) (nx : Nat) : xS → Option (List xS) := fun t => match t.2.2.1 with
  | y :: x :: r => match x_bi t.2.2.2.2.1 x, x_bi t.2.2.2.2.1 y with
    | some a, some b => match F a b with
      | some z => some [(nx, t.2.1, z :: r, t.2.2.2)]
      | none => none
    | _, _ => none
  | _ => none
def xi_un (F : Int × Int → xV) (nx : Nat) : xS → Option (List xS) := fun t => match t.2.2.1 with
  | x :: r => match x_bi t.2.2.2.2.1 x with
    | some a => some [(nx, t.2.1, F a :: r, t.2.2.2)]
    | none => none
  | _ => none
def xi_binL (F : Int × Int → Int × Int → Option xV) (nx : Nat) : xS → Option (List xS) := fun t => match t.2.2.1 with
  | y :: x :: r => match x_bl t.2.2.2.2.1 x, x_bl t.2.2.2.2.1 y with
    | some a, some b => match F a b with
      | some z => some [(nx, t.2.1, z :: r, t.2.2.2)]
      | none => none
    | _, _ => none
  | _ => none
/-- a long below, an int above: a shift -/
def xi_shL (F : Int × Int → Int × Int → Option xV) (nx : Nat) : xS → Option (List xS) := fun t => match t.2.2.1 with
  | y :: x :: r => match x_bl t.2.2.2.2.1 x, x_bi t.2.2.2.2.1 y with
    | some a, some b => match F a b with
      | some z => some [(nx, t.2.1, z :: r, t.2.2.2)]
      | none => none
    | _, _ => none
  | _ => none
def xi_unL (F : Int × Int → xV) (nx : Nat) : xS → Option (List xS) := fun t => match t.2.2.1 with
  | x :: r => match x_bl t.2.2.2.2.1 x with
    | some a => some [(nx, t.2.1, F a :: r, t.2.2.2)]
    | none => none
  | _ => none
/-- an int becomes a long: a token stays one -/
def xi_i2l (nx : Nat) : xS → Option (List xS) := fun t => match t.2.2.1 with
  | x :: r => match x.1 with
    | 3 => some [(nx, t.2.1, (6, x.2) :: r, t.2.2.2)]
    | _ => match x_bi t.2.2.2.2.1 x with
      | some a => some [(nx, t.2.1, (4, a) :: r, t.2.2.2)]
      | none => none
  | _ => none
def xi_inc (i : Nat) (n : Int) (nx : Nat) : xS → Option (List xS) := fun t => match x_find t.2.1 i with
  | some x => match x_bi t.2.2.2.2.1 x with
    | some a => some [(nx, (i, x_I (a.1 + n) (a.2 + n)) :: t.2.1.filter (x_flt 0 i), t.2.2.1, t.2.2.2)]
    | none => none
  | none => none
section X4
variable {cl : List vw_C} {K : xKx} {cc : ByteArray} {own : String} {nL : Nat} {nm : String} {MC MS pc nx : Nat}
theorem xi_bin_ok {F : Int × Int → Int × Int → Option xV} {g : Int32 → Int32 → Int32} (P : Int32 → Prop) (hw : ∀ x y, P y → x_Stk cc own nL pc nx [.int y, .int x] [.int (g x y)])
    (hF : ∀ (a b : Int × Int) (z : xV) (x y : Int32), F a b = some z → a.1 ≤ x.toInt → x.toInt ≤ a.2 → b.1 ≤ y.toInt → y.toInt ≤ b.2 → P y ∧ ∀ ad V sc, x_rel ad V sc z (.int (g x y))) : x_Snd cl K cc own nL nm MC MS pc (xi_bin F nx) := by
  intro V sc p l e R s m args below meth c D A H0 Q C hA hK t ts hpc hf hg
  unfold xi_bin at hf
  split at hf
  · rename_i y x r hst
    split at hf
    · rename_i a b ha hb
      split at hf
      · rename_i z hz
        cases hf
        subst hpc
        intro ls stk H locs ⟨lv, ws, tys, h1, h2, h3, h4⟩
        rw [hst] at h3
        match stk, h3 with
        | v1 :: v2 :: rest, h3 =>
          obtain ⟨ny, rfl, y1, y2⟩ := x_bi_ok h4.2.2.2.2.2 hb h3.1
          obtain ⟨nx', rfl, x1, x2⟩ := x_bi_ok h4.2.2.2.2.2 ha h3.2.1
          obtain ⟨hP, hr⟩ := hF a b z nx' ny hz x1 x2 y1 y2
          exact hw nx' ny hP C.1 (hg _ List.mem_cons_self ls (.int (g nx' ny) :: rest) H locs ⟨lv, ws, tys, h1, h2, ⟨hr _ _ _, h3.2.2⟩, h4⟩)
      · cases hf
    · cases hf
  · cases hf
theorem xi_un_ok {F : Int × Int → xV} {g : Int32 → Value} (hw : ∀ x, x_Stk cc own nL pc nx [.int x] [g x])
    (hF : ∀ (a : Int × Int) (x : Int32), a.1 ≤ x.toInt → x.toInt ≤ a.2 → ∀ ad V sc, x_rel ad V sc (F a) (g x)) : x_Snd cl K cc own nL nm MC MS pc (xi_un F nx) := by
  intro V sc p l e R s m args below meth c D A H0 Q C hA hK t ts hpc hf hg
  unfold xi_un at hf
  split at hf
  · rename_i x r hst
    split at hf
    · rename_i a ha
      cases hf
      subst hpc
      intro ls stk H locs ⟨lv, ws, tys, h1, h2, h3, h4⟩
      rw [hst] at h3
      match stk, h3 with
      | v2 :: rest, h3 =>
        obtain ⟨nx', rfl, x1, x2⟩ := x_bi_ok h4.2.2.2.2.2 ha h3.1
        exact hw nx' C.1 (hg _ List.mem_cons_self ls (g nx' :: rest) H locs ⟨lv, ws, tys, h1, h2, ⟨hF a nx' x1 x2 _ _ _, h3.2⟩, h4⟩)
    · cases hf
  · cases hf
theorem xi_unL_ok {F : Int × Int → xV} {g : Int64 → Value} (hw : ∀ x, x_Stk cc own nL pc nx [.long x] [g x])
    (hF : ∀ (a : Int × Int) (x : Int64), a.1 ≤ x.toInt → x.toInt ≤ a.2 → ∀ ad V sc, x_rel ad V sc (F a) (g x)) : x_Snd cl K cc own nL nm MC MS pc (xi_unL F nx) := by
  intro V sc p l e R s m args below meth c D A H0 Q C hA hK t ts hpc hf hg
  unfold xi_unL at hf
  split at hf
  · rename_i x r hst
    split at hf
    · rename_i a ha
      cases hf
      subst hpc
      intro ls stk H locs ⟨lv, ws, tys, h1, h2, h3, h4⟩
      rw [hst] at h3
      match stk, h3 with
      | v2 :: rest, h3 =>
        obtain ⟨nx', rfl, x1, x2⟩ := x_bl_ok h4.2.2.2.2.2 ha h3.1
        exact hw nx' C.1 (hg _ List.mem_cons_self ls (g nx' :: rest) H locs ⟨lv, ws, tys, h1, h2, ⟨hF a nx' x1 x2 _ _ _, h3.2⟩, h4⟩)
    · cases hf
  · cases hf
theorem xi_binL_ok {F : Int × Int → Int × Int → Option xV} {g : Int64 → Int64 → Int64} (P : Int64 → Prop) (hw : ∀ x y, P y → x_Stk cc own nL pc nx [.long y, .long x] [.long (g x y)])
    (hF : ∀ (a b : Int × Int) (z : xV) (x y : Int64), F a b = some z → a.1 ≤ x.toInt → x.toInt ≤ a.2 → b.1 ≤ y.toInt → y.toInt ≤ b.2 → P y ∧ ∀ ad V sc, x_rel ad V sc z (.long (g x y))) : x_Snd cl K cc own nL nm MC MS pc (xi_binL F nx) := by
  intro V sc p l e R s m args below meth c D A H0 Q C hA hK t ts hpc hf hg
  unfold xi_binL at hf
  split at hf
  · rename_i y x r hst
    split at hf
    · rename_i a b ha hb
      split at hf
      · rename_i z hz
        cases hf
        subst hpc
        intro ls stk H locs ⟨lv, ws, tys, h1, h2, h3, h4⟩
        rw [hst] at h3
        match stk, h3 with
        | v1 :: v2 :: rest, h3 =>
          obtain ⟨ny, rfl, y1, y2⟩ := x_bl_ok h4.2.2.2.2.2 hb h3.1
          obtain ⟨nx', rfl, x1, x2⟩ := x_bl_ok h4.2.2.2.2.2 ha h3.2.1
          obtain ⟨hP, hr⟩ := hF a b z nx' ny hz x1 x2 y1 y2
          exact hw nx' ny hP C.1 (hg _ List.mem_cons_self ls (.long (g nx' ny) :: rest) H locs ⟨lv, ws, tys, h1, h2, ⟨hr _ _ _, h3.2.2⟩, h4⟩)
      · cases hf
    · cases hf
  · cases hf
theorem xi_shL_ok {F : Int × Int → Int × Int → Option xV} {g : Int64 → Int32 → Int64} (hw : ∀ x y, x_Stk cc own nL pc nx [.int y, .long x] [.long (g x y)])
    (hF : ∀ (a b : Int × Int) (z : xV) (x : Int64) (y : Int32), F a b = some z → a.1 ≤ x.toInt → x.toInt ≤ a.2 → b.1 ≤ y.toInt → y.toInt ≤ b.2 → ∀ ad V sc, x_rel ad V sc z (.long (g x y))) : x_Snd cl K cc own nL nm MC MS pc (xi_shL F nx) := by
  intro V sc p l e R s m args below meth c D A H0 Q C hA hK t ts hpc hf hg
  unfold xi_shL at hf
  split at hf
  · rename_i y x r hst
    split at hf
    · rename_i a b ha hb
      split at hf
      · rename_i z hz
        cases hf
        subst hpc
        intro ls stk H locs ⟨lv, ws, tys, h1, h2, h3, h4⟩
        rw [hst] at h3
        match stk, h3 with
        | v1 :: v2 :: rest, h3 =>
          obtain ⟨ny, rfl, y1, y2⟩ := x_bi_ok h4.2.2.2.2.2 hb h3.1
          obtain ⟨nx', rfl, x1, x2⟩ := x_bl_ok h4.2.2.2.2.2 ha h3.2.1
          have hr := hF a b z nx' ny hz x1 x2 y1 y2
          exact hw nx' ny C.1 (hg _ List.mem_cons_self ls (.long (g nx' ny) :: rest) H locs ⟨lv, ws, tys, h1, h2, ⟨hr _ _ _, h3.2.2⟩, h4⟩)
      · cases hf
    · cases hf
  · cases hf
theorem xi_i2l_ok (hw : ∀ x : Int32, x_Stk cc own nL pc nx [.int x] [.long x.toInt64]) : x_Snd cl K cc own nL nm MC MS pc (xi_i2l nx) := by
  intro V sc p l e R s m args below meth c D A H0 Q C hA hK t ts hpc hf hg
  unfold xi_i2l at hf
  split at hf
  · rename_i x r hst
    obtain ⟨tg, xa, xb⟩ := x
    split at hf
    · rename_i h0
      simp only at h0
      subst h0
      cases hf
      subst hpc
      intro ls stk H locs ⟨lv, ws, tys, h1, h2, h3, h4⟩
      rw [hst] at h3
      match stk, h3 with
      | v2 :: rest, h3 =>
        obtain ⟨n, rfl, hn⟩ := h3.1
        exact hw n C.1 (hg _ List.mem_cons_self ls (.long n.toInt64 :: rest) H locs ⟨lv, ws, tys, h1, h2, ⟨⟨n.toInt64, rfl, by rw [Int32.toInt_toInt64]; exact hn⟩, h3.2⟩, h4⟩)
    · split at hf
      · rename_i a ha
        cases hf
        subst hpc
        intro ls stk H locs ⟨lv, ws, tys, h1, h2, h3, h4⟩
        rw [hst] at h3
        match stk, h3 with
        | v2 :: rest, h3 =>
          obtain ⟨n, rfl, x1, x2⟩ := x_bi_ok h4.2.2.2.2.2 ha h3.1
          exact hw n C.1 (hg _ List.mem_cons_self ls (.long n.toInt64 :: rest) H locs ⟨lv, ws, tys, h1, h2, ⟨⟨n.toInt64, rfl, by rw [Int32.toInt_toInt64]; exact x1, by rw [Int32.toInt_toInt64]; exact x2⟩, h3.2⟩, h4⟩)
      · cases hf
  · cases hf
theorem xi_inc_ok {i : Nat} {n : Int} (hn : -2147483648 ≤ n ∧ n ≤ 2147483647) (hw : x_Inc cc own nL pc nx i n) : x_Snd cl K cc own nL nm MC MS pc (xi_inc i n nx) := by
  intro V sc p l e R s m args below meth c D A H0 Q C hA hK t ts hpc hf hg
  unfold xi_inc at hf
  split at hf
  · rename_i x hx
    split at hf
    · rename_i a ha
      cases hf
      subst hpc
      intro ls stk H locs ⟨lv, ws, tys, h1, h2, h3, h4⟩
      obtain ⟨k, v, hk, hr⟩ := x_find_ok h2 hx
      obtain ⟨z, rfl, x1, x2⟩ := x_bi_ok h4.2.2.2.2.2 ha hr
      refine hw C.1 h1 hk (fun ls' hl' => hg _ List.mem_cons_self ls' stk H locs ⟨_, ws, tys, hl', ⟨⟨rfl, ?_⟩, x_all2_filter h2 x_flt_eq⟩, h3, h4⟩)
      refine x_I_ok (z := z.toInt + n) ?_ (by omega) (by omega)
      rw [Int32.toInt_add, Int32.toInt_ofInt, x_bmod hn.1 hn.2]
    · cases hf
  · cases hf
end X4
end
