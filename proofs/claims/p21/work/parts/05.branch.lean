noncomputable section
/-! branches by bounds: decided where the bounds decide, else both ways with narrower bounds -/
def x_cnd (k : Nat) (a b : Int) : Prop := match k with
  | 0 => a = b
  | 1 => a ≠ b
  | 2 => a < b
  | 3 => b ≤ a
  | 4 => b < a
  | _ => a ≤ b
def x_neg (k : Nat) : Nat := match k with
  | 0 => 1
  | 1 => 0
  | 2 => 3
  | 3 => 2
  | 4 => 5
  | _ => 4
theorem x_neg_ok {k : Nat} {a b : Int} (h : ¬ x_cnd k a b) : x_cnd (x_neg k) a b := by
  unfold x_cnd at h
  unfold x_neg
  split at h <;> simp only [x_cnd] <;> omega
/-- can it be so? -/
def x_may (k : Nat) (a b : Int × Int) : Bool := match k with
  | 0 => decide (a.1 ≤ b.2) && decide (b.1 ≤ a.2)
  | 1 => !(decide (a.1 = a.2) && (decide (b.1 = b.2) && decide (a.1 = b.1)))
  | 2 => decide (a.1 < b.2)
  | 3 => decide (b.1 ≤ a.2)
  | 4 => decide (b.1 < a.2)
  | _ => decide (a.1 ≤ b.2)
theorem x_may_ok {k : Nat} {a b : Int × Int} {x y : Int} (hx : a.1 ≤ x ∧ x ≤ a.2) (hy : b.1 ≤ y ∧ y ≤ b.2) (h : x_cnd k x y) : x_may k a b = true := by
  unfold x_cnd at h
  unfold x_may
  split at h <;> simp only [Bool.and_eq_true, decide_eq_true_eq, Bool.not_eq_true', Bool.and_eq_false_iff, decide_eq_false_iff_not] <;> omega
def x_max (a b : Int) : Int := bif decide (a ≤ b) then b else a
def x_min (a b : Int) : Int := bif decide (a ≤ b) then a else b
theorem x_max_le {a b x : Int} (h1 : a ≤ x) (h2 : b ≤ x) : x_max a b ≤ x := by
  unfold x_max
  cases decide (a ≤ b) <;> assumption
theorem x_le_min {a b x : Int} (h1 : x ≤ a) (h2 : x ≤ b) : x ≤ x_min a b := by
  unfold x_min
  cases decide (a ≤ b) <;> assumption
/-- what is then known of the first -/
def x_nar1 (k : Nat) (a b : Int × Int) : Int × Int := match k with
  | 0 => (x_max a.1 b.1, x_min a.2 b.2)
  | 1 => a
  | 2 => (a.1, x_min a.2 (b.2 - 1))
  | 3 => (x_max a.1 b.1, a.2)
  | 4 => (x_max a.1 (b.1 + 1), a.2)
  | _ => (a.1, x_min a.2 b.2)
def x_nar2 (k : Nat) (a b : Int × Int) : Int × Int := match k with
  | 0 => (x_max a.1 b.1, x_min a.2 b.2)
  | 1 => b
  | 2 => (x_max b.1 (a.1 + 1), b.2)
  | 3 => (b.1, x_min b.2 a.2)
  | 4 => (b.1, x_min b.2 (a.2 - 1))
  | _ => (x_max b.1 a.1, b.2)
theorem x_nar_ok {k : Nat} {a b : Int × Int} {x y : Int} (hx : a.1 ≤ x ∧ x ≤ a.2) (hy : b.1 ≤ y ∧ y ≤ b.2) (h : x_cnd k x y) : ((x_nar1 k a b).1 ≤ x ∧ x ≤ (x_nar1 k a b).2) ∧ (x_nar2 k a b).1 ≤ y ∧ y ≤ (x_nar2 k a b).2 := by
  unfold x_cnd at h
  unfold x_nar1 x_nar2
  split at h <;> refine ⟨⟨?_, ?_⟩, ?_, ?_⟩ <;> (try simp only) <;> first | omega | (apply x_max_le <;> omega) | (apply x_le_min <;> omega)
/-- a token's bounds set -/
def x_setb (tk : xT) (x : xV) (b : Int × Int) : xT := match x.1 with
  | 3 => tk.set x.2.1.toNat b
  | 6 => tk.set x.2.1.toNat b
  | _ => tk
theorem x_tk_set {tk : xT} {V : List Int} {j : Nat} {b : Int × Int} {z : Int} (h : x_tk tk V) (hv : V[j]? = some z) (h1 : b.1 ≤ z) (h2 : z ≤ b.2) : x_tk (tk.set j b) V := by
  intro i q hq
  rw [List.getElem?_set] at hq
  split at hq
  · rename_i e
    split at hq
    · cases hq
      subst e
      exact ⟨z, hv, h1, h2⟩
    · cases hq
  · exact h i q hq
theorem x_setb_i {ad : List Nat} {V : List Int} {sc : Nat × Nat × List Nat} {tk : xT} {x : xV} {b : Int × Int} {n : Int32} (h : x_tk tk V) (hr : x_rel ad V sc x (.int n)) (h1 : b.1 ≤ n.toInt) (h2 : n.toInt ≤ b.2) : x_tk (x_setb tk x b) V := by
  obtain ⟨t, xa, xb⟩ := x
  unfold x_setb
  unfold x_rel at hr
  split at hr
  · rename_i h0; simp only at h0; subst h0; exact h
  · rename_i h0; simp only at h0; subst h0; exact h
  · rename_i h0; simp only at h0; subst h0; exact h
  · rename_i h0; simp only at h0; subst h0
    obtain ⟨n', e, hv⟩ := hr
    cases e
    exact x_tk_set h hv h1 h2
  · rename_i h0; simp only at h0; subst h0; exact h
  · obtain ⟨n', e, hv⟩ := hr
    cases e
  · rename_i h0; simp only at h0; subst h0; exact h
  · exact hr.elim
theorem x_setb_l {ad : List Nat} {V : List Int} {sc : Nat × Nat × List Nat} {tk : xT} {x : xV} {b : Int × Int} {n : Int64} (h : x_tk tk V) (hr : x_rel ad V sc x (.long n)) (h1 : b.1 ≤ n.toInt) (h2 : n.toInt ≤ b.2) : x_tk (x_setb tk x b) V := by
  obtain ⟨t, xa, xb⟩ := x
  unfold x_setb
  unfold x_rel at hr
  split at hr
  · rename_i h0; simp only at h0; subst h0; exact h
  · rename_i h0; simp only at h0; subst h0; exact h
  · rename_i h0; simp only at h0; subst h0; exact h
  · obtain ⟨n', e, hv⟩ := hr
    cases e
  · rename_i h0; simp only at h0; subst h0; exact h
  · rename_i h0; simp only at h0; subst h0
    obtain ⟨n', e, hv⟩ := hr
    cases e
    exact x_tk_set h hv h1 h2
  · rename_i h0; simp only at h0; subst h0; exact h
  · exact hr.elim
/-- one way of a branch, if it can be gone -/
def x_way (k : Nat) (a b : Int × Int) (t : xS) (x y : xV) (st : List xV) (nx : Nat) : List xS :=
  bif x_may k a b then [(nx, t.2.1, st, t.2.2.2.1, x_setb (x_setb t.2.2.2.2.1 x (x_nar1 k a b)) y (x_nar2 k a b), t.2.2.2.2.2)] else []
def xi_if2 (k tg nx : Nat) : xS → Option (List xS) := fun t => match t.2.2.1 with
  | y :: x :: r => match x_bi t.2.2.2.2.1 x, x_bi t.2.2.2.2.1 y with
    | some a, some b => some (x_way k a b t x y r tg ++ x_way (x_neg k) a b t x y r nx)
    | _, _ => none
  | _ => none
def xi_if1 (k tg nx : Nat) : xS → Option (List xS) := fun t => match t.2.2.1 with
  | x :: r => match x_bi t.2.2.2.2.1 x with
    | some a => some (x_way k a (0, 0) t x (0, 0, 0) r tg ++ x_way (x_neg k) a (0, 0) t x (0, 0, 0) r nx)
    | _ => none
  | _ => none
def xi_lcmp (nx : Nat) : xS → Option (List xS) := fun t => match t.2.2.1 with
  | y :: x :: r => match x_bl t.2.2.2.2.1 x, x_bl t.2.2.2.2.1 y with
    | some a, some b => some (x_way 2 a b t x y ((0, -1, -1) :: r) nx ++ (x_way 0 a b t x y ((0, 0, 0) :: r) nx ++ x_way 4 a b t x y ((0, 1, 1) :: r) nx))
    | _, _ => none
  | _ => none
section XW5
variable (cc : ByteArray) (own : String) (nL pc tg nx : Nat)
def x_If2 (k : Nat) : Prop := ∀ {p : Program} {l : Launch} {e : Env} {R : Room} {s : State} {m : MethodId} {args : Array Value} {below : List Frame} {meth : Method} {c : Code}, CallFix p m c cc nL s args x_tbl own → ∀ {H : Heap} {locs : List Loc} {cells slots : Nat} {Q : State → Prop} {ls : Array Slot} {rest : List Value} {x y : Int32},
  (x_cnd k x.toInt y.toInt → W p l e R s m args below meth c H locs cells slots Q (F0 m tg ls rest)) → (¬ x_cnd k x.toInt y.toInt → W p l e R s m args below meth c H locs cells slots Q (F0 m nx ls rest)) → W p l e R s m args below meth c H locs cells slots Q (F0 m pc ls (.int y :: .int x :: rest))
def x_If1 (k : Nat) : Prop := ∀ {p : Program} {l : Launch} {e : Env} {R : Room} {s : State} {m : MethodId} {args : Array Value} {below : List Frame} {meth : Method} {c : Code}, CallFix p m c cc nL s args x_tbl own → ∀ {H : Heap} {locs : List Loc} {cells slots : Nat} {Q : State → Prop} {ls : Array Slot} {rest : List Value} {x : Int32},
  (x_cnd k x.toInt 0 → W p l e R s m args below meth c H locs cells slots Q (F0 m tg ls rest)) → (¬ x_cnd k x.toInt 0 → W p l e R s m args below meth c H locs cells slots Q (F0 m nx ls rest)) → W p l e R s m args below meth c H locs cells slots Q (F0 m pc ls (.int x :: rest))
end XW5
section X5
variable {cl : List vw_C} {K : xKx} {cc : ByteArray} {own : String} {nL : Nat} {nm : String} {MC MS pc tg nx : Nat}
theorem x_way_in {k : Nat} {a b : Int × Int} {t : xS} {x y : xV} {st : List xV} {nx : Nat} (h : x_may k a b = true) : (nx, t.2.1, st, t.2.2.2.1, x_setb (x_setb t.2.2.2.2.1 x (x_nar1 k a b)) y (x_nar2 k a b), t.2.2.2.2.2) ∈ x_way k a b t x y st nx := by
  unfold x_way
  rw [h]
  exact List.mem_cons_self
theorem xi_if2_ok {k : Nat} (hw : x_If2 cc own nL pc tg nx k) : x_Snd cl K cc own nL nm MC MS pc (xi_if2 k tg nx) := by
  intro V sc p l e R s m args below meth c D A H0 Q C hA hK t ts hpc hf hg
  unfold xi_if2 at hf
  split at hf
  · rename_i y x r hst
    split at hf
    · rename_i a b ha hb
      cases hf
      subst hpc
      intro ls stk H locs ⟨lv, ws, tys, h1, h2, h3, h4, h5, h6, h7, h8, h9⟩
      rw [hst] at h3
      match stk, h3 with
      | v1 :: v2 :: rest, h3 =>
        obtain ⟨ny, rfl, y1, y2⟩ := x_bi_ok h9 hb h3.1
        obtain ⟨nx', rfl, x1, x2⟩ := x_bi_ok h9 ha h3.2.1
        refine hw C.1 (fun hc => ?_) (fun hc => ?_)
        · obtain ⟨⟨g1, g2⟩, g3, g4⟩ := x_nar_ok ⟨x1, x2⟩ ⟨y1, y2⟩ hc
          exact hg _ (List.mem_append_left _ (x_way_in (x_may_ok ⟨x1, x2⟩ ⟨y1, y2⟩ hc))) ls rest H locs ⟨lv, ws, tys, h1, h2, h3.2.2, h4, h5, h6, h7, h8, x_setb_i (x_setb_i h9 h3.2.1 g1 g2) h3.1 g3 g4⟩
        · have hc := x_neg_ok hc
          obtain ⟨⟨g1, g2⟩, g3, g4⟩ := x_nar_ok ⟨x1, x2⟩ ⟨y1, y2⟩ hc
          exact hg _ (List.mem_append_right _ (x_way_in (x_may_ok ⟨x1, x2⟩ ⟨y1, y2⟩ hc))) ls rest H locs ⟨lv, ws, tys, h1, h2, h3.2.2, h4, h5, h6, h7, h8, x_setb_i (x_setb_i h9 h3.2.1 g1 g2) h3.1 g3 g4⟩
    · cases hf
  · cases hf
theorem xi_if1_ok {k : Nat} (hw : x_If1 cc own nL pc tg nx k) : x_Snd cl K cc own nL nm MC MS pc (xi_if1 k tg nx) := by
  intro V sc p l e R s m args below meth c D A H0 Q C hA hK t ts hpc hf hg
  unfold xi_if1 at hf
  split at hf
  · rename_i x r hst
    split at hf
    · rename_i a ha
      cases hf
      subst hpc
      intro ls stk H locs ⟨lv, ws, tys, h1, h2, h3, h4, h5, h6, h7, h8, h9⟩
      rw [hst] at h3
      match stk, h3 with
      | v2 :: rest, h3 =>
        obtain ⟨nx', rfl, x1, x2⟩ := x_bi_ok h9 ha h3.1
        refine hw C.1 (fun hc => ?_) (fun hc => ?_)
        · obtain ⟨⟨g1, g2⟩, g3, g4⟩ := x_nar_ok (b := (0, 0)) ⟨x1, x2⟩ ⟨Int.le_refl 0, Int.le_refl 0⟩ hc
          exact hg _ (List.mem_append_left _ (x_way_in (x_may_ok ⟨x1, x2⟩ ⟨Int.le_refl 0, Int.le_refl 0⟩ hc))) ls rest H locs ⟨lv, ws, tys, h1, h2, h3.2, h4, h5, h6, h7, h8, x_setb_i h9 h3.1 g1 g2⟩
        · have hc := x_neg_ok hc
          obtain ⟨⟨g1, g2⟩, g3, g4⟩ := x_nar_ok (b := (0, 0)) ⟨x1, x2⟩ ⟨Int.le_refl 0, Int.le_refl 0⟩ hc
          exact hg _ (List.mem_append_right _ (x_way_in (x_may_ok ⟨x1, x2⟩ ⟨Int.le_refl 0, Int.le_refl 0⟩ hc))) ls rest H locs ⟨lv, ws, tys, h1, h2, h3.2, h4, h5, h6, h7, h8, x_setb_i h9 h3.1 g1 g2⟩
    · cases hf
  · cases hf
theorem x_lg_cmp (x y : Int64) : (x.toInt < y.toInt → lg_cmp x y = -1) ∧ (x.toInt = y.toInt → lg_cmp x y = 0) ∧ (y.toInt < x.toInt → lg_cmp x y = 1) := by
  unfold lg_cmp
  refine ⟨fun h => ?_, fun h => ?_, fun h => ?_⟩
  · have h2 : ¬ y.toInt < x.toInt := by omega
    have h4 : ¬ x = y := fun e => by rw [e] at h; omega
    rw [if_neg (fun q => h2 (Int64.lt_iff_toInt_lt.mp q)), if_neg h4]
  · have e : x = y := Int64.toInt_inj.mp h
    subst e
    rw [if_neg (fun q => by have := Int64.lt_iff_toInt_lt.mp q; omega), if_pos rfl]
  · rw [if_pos (Int64.lt_iff_toInt_lt.mpr h)]
theorem xi_lcmp_ok (hw : ∀ x y : Int64, x_Stk cc own nL pc nx [.long y, .long x] [.int (lg_cmp x y)]) : x_Snd cl K cc own nL nm MC MS pc (xi_lcmp nx) := by
  intro V sc p l e R s m args below meth c D A H0 Q C hA hK t ts hpc hf hg
  unfold xi_lcmp at hf
  split at hf
  · rename_i y x r hst
    split at hf
    · rename_i a b ha hb
      cases hf
      subst hpc
      intro ls stk H locs ⟨lv, ws, tys, h1, h2, h3, h4, h5, h6, h7, h8, h9⟩
      rw [hst] at h3
      match stk, h3 with
      | v1 :: v2 :: rest, h3 =>
        obtain ⟨ny, rfl, y1, y2⟩ := x_bl_ok h9 hb h3.1
        obtain ⟨nx', rfl, x1, x2⟩ := x_bl_ok h9 ha h3.2.1
        obtain ⟨c1, c2, c3⟩ := x_lg_cmp nx' ny
        refine hw nx' ny C.1 ?_
        rcases Int.lt_trichotomy nx'.toInt ny.toInt with hc | hc | hc
        · have hc' : x_cnd 2 nx'.toInt ny.toInt := hc
          obtain ⟨⟨g1, g2⟩, g3, g4⟩ := x_nar_ok ⟨x1, x2⟩ ⟨y1, y2⟩ hc'
          rw [c1 hc]
          exact hg _ (List.mem_append_left _ (x_way_in (x_may_ok ⟨x1, x2⟩ ⟨y1, y2⟩ hc'))) ls (.int (-1) :: rest) H locs ⟨lv, ws, tys, h1, h2, ⟨⟨-1, rfl, by decide, by decide⟩, h3.2.2⟩, h4, h5, h6, h7, h8, x_setb_l (x_setb_l h9 h3.2.1 g1 g2) h3.1 g3 g4⟩
        · have hc' : x_cnd 0 nx'.toInt ny.toInt := hc
          obtain ⟨⟨g1, g2⟩, g3, g4⟩ := x_nar_ok ⟨x1, x2⟩ ⟨y1, y2⟩ hc'
          rw [c2 hc]
          exact hg _ (List.mem_append_right _ (List.mem_append_left _ (x_way_in (x_may_ok ⟨x1, x2⟩ ⟨y1, y2⟩ hc')))) ls (.int 0 :: rest) H locs ⟨lv, ws, tys, h1, h2, ⟨⟨0, rfl, by decide, by decide⟩, h3.2.2⟩, h4, h5, h6, h7, h8, x_setb_l (x_setb_l h9 h3.2.1 g1 g2) h3.1 g3 g4⟩
        · have hc' : x_cnd 4 nx'.toInt ny.toInt := hc
          obtain ⟨⟨g1, g2⟩, g3, g4⟩ := x_nar_ok ⟨x1, x2⟩ ⟨y1, y2⟩ hc'
          rw [c3 hc]
          exact hg _ (List.mem_append_right _ (List.mem_append_right _ (x_way_in (x_may_ok ⟨x1, x2⟩ ⟨y1, y2⟩ hc')))) ls (.int 1 :: rest) H locs ⟨lv, ws, tys, h1, h2, ⟨⟨1, rfl, by decide, by decide⟩, h3.2.2⟩, h4, h5, h6, h7, h8, x_setb_l (x_setb_l h9 h3.2.1 g1 g2) h3.1 g3 g4⟩
    · cases hf
  · cases hf
end X5
end
