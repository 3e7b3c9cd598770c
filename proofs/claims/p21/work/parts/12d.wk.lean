noncomputable section
/-! two longs compared and the branch behind it in one; pictures at the heads of loops; what the tokens say of each other -/
section X12d
variable {cl : List vw_C} {K : xKx} {cc : ByteArray} {own : String} {nL : Nat} {nm : String} {MC MS pc nx tg : Nat}
def xi_lif (k tg nx : Nat) : xS → Option (List xS) := fun t => match t.2.2.1 with
  | y :: x :: r => match x_bl t.2.2.2.2.1 x, x_bl t.2.2.2.2.1 y with
    | some a, some b => some (x_way k a b t x y r tg ++ x_way (x_neg k) a b t x y r nx)
    | _, _ => none
  | _ => none
theorem x_lgc (k : Nat) (x y : Int64) : x_cnd k (lg_cmp x y).toInt 0 ↔ x_cnd k x.toInt y.toInt := by
  obtain ⟨h1, h2, h3⟩ := x_lg_cmp x y
  have z0 : (0 : Int32).toInt = 0 := by decide
  have z1 : (1 : Int32).toInt = 1 := by decide
  have z2 : (-1 : Int32).toInt = -1 := by decide
  rcases Int.lt_trichotomy x.toInt y.toInt with h | h | h
  · rw [h1 h, z2]
    unfold x_cnd
    split <;> omega
  · rw [h2 h, z0]
    unfold x_cnd
    split <;> omega
  · rw [h3 h, z1]
    unfold x_cnd
    split <;> omega
theorem xi_lif_ok {k p1 : Nat} (hw1 : ∀ x y : Int64, x_Stk cc own nL pc p1 [.long y, .long x] [.int (lg_cmp x y)]) (hw2 : x_If1 cc own nL p1 tg nx k) : x_Snd cl K cc own nL nm MC MS pc (xi_lif k tg nx) := by
  intro V sc p l e R s m args below meth c D A H0 Q C hA hK t ts hpc hf hg
  unfold xi_lif at hf
  split at hf
  · rename_i y x r hst
    split at hf
    · rename_i a b ha hb
      cases hf
      subst hpc
      intro ls stk H locs ⟨lv, ws, tys, h1, h2, h3, h4, h5, h6, h7, h8, h9⟩
      rw [hst] at h3
      match stk, h3 with
      | v1 :: v2 :: rest, h3 =>
        obtain ⟨ny, rfl, y1, y2⟩ := x_bl_ok h9 hb h3.1
        obtain ⟨nx', rfl, x1, x2⟩ := x_bl_ok h9 ha h3.2.1
        refine hw1 nx' ny C.1 (hw2 C.1 (fun hc => ?_) (fun hc => ?_))
        · have hc := (x_lgc k nx' ny).mp hc
          obtain ⟨⟨g1, g2⟩, g3, g4⟩ := x_nar_ok ⟨x1, x2⟩ ⟨y1, y2⟩ hc
          exact hg _ (List.mem_append_left _ (x_way_in (x_may_ok ⟨x1, x2⟩ ⟨y1, y2⟩ hc))) ls rest H locs ⟨lv, ws, tys, h1, h2, h3.2.2, h4, h5, h6, h7, h8, x_setb_l (x_setb_l h9 h3.2.1 g1 g2) h3.1 g3 g4⟩
        · have hc := x_neg_ok (fun q => hc ((x_lgc k nx' ny).mpr q))
          obtain ⟨⟨g1, g2⟩, g3, g4⟩ := x_nar_ok ⟨x1, x2⟩ ⟨y1, y2⟩ hc
          exact hg _ (List.mem_append_right _ (x_way_in (x_may_ok ⟨x1, x2⟩ ⟨y1, y2⟩ hc))) ls rest H locs ⟨lv, ws, tys, h1, h2, h3.2.2, h4, h5, h6, h7, h8, x_setb_l (x_setb_l h9 h3.2.1 g1 g2) h3.1 g3 g4⟩
    · cases hf
  · cases hf
theorem xr_liflt {off : Int} (d : decode cc pc = .ok (.lcmp, 1)) (d2 : decode cc (pc + 1) = .ok (.ifCond .lt off, 3)) (ht : ((pc + 1 : Nat) : Int) + off = (tg : Int)) : x_Snd cl K cc own nL nm MC MS pc (xi_lif 2 tg (pc + 1 + 3)) := xi_lif_ok (k := 2) (fun x y => (fun S => fun k => W.lcmp S.1 S.2.1 d k)) (fun S => fun kt kf => lv_if_lt S.1 S.2.1 d2 ht (fun h => kt (x_lt0.mp h)) (fun h => kf (fun q => h (x_lt0.mpr q))))
theorem xr_lifgt {off : Int} (d : decode cc pc = .ok (.lcmp, 1)) (d2 : decode cc (pc + 1) = .ok (.ifCond .gt off, 3)) (ht : ((pc + 1 : Nat) : Int) + off = (tg : Int)) : x_Snd cl K cc own nL nm MC MS pc (xi_lif 4 tg (pc + 1 + 3)) := xi_lif_ok (k := 4) (fun x y => (fun S => fun k => W.lcmp S.1 S.2.1 d k)) (fun S => fun kt kf => lv_if_gt S.1 S.2.1 d2 ht (fun h => kt (x_gt0.mp h)) (fun h => kf (fun q => h (x_gt0.mpr q))))
theorem xr_lifle {off : Int} (d : decode cc pc = .ok (.lcmp, 1)) (d2 : decode cc (pc + 1) = .ok (.ifCond .le off, 3)) (ht : ((pc + 1 : Nat) : Int) + off = (tg : Int)) : x_Snd cl K cc own nL nm MC MS pc (xi_lif 5 tg (pc + 1 + 3)) := xi_lif_ok (k := 5) (fun x y => (fun S => fun k => W.lcmp S.1 S.2.1 d k)) (fun S => fun kt kf => lv_if_le S.1 S.2.1 d2 ht (fun h => kt (x_le0.mp h)) (fun h => kf (fun q => h (x_le0.mpr q))))
end X12d
/-! pictures at the heads of loops (they are checked, so nothing is to be proved of them) -/
def x_wkL (l : xL) : List (Nat × xV) → Option xL
  | [] => some []
  | q :: r => match x_wkL l r with
    | some b => bif Nat.beq q.2.1 99 then match x_find l q.1 with
        | some x => some ((q.1, x) :: b)
        | none => none
      else some (q :: b)
    | none => none
def x_wkc (w : List xC) (j : Nat) (v : xV) : Option (List xC) := match x_at w j with
  | some (kd, c, n, d, o) => match x_join d v with
    | some z => match x_hul z o with
      | some y => some (x_up w j (kd, c, n, y, []))
      | none => none
    | none => none
  | none => none
def x_wkC (l : xL) : List (Nat × xV) → List xC → Option (List xC)
  | [], w => some w
  | (k, v) :: r, w => match x_find l 0 with
    | some (1, j, _) => match x_at w j.toNat with
      | some (0, _, _, d, o) => match x_get d o k with
        | (1, jj, _) => match x_wkc w jj.toNat v with
          | some w' => x_wkC l r w'
          | none => none
        | _ => none
      | _ => none
    | _ => none
def x_wkT (tk : xT) (a : Nat) (b b2 : Int × Int) : xT := (((tk.set a b).set (a + 1) (b.1, b.2 + 1)).set (a + 2) b2).set (a + 3) (b2.1, b2.2 + 1)
def x_wk (a : Nat) (b b2 : Int × Int) (keep cells : List (Nat × xV)) : xS → Option xS := fun t => match x_wkL t.2.1 keep, x_wkC t.2.1 cells t.2.2.2.1 with
  | some l, some w => some (t.1, l, t.2.2.1, w, x_wkT t.2.2.2.2.1 a b b2, t.2.2.2.2.2)
  | _, _ => none
/-- filling an array with what it holds already -/
def x_wkF (a : Nat) : xS → Option xS := fun t => match x_find t.2.1 0, x_find t.2.1 1 with
  | some (1, j, _), some (0, z, z') => match x_at t.2.2.2.1 j.toNat with
    | some (kd, c, n, d, o) => match x_join d (0, z, z') with
      | some y0 => match x_hul y0 o with
        | some y => bif decide (y.2.1 = y.2.2) then match x_wkL t.2.1 [(2, (3, (a : Int), 0)), (0, (99, 0, 0)), (1, (99, 0, 0)), (3, (99, 0, 0))] with
            | some l => some (t.1, l, t.2.2.1, x_up t.2.2.2.1 j.toNat (kd, c, n, y, []), x_wkT t.2.2.2.2.1 a (0, (n : Int)) (0, (n : Int)), t.2.2.2.2.2)
            | none => none
          else none
        | none => none
      | none => none
    | none => none
  | _, _ => none
/-! what the tokens say of each other -/
def x_fR (f : Nat → Int) : Prop := ((f 6 = f 1 + f 3 ∧ f 7 = f 2 + f 4 ∧ f 8 = -f 4 ∧ f 9 = 16000 - f 1) ∧ (f 10 = f 1 + f 4 ∧ f 11 = f 1 - f 4 ∧ f 12 = f 2 + f 4 ∧ f 13 = f 2 - f 4) ∧ f 14 = 16000 - f 2 ∧ f 16 = f 15 - 6) ∧
  (f 21 = f 20 + 1 ∧ f 23 = f 22 + 1 ∧ f 25 = f 24 + 1 ∧ f 27 = f 26 + 1 ∧ f 29 = f 28 + 1 ∧ f 31 = f 30 + 1) ∧ f 22 ≤ f 20
def x_PV (P : (Nat → Int) → Prop) (V : List Int) : Prop := ∃ f : Nat → Int, V.length = 32 ∧ (∀ j, j < 32 → V[j]? = some (f j)) ∧ x_fR f ∧ P f
theorem x_PV_all {V : List Int} {P : (Nat → Int) → Prop} (h : x_PV P V) : x_PV (fun _ => True) V := by
  obtain ⟨f, h1, h2, h3, -⟩ := h
  exact ⟨f, h1, h2, h3, trivial⟩
def x_upf (f : Nat → Int) (a : Nat) (k i : Int) : Nat → Int := fun j => if j = a then k else if j = a + 1 then k + 1 else if j = a + 2 then i else if j = a + 3 then i + 1 else f j
theorem x_PV_up {P : (Nat → Int) → Prop} (hP : ∀ f a k i, 20 ≤ a → P f → P (x_upf f a k i)) : ∀ V a k i, x_tok a = true → x_PV P V → a + 3 < V.length ∧ V[a + 1]? = V[a]?.map (· + 1) ∧ V[a + 3]? = V[a + 2]?.map (· + 1) ∧ (a = 20 → ∀ x y, V[20]? = some x → V[22]? = some y → y ≤ x) ∧ ((a = 20 → i ≤ k) → x_PV P (x_vup V a k i)) := by
  intro V a k i ht ⟨f, h1, h2, h3, h4⟩
  have ha : a = 20 ∨ a = 24 ∨ a = 28 := by
    unfold x_tok at ht
    simp only [Bool.or_eq_true] at ht
    rcases ht with h | h | h
    · exact Or.inl (Nat.eq_of_beq_eq_true h)
    · exact Or.inr (Or.inl (Nat.eq_of_beq_eq_true h))
    · exact Or.inr (Or.inr (Nat.eq_of_beq_eq_true h))
  have hlen : a + 3 < V.length := by omega
  obtain ⟨q1, ⟨r1, r2, r3, r4, r5, r6⟩, q3⟩ := h3
  refine ⟨hlen, ?_, ?_, fun ea x y hx hy => ?_, fun hik => ⟨x_upf f a k i, ?_, fun j hj => ?_, ⟨?_, ?_, ?_⟩, hP f a k i (by omega) h4⟩⟩
  · rw [h2 _ (by omega), h2 _ (by omega)]
    show some _ = some _
    congr 1
    rcases ha with rfl | rfl | rfl
    · exact r1
    · exact r3
    · exact r5
  · rw [h2 _ (by omega), h2 _ (by omega)]
    show some _ = some _
    congr 1
    rcases ha with rfl | rfl | rfl
    · exact r2
    · exact r4
    · exact r6
  · rw [h2 _ (by omega)] at hx hy
    cases hx
    cases hy
    exact q3
  · rw [← (x_vup_off V a k i).1]; exact h1
  · unfold x_upf
    by_cases e1 : j = a
    · subst e1; rw [if_pos rfl]; exact x_vup_a hlen
    · rw [if_neg e1]
      by_cases e2 : j = a + 1
      · subst e2; rw [if_pos rfl]; exact x_vup_s hlen
      · rw [if_neg e2]
        by_cases e3 : j = a + 2
        · subst e3; rw [if_pos rfl]; exact x_vup_b hlen
        · rw [if_neg e3]
          by_cases e4 : j = a + 3
          · subst e4; rw [if_pos rfl]; exact x_vup_t hlen
          · rw [if_neg e4, ← (x_vup_off V a k i).2 j (by omega)]
            exact h2 j hj
  · have e : ∀ j, j < 20 → x_upf f a k i j = f j := fun j hj => by
      unfold x_upf
      rw [if_neg (by omega), if_neg (by omega), if_neg (by omega), if_neg (by omega)]
    rw [e 1 (by omega), e 2 (by omega), e 3 (by omega), e 4 (by omega), e 6 (by omega), e 7 (by omega), e 8 (by omega), e 9 (by omega), e 10 (by omega), e 11 (by omega), e 12 (by omega), e 13 (by omega), e 14 (by omega), e 15 (by omega), e 16 (by omega)]
    exact q1
  · rcases ha with rfl | rfl | rfl <;> simp [x_upf] <;> omega
  · rcases ha with rfl | rfl | rfl
    · simpa [x_upf] using hik rfl
    · simpa [x_upf] using q3
    · simpa [x_upf] using q3
/-- a token's number -/
theorem x_tI {V : List Int} {sc : Nat × Nat × List Nat} {ad : List Nat} {f : Nat → Int} (h2 : ∀ j, j < 32 → V[j]? = some (f j)) {j : Nat} {b : Int} {n : Int32} (hj : j < 32) (h : x_rel ad V sc (3, (j : Int), b) (.int n)) : n.toInt = f j := by
  obtain ⟨z, e, hz⟩ := h
  cases e
  simp only [Int.toNat_natCast] at hz
  rw [h2 j hj] at hz
  exact (Option.some.inj hz).symm
theorem x_tL {V : List Int} {sc : Nat × Nat × List Nat} {ad : List Nat} {f : Nat → Int} (h2 : ∀ j, j < 32 → V[j]? = some (f j)) {j : Nat} {b : Int} {n : Int64} (hj : j < 32) (h : x_rel ad V sc (6, (j : Int), b) (.long n)) : n.toInt = f j := by
  obtain ⟨z, e, hz⟩ := h
  cases e
  simp only [Int.toNat_natCast] at hz
  rw [h2 j hj] at hz
  exact (Option.some.inj hz).symm
theorem x_tC {V : List Int} {sc : Nat × Nat × List Nat} {ad : List Nat} {z : Int} {n : Int32} (h : x_rel ad V sc (0, z, z) (.int n)) : n.toInt = z := by
  obtain ⟨m, e, h1, h2⟩ := h
  cases e
  simp only at h1 h2
  omega
abbrev x_KP (K : xKx) : Prop := ∀ R s A H V sc, K R s A H V sc → x_PV (fun _ => True) V
theorem x_hev {K : xKx} (hK : x_KP K) : ∀ R s A H V sc, K R s A H V sc → ∀ j : Int, x_even j = true → V[j.toNat + 1]? = V[j.toNat]?.map (· + 1) := by
  intro R s A H V sc h j hj
  obtain ⟨f, h1, h2, h3, -⟩ := hK R s A H V sc h
  unfold x_even at hj
  simp only [Bool.or_eq_true, decide_eq_true_eq] at hj
  obtain ⟨q1, ⟨r1, r2, r3, r4, r5, r6⟩, q3⟩ := h3
  rcases hj with rfl | rfl | rfl | rfl | rfl | rfl
  · show V[21]? = V[20]?.map _; rw [h2 _ (by omega), h2 _ (by omega), r1]; rfl
  · show V[23]? = V[22]?.map _; rw [h2 _ (by omega), h2 _ (by omega), r2]; rfl
  · show V[25]? = V[24]?.map _; rw [h2 _ (by omega), h2 _ (by omega), r3]; rfl
  · show V[27]? = V[26]?.map _; rw [h2 _ (by omega), h2 _ (by omega), r4]; rfl
  · show V[29]? = V[28]?.map _; rw [h2 _ (by omega), h2 _ (by omega), r5]; rfl
  · show V[31]? = V[30]?.map _; rw [h2 _ (by omega), h2 _ (by omega), r6]; rfl
theorem x_hrel {K : xKx} (hK : x_KP K) : ∀ R s A H V sc, K R s A H V sc → ∀ x y, V[20]? = some x → V[22]? = some y → y ≤ x := by
  intro R s A H V sc h x y hx hy
  obtain ⟨f, h1, h2, h3, -⟩ := hK R s A H V sc h
  rw [h2 _ (by omega)] at hx hy
  cases hx
  cases hy
  exact h3.2.2
end
