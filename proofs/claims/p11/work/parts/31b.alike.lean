noncomputable section
/-! an instruction does alike in a state that knows more: more locals, more slots known -/
def e_sub (l l' : eL) : Prop := (l'.map Prod.fst).Nodup ∧ ∀ q ∈ l, q ∈ l'
/-- w' has what w knows -/
def e_rf (w w' : eW) : Prop := ∀ j k, e_okz (w j k) = true → w' j k = w j k
theorem e_rf.refl (w : eW) : e_rf w w := fun _ _ _ => rfl
theorem e_rf.trans {a b c : eW} (h : e_rf a b) (h' : e_rf b c) : e_rf a c := fun j k q => by
  have e := h j k q
  rw [← e]
  exact h' j k (by rw [e]; exact q)
theorem e_rf.up {w w' : eW} (h : e_rf w w') (j k z : Int) : e_rf (e_up w j k z) (e_up w' j k z) := fun j' k' q => by
  by_cases e : j' = j ∧ k' = k
  · rw [e.1, e.2, e_up_eq, e_up_eq]
  · have n : j' ≠ j ∨ k' ≠ k := by
      by_cases e1 : j' = j
      · exact Or.inr (fun e2 => e ⟨e1, e2⟩)
      · exact Or.inl e1
    rw [e_up_ne _ _ n] at q ⊢
    rw [e_up_ne _ _ n]
    exact h j' k' q
theorem e_find_mem {i : Nat} {x : eV} : ∀ {l : eL}, e_find l i = some x → (i, x) ∈ l
  | [], h => by cases h
  | q :: r, h => by
    rw [e_find_cons] at h
    cases hb : Nat.beq q.1 i with
    | true =>
      rw [hb] at h
      have e := Nat.eq_of_beq_eq_true hb
      cases h
      rw [← e]
      exact List.mem_cons_self
    | false =>
      rw [hb] at h
      exact List.mem_cons_of_mem _ (e_find_mem h)
theorem e_mem_find {i : Nat} {x : eV} : ∀ {l : eL}, (l.map Prod.fst).Nodup → (i, x) ∈ l → e_find l i = some x
  | [], _, h => by cases h
  | q :: r, hn, h => by
    rw [List.map_cons, List.nodup_cons] at hn
    rw [e_find_cons]
    rcases List.mem_cons.mp h with rfl | h
    · simp
    · have n : ¬ q.1 = i := fun e => hn.1 (by rw [e]; exact List.mem_map.mpr ⟨_, h, rfl⟩)
      rw [x_nb n]
      exact e_mem_find hn.2 h
theorem e_sub.find {l l' : eL} {i : Nat} {x : eV} (h : e_sub l l') (hf : e_find l i = some x) : e_find l' i = some x := e_mem_find h.1 (h.2 _ (e_find_mem hf))
theorem e_flt_key {ty i : Nat} {q : Nat × eV} (h : e_flt ty i q = true) : q.1 ≠ i := fun e => by
  unfold e_flt at h
  rw [e] at h
  cases hb : Nat.beq ty 1 <;> simp [hb] at h
theorem e_sub.stor {l l' : eL} (h : e_sub l l') (i ty : Nat) (x : eV) : e_sub ((i, x) :: l.filter (e_flt ty i)) ((i, x) :: l'.filter (e_flt ty i)) := by
  refine ⟨?_, fun q hq => ?_⟩
  · rw [List.map_cons, List.nodup_cons]
    refine ⟨fun hm => ?_, ?_⟩
    · obtain ⟨q, hq, e⟩ := List.mem_map.mp hm
      exact e_flt_key (List.mem_filter.mp hq).2 e
    · exact List.Sublist.nodup (List.Sublist.map _ List.filter_sublist) h.1
  · rcases List.mem_cons.mp hq with rfl | hq
    · exact List.mem_cons_self
    · obtain ⟨a, b⟩ := List.mem_filter.mp hq
      exact List.mem_cons_of_mem _ (List.mem_filter.mpr ⟨h.2 _ a, b⟩)
def e_NI0 (f : eS → Option eS) : Prop := ∀ (p : Nat) (l l' : eL) (st : List eV) (w w' : eW) (t : eS), f (p, l, st, w) = some t → e_sub l l' → e_rf w w' → ∃ l1 w1, f (p, l', st, w') = some (t.1, l1, t.2.2.1, w1) ∧ e_sub t.2.1 l1 ∧ e_rf t.2.2.2 w1 ∧ (w' = w → w1 = t.2.2.2)
/-- a place that no cell has -/
def e_out (lay : List eY) (c k : Int) : Prop := 0 ≤ c ∧ c ≠ 280 ∧ ∀ (kd cl n : Nat), lay[c.toNat]? = some (kd, cl, n) → k < 0 ∨ (n : Int) ≤ k
/-- it does alike, and writes into the cells alone -/
def e_NI (lay : List eY) (f : eS → Option eS) : Prop := e_NI0 f ∧ ∀ t t' : eS, f t = some t' → ∀ c k, e_out lay c k → t'.2.2.2 c k = t.2.2.2 c k
/-- one that looks at the stack alone -/
theorem e_NI0.stk {f : eS → Option eS} (g : List eV → Option (Nat × List eV)) (h : ∀ t : eS, f t = (g t.2.2.1).map (fun q => (q.1, t.2.1, q.2, t.2.2.2))) : e_NI0 f := fun p l l' st w w' t ht hs hw => by
  rw [h] at ht
  simp only [Option.map_eq_some_iff] at ht
  obtain ⟨q, hq, rfl⟩ := ht
  refine ⟨l', w', ?_, hs, hw, fun e => e⟩
  rw [h]
  simp only [hq, Option.map_some]
theorem e_NI.stk {lay : List eY} {f : eS → Option eS} (g : List eV → Option (Nat × List eV)) (h : ∀ t : eS, f t = (g t.2.2.1).map (fun q => (q.1, t.2.1, q.2, t.2.2.2))) : e_NI lay f := ⟨e_NI0.stk g h, fun t t' ht c k _ => by
  rw [h] at ht
  simp only [Option.map_eq_some_iff] at ht
  obtain ⟨q, hq, rfl⟩ := ht
  rfl⟩
theorem ni_push {lay : List eY} {x : eV} {nx : Nat} : e_NI lay (ei_push x nx) := e_NI.stk (fun st => some (nx, x :: st)) (fun _ => rfl)
theorem ni_goto {lay : List eY} {nx : Nat} : e_NI lay (ei_goto nx) := e_NI.stk (fun st => some (nx, st)) (fun _ => rfl)
theorem ni0_load {i ty nx : Nat} : e_NI0 (ei_load i ty nx) := fun p l l' st w w' t ht hs hw => by
  unfold ei_load at ht ⊢
  simp only at ht ⊢
  split at ht
  · rename_i x hx
    rw [hs.find hx]
    simp only
    cases hb : Nat.beq (e_ty x) ty with
    | false => rw [hb] at ht; cases ht
    | true =>
      rw [hb] at ht
      cases ht
      exact ⟨l', w', rfl, hs, hw, fun e => e⟩
  · cases ht
theorem ni0_stor {i ty nx : Nat} : e_NI0 (ei_stor i ty nx) := fun p l l' st w w' t ht hs hw => by
  unfold ei_stor at ht ⊢
  simp only at ht ⊢
  split at ht
  · rename_i x r
    cases hb : Nat.beq (e_ty x) ty with
    | false => rw [hb] at ht; cases ht
    | true =>
      rw [hb] at ht
      cases ht
      exact ⟨_, w', rfl, hs.stor i ty x, hw, fun e => e⟩
  · cases ht
theorem ni0_inc {i nx : Nat} {n : Int} : e_NI0 (ei_inc i n nx) := fun p l l' st w w' t ht hs hw => by
  unfold ei_inc at ht ⊢
  simp only at ht ⊢
  split at ht
  · rename_i x hx
    rw [hs.find hx]
    cases ht
    exact ⟨_, w', rfl, hs.stor i 0 _, hw, fun e => e⟩
  · cases ht
theorem ni_bin {lay : List eY} {F : Int → Int → Option Int} {nx : Nat} : e_NI lay (ei_bin F nx) := e_NI.stk (fun st => match st with
  | (0, y) :: (0, x) :: r => match F x y with
    | some z => some (nx, (0, z) :: r)
    | none => none
  | _ => none) (fun t => by
    unfold ei_bin
    split
    · split <;> simp [*]
    · rename_i h
      split
      · rename_i y x r e; exact (h _ _ _ e).elim
      · rfl)
theorem ni_binL {lay : List eY} {F : Int → Int → Option eV} {nx : Nat} : e_NI lay (ei_binL F nx) := e_NI.stk (fun st => match st with
  | (4, y) :: (4, x) :: r => match F x y with
    | some z => some (nx, z :: r)
    | none => none
  | _ => none) (fun t => by
    unfold ei_binL
    split
    · split <;> simp [*]
    · rename_i h
      split
      · rename_i y x r e; exact (h _ _ _ e).elim
      · rfl)
theorem ni_shL {lay : List eY} {F : Int → Int → Option Int} {nx : Nat} : e_NI lay (ei_shL F nx) := e_NI.stk (fun st => match st with
  | (0, y) :: (4, x) :: r => match F x y with
    | some z => some (nx, (4, z) :: r)
    | none => none
  | _ => none) (fun t => by
    unfold ei_shL
    split
    · split <;> simp [*]
    · rename_i h
      split
      · rename_i y x r e; exact (h _ _ _ e).elim
      · rfl)
theorem ni_un {lay : List eY} {F : Int → eV} {nx : Nat} : e_NI lay (ei_un F nx) := e_NI.stk (fun st => match st with
  | (0, x) :: r => some (nx, F x :: r)
  | _ => none) (fun t => by
    unfold ei_un
    split
    · simp [*]
    · rename_i h
      split
      · rename_i x r e; exact (h _ _ e).elim
      · rfl)
theorem ni_unL {lay : List eY} {F : Int → eV} {nx : Nat} : e_NI lay (ei_unL F nx) := e_NI.stk (fun st => match st with
  | (4, x) :: r => some (nx, F x :: r)
  | _ => none) (fun t => by
    unfold ei_unL
    split
    · simp [*]
    · rename_i h
      split
      · rename_i x r e; exact (h _ _ e).elim
      · rfl)
theorem ni_if2 {lay : List eY} {k tg nx : Nat} : e_NI lay (ei_if2 k tg nx) := e_NI.stk (fun st => match st with
  | (0, y) :: (0, x) :: r => some (bif e_cnd k x y then tg else nx, r)
  | _ => none) (fun t => by
    unfold ei_if2
    split
    · simp [*]
    · rename_i h
      split
      · rename_i y x r e; exact (h _ _ _ e).elim
      · rfl)
theorem ni_if1 {lay : List eY} {k tg nx : Nat} : e_NI lay (ei_if1 k tg nx) := e_NI.stk (fun st => match st with
  | (0, x) :: r => some (bif e_cnd k x 0 then tg else nx, r)
  | _ => none) (fun t => by
    unfold ei_if1
    split
    · simp [*]
    · rename_i h
      split
      · rename_i x r e; exact (h _ _ e).elim
      · rfl)
theorem ni_sw {lay : List eY} {l : List (Int × Int × Nat)} : e_NI lay (ei_sw l) := e_NI.stk (fun st => match st with
  | (0, x) :: r => match e_arm x l with
    | some tg => some (tg, r)
    | none => none
  | _ => none) (fun t => by
    unfold ei_sw
    split
    · split <;> simp [*]
    · rename_i h
      split
      · rename_i x r e; exact (h _ _ e).elim
      · rfl)
theorem ni_stk {lay : List eY} {g : List eV → Option (List eV)} {nx : Nat} : e_NI lay (ei_stk g nx) := e_NI.stk (fun st => match g st with
  | some s => some (nx, s)
  | none => none) (fun t => by
    unfold ei_stk
    split <;> simp [*])
theorem ni_alen {lay : List eY} {nx : Nat} : e_NI lay (ei_alen lay nx) := e_NI.stk (fun st => match st with
  | (1, j) :: r => match lay[j.toNat]? with
    | some (kd, _, n) => bif Nat.beq kd 0 then none else some (nx, (0, (n : Int)) :: r)
    | _ => none
  | _ => none) (fun t => by
    unfold ei_alen
    split
    · split
      · rename_i kd _ n _
        cases hb : Nat.beq kd 0 <;> simp [*]
      · simp [*]
    · rename_i h
      split
      · rename_i x r e; exact (h _ _ e).elim
      · rfl)
theorem ni0_getf {ft : Nat → Nat → Nat} {lay : List eY} {ci k nx : Nat} : e_NI0 (ei_getf ft lay ci k nx) := fun p l l' st w w' t ht hs hw => by
  unfold ei_getf at ht ⊢
  simp only at ht ⊢
  split at ht
  · rename_i j r
    split at ht
    · rename_i c' n hy
      cases hb : (Nat.beq c' ci && (Nat.ble (k + 1) n && e_okz (w j k))) with
      | false => rw [hb] at ht; cases ht
      | true =>
        rw [hb] at ht
        cases ht
        simp only [Bool.and_eq_true] at hb
        have e := hw j k hb.2.2
        rw [e, hb.1, hb.2.1, hb.2.2]
        exact ⟨l', w', rfl, hs, hw, fun e => e⟩
    · cases ht
  · cases ht
theorem ni0_putf {ft : Nat → Nat → Nat} {lay : List eY} {ci k fk nx : Nat} : e_NI0 (ei_putf ft lay ci k fk nx) := fun p l l' st w w' t ht hs hw => by
  unfold ei_putf at ht ⊢
  simp only at ht ⊢
  split at ht
  · rename_i x j r
    split at ht
    · rename_i c' n z hy hz
      cases hb : (Nat.beq c' ci && (Nat.ble (k + 1) n && e_pk fk x)) with
      | false => rw [hb] at ht; cases ht
      | true =>
        rw [hb] at ht
        cases ht
        exact ⟨l', _, rfl, hs, hw.up j k z, fun e => by rw [e]⟩
    · cases ht
  · cases ht
theorem ni0_ald {lay : List eY} {b : Bool} {nx : Nat} : e_NI0 (ei_ald lay b nx) := fun p l l' st w w' t ht hs hw => by
  unfold ei_ald at ht ⊢
  simp only at ht ⊢
  split at ht
  · rename_i i j r
    split at ht
    · rename_i kd c' n hy
      cases hb : (x_akd b kd && (decide (0 ≤ i) && (decide (i < n) && e_okz (w j i)))) with
      | false => rw [hb] at ht; cases ht
      | true =>
        rw [hb] at ht
        cases ht
        simp only [Bool.and_eq_true] at hb
        have e := hw j i hb.2.2.2
        rw [e, hb.1, hb.2.1, hb.2.2.1, hb.2.2.2]
        exact ⟨l', w', rfl, hs, hw, fun e => e⟩
    · cases ht
  · cases ht
theorem ni0_aald {lay : List eY} {nx : Nat} : e_NI0 (ei_aald lay nx) := fun p l l' st w w' t ht hs hw => by
  unfold ei_aald at ht ⊢
  simp only at ht ⊢
  split at ht
  · rename_i i j r
    split at ht
    · rename_i kd c' n hy
      cases hb : ((Nat.beq kd 5 || Nat.beq kd 6) && (decide (0 ≤ i) && (decide (i < n) && e_okz (w j i)))) with
      | false => rw [hb] at ht; cases ht
      | true =>
        rw [hb] at ht
        cases ht
        simp only [Bool.and_eq_true] at hb
        have e := hw j i hb.2.2.2
        rw [e, hb.1, hb.2.1, hb.2.2.1, hb.2.2.2]
        exact ⟨l', w', rfl, hs, hw, fun e => e⟩
    · cases ht
  · cases ht
theorem ni0_ast {lay : List eY} {b : Bool} {nx : Nat} : e_NI0 (ei_ast lay b nx) := fun p l l' st w w' t ht hs hw => by
  unfold ei_ast at ht ⊢
  simp only at ht ⊢
  split at ht
  · rename_i x i j r
    split at ht
    · rename_i kd c' n hy
      split at ht
      · rename_i z hz
        cases hb : (x_akd b kd && (decide (0 ≤ i) && decide (i < n))) with
        | false => rw [hb] at ht; cases ht
        | true =>
          rw [hb] at ht
          cases ht
          exact ⟨l', _, rfl, hs, hw.up j i z, fun e => by rw [e]⟩
      · cases ht
    · cases ht
  · cases ht
theorem ni_load {lay : List eY} {i ty nx : Nat} : e_NI lay (ei_load i ty nx) := ⟨ni0_load, fun t t' ht c k ho => by
  obtain ⟨p, l, st, w⟩ := t
  unfold ei_load at ht
  simp only at ht
  split at ht
  · rename_i x hx
    cases hb : Nat.beq (e_ty x) ty with
    | false => rw [hb] at ht; cases ht
    | true => rw [hb] at ht; cases ht; rfl
  · cases ht⟩
theorem ni_stor {lay : List eY} {i ty nx : Nat} : e_NI lay (ei_stor i ty nx) := ⟨ni0_stor, fun t t' ht c k ho => by
  obtain ⟨p, l, st, w⟩ := t
  unfold ei_stor at ht
  simp only at ht
  split at ht
  · rename_i x r
    cases hb : Nat.beq (e_ty x) ty with
    | false => rw [hb] at ht; cases ht
    | true => rw [hb] at ht; cases ht; rfl
  · cases ht⟩
theorem ni_inc {lay : List eY} {i nx : Nat} {n : Int} : e_NI lay (ei_inc i n nx) := ⟨ni0_inc, fun t t' ht c k ho => by
  obtain ⟨p, l, st, w⟩ := t
  unfold ei_inc at ht
  simp only at ht
  split at ht
  · rename_i x hx
    cases ht
    rfl
  · cases ht⟩
theorem ni_getf {lay : List eY} {ft : Nat → Nat → Nat} {ci k0 nx : Nat} : e_NI lay (ei_getf ft lay ci k0 nx) := ⟨ni0_getf, fun t t' ht c k ho => by
  obtain ⟨p, l, st, w⟩ := t
  unfold ei_getf at ht
  simp only at ht
  split at ht
  · rename_i j r
    split at ht
    · rename_i c' n hy
      cases hb : (Nat.beq c' ci && (Nat.ble (k0 + 1) n && e_okz (w j k0))) with
      | false => rw [hb] at ht; cases ht
      | true => rw [hb] at ht; cases ht; rfl
    · cases ht
  · cases ht⟩
theorem ni_putf {lay : List eY} {ft : Nat → Nat → Nat} {ci k0 fk nx : Nat} : e_NI lay (ei_putf ft lay ci k0 fk nx) := ⟨ni0_putf, fun t t' ht c k ho => by
  obtain ⟨p, l, st, w⟩ := t
  unfold ei_putf at ht
  simp only at ht
  split at ht
  · rename_i x j r
    split at ht
    · rename_i c' n z hy hz
      cases hb : (Nat.beq c' ci && (Nat.ble (k0 + 1) n && e_pk fk x)) with
      | false => rw [hb] at ht; cases ht
      | true =>
        rw [hb] at ht
        cases ht
        simp only [Bool.and_eq_true] at hb
        have h2 := Nat.ble_eq.mp hb.2.1
        show e_up w j k0 z c k = w c k
        refine e_up_ne _ _ ?_
        by_cases e : c = j
        · subst e
          have := ho.2.2 _ _ _ hy
          exact Or.inr (by omega)
        · exact Or.inl e
    · cases ht
  · cases ht⟩
theorem ni_ald {lay : List eY} {b : Bool} {nx : Nat} : e_NI lay (ei_ald lay b nx) := ⟨ni0_ald, fun t t' ht c k ho => by
  obtain ⟨p, l, st, w⟩ := t
  unfold ei_ald at ht
  simp only at ht
  split at ht
  · rename_i i j r
    split at ht
    · rename_i kd c' n hy
      cases hb : (x_akd b kd && (decide (0 ≤ i) && (decide (i < n) && e_okz (w j i)))) with
      | false => rw [hb] at ht; cases ht
      | true => rw [hb] at ht; cases ht; rfl
    · cases ht
  · cases ht⟩
theorem ni_aald {lay : List eY} {nx : Nat} : e_NI lay (ei_aald lay nx) := ⟨ni0_aald, fun t t' ht c k ho => by
  obtain ⟨p, l, st, w⟩ := t
  unfold ei_aald at ht
  simp only at ht
  split at ht
  · rename_i i j r
    split at ht
    · rename_i kd c' n hy
      cases hb : ((Nat.beq kd 5 || Nat.beq kd 6) && (decide (0 ≤ i) && (decide (i < n) && e_okz (w j i)))) with
      | false => rw [hb] at ht; cases ht
      | true => rw [hb] at ht; cases ht; rfl
    · cases ht
  · cases ht⟩
theorem ni_ast {lay : List eY} {b : Bool} {nx : Nat} : e_NI lay (ei_ast lay b nx) := ⟨ni0_ast, fun t t' ht c k ho => by
  obtain ⟨p, l, st, w⟩ := t
  unfold ei_ast at ht
  simp only at ht
  split at ht
  · rename_i x i j r
    split at ht
    · rename_i kd c' n hy
      split at ht
      · rename_i z hz
        cases hb : (x_akd b kd && (decide (0 ≤ i) && decide (i < n))) with
        | false => rw [hb] at ht; cases ht
        | true =>
          rw [hb] at ht
          cases ht
          simp only [Bool.and_eq_true, decide_eq_true_eq] at hb
          show e_up w j i z c k = w c k
          refine e_up_ne _ _ ?_
          by_cases e : c = j
          · subst e
            have := ho.2.2 _ _ _ hy
            exact Or.inr (by omega)
          · exact Or.inl e
      · cases ht
    · cases ht
  · cases ht⟩
end
