noncomputable section
/-! from a picture to exact contents -/
/-- what a picture's value says of a number -/
def e_of (x : xV) (z : Int) : Prop := match x.1 with
  | 0 => x.2.1 ≤ z ∧ z ≤ x.2.2
  | 1 => z = x.2.1
  | 2 => z = -1
  | _ => False
/-- a picture's value fits a slot of kind fk -/
def e_fit (fk : Nat) (x : xV) : Bool := match fk with
  | 0 => Nat.beq x.1 0
  | _ => Nat.beq x.1 2 || (Nat.beq x.1 1 && decide (0 ≤ x.2.1))
theorem e_fit_ok {ad : List Nat} {V : List Int} {sc : Nat × Nat × List Nat} {fk : Nat} {x : xV} {v : Value} (h : e_fit fk x = true) (hr : x_rel ad V sc x v) : ∃ z, e_slot ad fk z v ∧ e_of x z := by
  obtain ⟨t, a, b⟩ := x
  unfold e_fit at h
  unfold e_slot
  split at h
  · have e := Nat.eq_of_beq_eq_true h
    simp only at e
    subst e
    obtain ⟨n, rfl, h1, h2⟩ := hr
    exact ⟨n.toInt, ⟨n, rfl, rfl⟩, h1, h2⟩
  · rename_i n0
    simp only [Bool.or_eq_true, Bool.and_eq_true, decide_eq_true_eq] at h
    rcases h with h | ⟨h, h0⟩
    · have e := Nat.eq_of_beq_eq_true h
      subst e
      refine ⟨-1, ?_, rfl⟩
      split
      · exact (n0 rfl).elim
      · exact Or.inl ⟨rfl, hr⟩
    · have e := Nat.eq_of_beq_eq_true h
      subst e
      obtain ⟨a', h1, h2⟩ := hr
      refine ⟨a, ?_, rfl⟩
      split
      · exact (n0 rfl).elim
      · exact Or.inr ⟨h0, a', h1, h2⟩
/-- a cell's picture fits -/
def e_fitC (ft : Nat → Nat → Nat) (c : xC) : Bool := match c.1 with
  | 0 => (List.range c.2.2.1).all (fun k => e_fit (ft c.2.1 k) (x_get c.2.2.2.1 c.2.2.2.2 k))
  | 1 => Nat.beq c.2.2.2.1.1 0 && c.2.2.2.2.all (fun q => Nat.beq q.2.1 0)
  | 2 => Nat.beq c.2.2.2.1.1 0 && c.2.2.2.2.all (fun q => Nat.beq q.2.1 0)
  | 3 => Nat.beq c.2.2.2.1.1 0 && c.2.2.2.2.all (fun q => Nat.beq q.2.1 0)
  | _ => e_fit 1 c.2.2.2.1 && c.2.2.2.2.all (fun q => e_fit 1 q.2)
theorem e_get_all {P : xV → Prop} {d : xV} (hd : P d) : ∀ {o : xA}, (∀ q ∈ o, P q.2) → ∀ k, P (x_get d o k)
  | [], _, k => hd
  | q :: r, h, k => by
    rw [x_get_cons]
    cases Nat.beq q.1 k with
    | true => exact h q List.mem_cons_self
    | false => exact e_get_all hd (fun p hp => h p (List.mem_cons_of_mem _ hp)) k
theorem e_of_rel {ad : List Nat} {V : List Int} {sc : Nat × Nat × List Nat} {x : xV} {n : Int32} (h : Nat.beq x.1 0 = true) (hr : x_rel ad V sc x (.int n)) : e_of x n.toInt := by
  obtain ⟨t, a, b⟩ := x
  have e := Nat.eq_of_beq_eq_true h
  simp only at e
  subst e
  obtain ⟨m, hm, h1, h2⟩ := hr
  cases hm
  exact ⟨h1, h2⟩
theorem e_cell_of {ft : Nat → Nat → Nat} {cl : List vw_C} {ad : List Nat} {V : List Int} {sc : Nat × Nat × List Nat} {tys : List (ClassId × FieldType)} {c : xC} {e : va_E} (hf : e_fitC ft c = true) (h : x_cell cl ad V sc tys c e) : ∃ g : Int → Int, e_cell ft cl ad tys (c.1, c.2.1, c.2.2.1) g e ∧ ∀ k : Nat, k < c.2.2.1 → e_of (x_get c.2.2.2.1 c.2.2.2.2 k) (g k) := by
  obtain ⟨kd, ci, n, d, o⟩ := c
  unfold e_fitC at hf
  unfold x_cell at h
  unfold e_cell
  split at h
  · rename_i h0
    simp only at h0
    subst h0
    simp only at hf h ⊢
    obtain ⟨fs, g1, g2, g3⟩ := h
    have key : ∀ k, ∃ z, k < n → ∃ v, fs[k]? = some v ∧ e_slot ad (ft ci k) z v ∧ e_of (x_get d o k) z := fun k => by
      by_cases hk : k < n
      · obtain ⟨v, v1, v2⟩ := g3 k hk
        obtain ⟨z, z1, z2⟩ := e_fit_ok (List.all_eq_true.mp hf k (List.mem_range.mpr hk)) v2
        exact ⟨z, fun _ => ⟨v, v1, z1, z2⟩⟩
      · exact ⟨0, fun h => absurd h hk⟩
    refine ⟨fun k => (key k.toNat).choose, ⟨fs, g1, g2, fun k hk => ?_⟩, fun k hk => ?_⟩
    · obtain ⟨v, v1, v2, v3⟩ := (key k).choose_spec hk
      exact ⟨v, v1, v2⟩
    · obtain ⟨v, v1, v2, v3⟩ := (key k).choose_spec hk
      exact v3
  · rename_i h0
    simp only at h0
    subst h0
    simp only [Bool.and_eq_true] at hf
    obtain ⟨t0, cA, f, g1, g2, g3, g4⟩ := h
    have hz := fun k => e_get_all (P := fun x => Nat.beq x.1 0 = true) hf.1 (fun q hq => List.all_eq_true.mp hf.2 q hq) k
    exact ⟨fun k => (f k.toNat).toInt, ⟨t0, cA, f, g1, g2, g3, fun k hk => rfl⟩, fun k hk => e_of_rel (hz k) (g4 k hk)⟩
  · rename_i h0
    simp only at h0
    subst h0
    simp only [Bool.and_eq_true] at hf
    obtain ⟨t0, cA, f, g1, g2, g3, g4⟩ := h
    have hz := fun k => e_get_all (P := fun x => Nat.beq x.1 0 = true) hf.1 (fun q hq => List.all_eq_true.mp hf.2 q hq) k
    exact ⟨fun k => (f k.toNat).toInt, ⟨t0, cA, f, g1, g2, g3, fun k hk => rfl⟩, fun k hk => e_of_rel (hz k) (g4 k hk)⟩
  · rename_i h0
    simp only at h0
    subst h0
    simp only [Bool.and_eq_true] at hf
    obtain ⟨t0, cA, f, g1, g2, g3, g4⟩ := h
    have hz := fun k => e_get_all (P := fun x => Nat.beq x.1 0 = true) hf.1 (fun q hq => List.all_eq_true.mp hf.2 q hq) k
    exact ⟨fun k => (f k.toNat).toInt, ⟨t0, cA, f, g1, g2, g3, fun k hk => rfl⟩, fun k hk => e_of_rel (hz k) (g4 k hk)⟩
  · rename_i h0
    simp only at h0
    subst h0
    simp only [Bool.and_eq_true] at hf
    obtain ⟨t0, cA, r, f, g0, g1, g2, g3, g4⟩ := h
    have hz := fun k => e_get_all (P := fun x => e_fit 1 x = true) hf.1 (fun q hq => List.all_eq_true.mp hf.2 q hq) k
    have key : ∀ k, ∃ z, k < n → e_slot ad 1 z (va_rf (f k)) ∧ e_of (x_get d o k) z := fun k => by
      by_cases hk : k < n
      · obtain ⟨z, z1, z2⟩ := e_fit_ok (hz k) (g4 k hk)
        exact ⟨z, fun _ => ⟨z1, z2⟩⟩
      · exact ⟨0, fun h => absurd h hk⟩
    exact ⟨fun k => (key k.toNat).choose, ⟨t0, cA, r, f, g0, g1, g2, g3, fun k hk => ((key k).choose_spec hk).1⟩, fun k hk => ((key k).choose_spec hk).2⟩
  · rename_i h0
    simp only at h0
    subst h0
    simp only [Bool.and_eq_true] at hf
    obtain ⟨t0, cA, f, g1, g2, g3, g4⟩ := h
    have hz := fun k => e_get_all (P := fun x => e_fit 1 x = true) hf.1 (fun q hq => List.all_eq_true.mp hf.2 q hq) k
    have key : ∀ k, ∃ z, k < n → e_slot ad 1 z (va_rf (f k)) ∧ e_of (x_get d o k) z := fun k => by
      by_cases hk : k < n
      · obtain ⟨z, z1, z2⟩ := e_fit_ok (hz k) (g4 k hk)
        exact ⟨z, fun _ => ⟨z1, z2⟩⟩
      · exact ⟨0, fun h => absurd h hk⟩
    exact ⟨fun k => (key k.toNat).choose, ⟨t0, cA, f, g1, g2, g3, fun k hk => ((key k).choose_spec hk).1⟩, fun k hk => ((key k).choose_spec hk).2⟩
  · exact h.elim
theorem e_slot_more {ad xs : List Nat} {fk : Nat} {z : Int} {v : Value} (h : e_slot ad fk z v) : e_slot (ad ++ xs) fk z v := by
  unfold e_slot at h ⊢
  split at h
  · exact h
  · rcases h with h | ⟨h0, a, h1, h2⟩
    · exact Or.inl h
    · exact Or.inr ⟨h0, a, by rw [List.getElem?_append_left (List.getElem?_eq_some_iff.mp h1).1]; exact h1, h2⟩
theorem e_cell_more {ft : Nat → Nat → Nat} {cl : List vw_C} {ad xs : List Nat} {tys : List (ClassId × FieldType)} {y : eY} {g : Int → Int} {e : va_E} (h : e_cell ft cl ad tys y g e) : e_cell ft cl (ad ++ xs) tys y g e := by
  obtain ⟨kd, ci, n⟩ := y
  unfold e_cell at h ⊢
  split at h
  · rename_i h0
    simp only at h0
    subst h0
    obtain ⟨fs, g1, g2, g3⟩ := h
    exact ⟨fs, g1, g2, fun k hk => by obtain ⟨v, v1, v2⟩ := g3 k hk; exact ⟨v, v1, e_slot_more v2⟩⟩
  · rename_i h0
    simp only at h0
    subst h0
    exact h
  · rename_i h0
    simp only at h0
    subst h0
    exact h
  · rename_i h0
    simp only at h0
    subst h0
    exact h
  · rename_i h0
    simp only at h0
    subst h0
    obtain ⟨t0, cA, r, f, g0, g1, g2, g3, g4⟩ := h
    exact ⟨t0, cA, r, f, g0, g1, g2, g3, fun k hk => e_slot_more (g4 k hk)⟩
  · rename_i h0
    simp only at h0
    subst h0
    obtain ⟨t0, cA, f, g1, g2, g3, g4⟩ := h
    exact ⟨t0, cA, f, g1, g2, g3, fun k hk => e_slot_more (g4 k hk)⟩
  · exact h.elim
/-- all cells at once -/
theorem e_world_of {ft : Nat → Nat → Nat} {cl : List vw_C} {V : List Int} {sc : Nat × Nat × List Nat} {tys : List (ClassId × FieldType)} {wx : List xC} {ws : va_W} (xs : List Nat) (hf : wx.all (e_fitC ft) = true) (h : x_world cl V sc tys wx ws) : ∃ w : eW, e_world ft cl (wx.map (fun c => (c.1, c.2.1, c.2.2.1))) (ws.map Prod.fst ++ xs) tys w ws ∧ ∀ (j : Nat) (c : xC), wx[j]? = some c → ∀ k : Nat, k < c.2.2.1 → e_of (x_get c.2.2.2.1 c.2.2.2.2 k) (w j k) := by
  have key : ∀ j : Nat, ∃ g : Int → Int, ∀ (c : xC) (q : Nat × va_E), wx[j]? = some c → ws[j]? = some q → e_cell ft cl (ws.map Prod.fst) tys (c.1, c.2.1, c.2.2.1) g q.2 ∧ ∀ k : Nat, k < c.2.2.1 → e_of (x_get c.2.2.2.1 c.2.2.2.2 k) (g k) := fun j => by
    cases hc : wx[j]? with
    | none => exact ⟨fun _ => 0, fun c q h => by cases h⟩
    | some c =>
      cases hq : ws[j]? with
      | none => exact ⟨fun _ => 0, fun c q h h' => by cases h'⟩
      | some q =>
        obtain ⟨g, g1, g2⟩ := e_cell_of (List.all_eq_true.mp hf c (List.mem_of_getElem? hc)) (h.2.2 j c q hc hq)
        exact ⟨g, fun c' q' h1 h2 => by cases h1; cases h2; exact ⟨g1, g2⟩⟩
  refine ⟨fun j => (key j.toNat).choose, ⟨by rw [List.take_left' (by rw [List.length_map])], by rw [List.length_map]; exact h.1, fun j y q hy hq => ?_⟩, fun j c hc k hk => ?_⟩
  · rw [List.getElem?_map, Option.map_eq_some_iff] at hy
    obtain ⟨c, hc, rfl⟩ := hy
    exact e_cell_more ((key j).choose_spec c q hc hq).1
  · have hlt : j < ws.length := by rw [← h.1]; exact (List.getElem?_eq_some_iff.mp hc).1
    exact ((key j).choose_spec c ws[j] hc (List.getElem?_eq_getElem hlt)).2 k hk
end
