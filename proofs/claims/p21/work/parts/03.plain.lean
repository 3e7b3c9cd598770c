noncomputable section
/-! plain instructions: what the interpreter does, and that the machine does so -/
theorem x_all2_filter {α β : Type} {R : α → β → Prop} {f : α → Bool} {g : β → Bool} : ∀ {as : List α} {bs : List β}, x_all2 R as bs → (∀ a b, R a b → f a = g b) → x_all2 R (as.filter f) (bs.filter g)
  | [], [], _, _ => trivial
  | a :: as, b :: bs, h, hf => by
    have e := hf a b h.1
    have ih := x_all2_filter h.2 hf
    simp only [List.filter_cons, e]
    split
    · exact ⟨h.1, ih⟩
    · exact ih
  | [], _ :: _, h, _ => h.elim
  | _ :: _, [], h, _ => h.elim
theorem x_all2_imp {α β : Type} {R R' : α → β → Prop} (hi : ∀ a b, R a b → R' a b) : ∀ {as : List α} {bs : List β}, x_all2 R as bs → x_all2 R' as bs
  | [], [], _ => trivial
  | _ :: _, _ :: _, h => ⟨hi _ _ h.1, x_all2_imp hi h.2⟩
  | [], _ :: _, h => h.elim
  | _ :: _, [], h => h.elim
theorem x_all2_app {α β : Type} {R : α → β → Prop} : ∀ {as as' : List α} {bs bs' : List β}, x_all2 R as bs → x_all2 R as' bs' → x_all2 R (as ++ as') (bs ++ bs')
  | [], _, [], _, _, h => h
  | _ :: _, _, _ :: _, _, h, h' => ⟨h.1, x_all2_app h.2 h'⟩
  | [], _, _ :: _, _, h, _ => h.elim
  | _ :: _, _, [], _, h, _ => h.elim
theorem x_all2_len {α β : Type} {R : α → β → Prop} : ∀ {as : List α} {bs : List β}, x_all2 R as bs → as.length = bs.length
  | [], [], _ => rfl
  | _ :: _, _ :: _, h => congrArg (· + 1) (x_all2_len h.2)
  | [], _ :: _, h => h.elim
  | _ :: _, [], h => h.elim
theorem x_all2_rev {α β : Type} {R : α → β → Prop} : ∀ {as : List α} {bs : List β}, x_all2 R as bs → x_all2 R as.reverse bs.reverse
  | [], [], _ => trivial
  | _ :: _, _ :: _, h => by
    rw [List.reverse_cons, List.reverse_cons]
    exact x_all2_app (x_all2_rev h.2) ⟨h.1, trivial⟩
  | [], _ :: _, h => h.elim
  | _ :: _, [], h => h.elim
def x_Cx (cc : ByteArray) (own : String) (nL : Nat) (nm : String) (MC MS : Nat) (p : Program) (R : Room) (s : State) (m : MethodId) (args : Array Value) (meth : Method) (c : Code) : Prop :=
  CallFix p m c cc nL s args x_tbl own ∧ meth.name = nm ∧ R.cells = MC ∧ R.slots = MS ∧ 1 ≤ R.frames ∧ 32 ≤ R.locals ∧ x_Ex s
abbrev xKx : Type := Room → State → (Nat → Prop) → Heap → List Int → Nat × Nat × List Nat → Prop
/-- one instruction, as the interpreter does it, may be trusted -/
def x_Snd (cl : List vw_C) (K : xKx) (cc : ByteArray) (own : String) (nL : Nat) (nm : String) (MC MS : Nat) (pc : Nat) (f : xS → Option (List xS)) : Prop :=
  ∀ {V : List Int} {sc : Nat × Nat × List Nat} {p : Program} {l : Launch} {e : Env} {R : Room} {s : State} {m : MethodId} {args : Array Value} {below : List Frame} {meth : Method} {c : Code} {D : va_G} {A : Nat → Prop} {H0 : Heap} {Q : State → Prop},
    x_Cx cc own nL nm MC MS p R s m args meth c → (∀ q : Nat, H0.size ≤ q → A q) → K R s A H0 V sc → ∀ (t : xS) (ts : List xS), t.1 = pc → f t = some ts →
    (∀ t' ∈ ts, x_Good cl V sc nL p l e R s m args below meth c D A H0 Q t') → x_Good cl V sc nL p l e R s m args below meth c D A H0 Q t
/-- the kinds of values: 0 an int, 1 a long, 2 a reference or null -/
def x_kd (ty : Nat) (v : Value) : Prop := match ty with
  | 0 => ∃ n, v = .int n
  | 1 => ∃ n, v = .long n
  | _ => v = .null ∨ ∃ a, v = .ref a
def x_ty (x : xV) : Nat := match x.1 with
  | 0 => 0
  | 3 => 0
  | 4 => 1
  | 6 => 1
  | _ => 2
theorem x_ty_ok {ad : List Nat} {V : List Int} {sc : Nat × Nat × List Nat} {x : xV} {v : Value} (h : x_rel ad V sc x v) : x_kd (x_ty x) v := by
  obtain ⟨t, a, b⟩ := x
  unfold x_rel at h
  unfold x_ty
  split at h
  · rename_i h0; simp only at h0; subst h0; exact ⟨_, h.choose_spec.1⟩
  · rename_i h0; simp only at h0; subst h0; exact Or.inr ⟨_, h.choose_spec.2⟩
  · rename_i h0; simp only at h0; subst h0; exact Or.inl h
  · rename_i h0; simp only at h0; subst h0; exact ⟨_, h.choose_spec.1⟩
  · rename_i h0; simp only at h0; subst h0; exact ⟨_, h.choose_spec.1⟩
  · rename_i h0; simp only at h0; subst h0; exact ⟨_, h.choose_spec.1⟩
  · rename_i h0; simp only at h0; subst h0; exact Or.inr ⟨_, h.1⟩
  · exact h.elim
theorem x_kd_cat {ty : Nat} {v : Value} (h : x_kd ty v) : v.category = if ty = 1 then 2 else 1 := by
  unfold x_kd at h
  split at h
  · obtain ⟨n, rfl⟩ := h; rfl
  · obtain ⟨n, rfl⟩ := h; rfl
  · rename_i h0 h1
    rw [if_neg h1]
    rcases h with rfl | ⟨a, rfl⟩ <;> rfl
def x_find (l : xL) (i : Nat) : Option xV := List.rec (motive := fun _ => Option xV) none (fun q _ ih => Bool.rec (motive := fun _ => Option xV) ih (some q.2) (Nat.beq q.1 i)) l
theorem x_find_cons (q : Nat × xV) (r : xL) (i : Nat) : x_find (q :: r) i = bif Nat.beq q.1 i then some q.2 else x_find r i := by
  unfold x_find
  cases h : Nat.beq q.1 i with
  | true => simp [h]
  | false => simp [h]
theorem x_find_ok {ad : List Nat} {V : List Int} {sc : Nat × Nat × List Nat} {i : Nat} {x : xV} : ∀ {al : xL} {lv : List (Nat × Value)}, x_all2 (fun a q => a.1 = q.1 ∧ x_rel ad V sc a.2 q.2) al lv → x_find al i = some x → ∃ (k : Nat) (v : Value), lv[k]? = some (i, v) ∧ x_rel ad V sc x v
  | [], [], _, h => by cases h
  | a :: al, q :: lv, h, hf => by
    rw [x_find_cons] at hf
    cases hb : Nat.beq a.1 i with
    | true =>
      rw [hb] at hf
      have e : a.1 = i := Nat.eq_of_beq_eq_true hb
      cases hf
      exact ⟨0, q.2, by simp [← e, h.1.1], h.1.2⟩
    | false =>
      rw [hb] at hf
      obtain ⟨k, v, h1, h2⟩ := x_find_ok h.2 hf
      exact ⟨k + 1, v, by simpa using h1, h2⟩
  | [], _ :: _, h, _ => h.elim
  | _ :: _, [], h, _ => h.elim
def x_flt (ty i : Nat) (q : Nat × xV) : Bool := bif Nat.beq ty 1 then !(Nat.beq q.1 i) && (!(Nat.beq q.1 (i + 1)) && !(Nat.beq (q.1 + 1) i && Nat.beq (x_ty q.2) 1)) else !(Nat.beq q.1 i) && !(Nat.beq (q.1 + 1) i && Nat.beq (x_ty q.2) 1)
def x_fltV (ty i : Nat) (q : Nat × Value) : Bool := bif Nat.beq ty 1 then !(q.1 == i) && (!(q.1 == i + 1) && !(q.1 + 1 == i && q.2.category == 2)) else !(q.1 == i) && !(q.1 + 1 == i && q.2.category == 2)
theorem x_bb (a b : Nat) : (a == b) = Nat.beq a b := by
  by_cases h : a = b
  · subst h; rw [Nat.beq_refl]; simp
  · rw [x_nb h]; simpa using h
theorem x_flt_eq {ad : List Nat} {V : List Int} {sc : Nat × Nat × List Nat} {ty i : Nat} (a : Nat × xV) (q : Nat × Value) (h : a.1 = q.1 ∧ x_rel ad V sc a.2 q.2) : x_flt ty i a = x_fltV ty i q := by
  have e : Nat.beq (x_ty a.2) 1 = (q.2.category == 2) := by
    rw [x_kd_cat (x_ty_ok h.2)]
    by_cases h1 : x_ty a.2 = 1
    · rw [h1]; rfl
    · rw [if_neg h1, x_nb h1]; rfl
  unfold x_flt x_fltV
  rw [h.1, e]
  simp only [x_bb]
-- what a row of the kit gives for one instruction
section XW
variable (cc : ByteArray) (own : String) (nL pc nx : Nat)
def x_Psh (v : Value) : Prop := ∀ {p : Program} {l : Launch} {e : Env} {R : Room} {s : State} {m : MethodId} {args : Array Value} {below : List Frame} {meth : Method} {c : Code}, CallFix p m c cc nL s args x_tbl own → ∀ {H : Heap} {locs : List Loc} {cells slots : Nat} {Q : State → Prop} {ls : Array Slot} {rest : List Value},
  W p l e R s m args below meth c H locs cells slots Q (F0 m nx ls (v :: rest)) → W p l e R s m args below meth c H locs cells slots Q (F0 m pc ls rest)
/-- the top of the stack changes from i to o -/
def x_Stk (i o : List Value) : Prop := ∀ {p : Program} {l : Launch} {e : Env} {R : Room} {s : State} {m : MethodId} {args : Array Value} {below : List Frame} {meth : Method} {c : Code}, CallFix p m c cc nL s args x_tbl own → ∀ {H : Heap} {locs : List Loc} {cells slots : Nat} {Q : State → Prop} {ls : Array Slot} {rest : List Value},
  W p l e R s m args below meth c H locs cells slots Q (F0 m nx ls (o ++ rest)) → W p l e R s m args below meth c H locs cells slots Q (F0 m pc ls (i ++ rest))
def x_Ld (i ty : Nat) : Prop := ∀ {p : Program} {l : Launch} {e : Env} {R : Room} {s : State} {m : MethodId} {args : Array Value} {below : List Frame} {meth : Method} {c : Code}, CallFix p m c cc nL s args x_tbl own → ∀ {H : Heap} {locs : List Loc} {cells slots : Nat} {Q : State → Prop} {ls : Array Slot} {rest : List Value} {v : Value}, ls[i]? = some (.val v) → x_kd ty v →
  W p l e R s m args below meth c H locs cells slots Q (F0 m nx ls (v :: rest)) → W p l e R s m args below meth c H locs cells slots Q (F0 m pc ls rest)
def x_Sto (i ty : Nat) : Prop := ∀ {p : Program} {l : Launch} {e : Env} {R : Room} {s : State} {m : MethodId} {args : Array Value} {below : List Frame} {meth : Method} {c : Code}, CallFix p m c cc nL s args x_tbl own → ∀ {H : Heap} {locs : List Loc} {cells slots : Nat} {Q : State → Prop} {ls : Array Slot} {rest : List Value} {v : Value} {lv : List (Nat × Value)}, lv_has ls nL lv → x_kd ty v →
  (∀ ls' : Array Slot, lv_has ls' nL ((i, v) :: lv.filter (x_fltV ty i)) → W p l e R s m args below meth c H locs cells slots Q (F0 m nx ls' rest)) → W p l e R s m args below meth c H locs cells slots Q (F0 m pc ls (v :: rest))
def x_Inc (i : Nat) (n : Int) : Prop := ∀ {p : Program} {l : Launch} {e : Env} {R : Room} {s : State} {m : MethodId} {args : Array Value} {below : List Frame} {meth : Method} {c : Code}, CallFix p m c cc nL s args x_tbl own → ∀ {H : Heap} {locs : List Loc} {cells slots : Nat} {Q : State → Prop} {ls : Array Slot} {rest : List Value} {k : Nat} {x : Int32} {lv : List (Nat × Value)}, lv_has ls nL lv → lv[k]? = some (i, .int x) →
  (∀ ls' : Array Slot, lv_has ls' nL ((i, .int (x + Int32.ofInt n)) :: lv.filter (x_fltV 0 i)) → W p l e R s m args below meth c H locs cells slots Q (F0 m nx ls' rest)) → W p l e R s m args below meth c H locs cells slots Q (F0 m pc ls rest)
end XW
def xi_push (x : xV) (nx : Nat) : xS → Option (List xS) := fun t => some [(nx, t.2.1, x :: t.2.2.1, t.2.2.2)]
def xi_load (i ty nx : Nat) : xS → Option (List xS) := fun t => match x_find t.2.1 i with
  | some x => bif Nat.beq (x_ty x) ty then some [(nx, t.2.1, x :: t.2.2.1, t.2.2.2)] else none
  | none => none
def xi_stor (i ty nx : Nat) : xS → Option (List xS) := fun t => match t.2.2.1 with
  | x :: r => bif Nat.beq (x_ty x) ty then some [(nx, (i, x) :: t.2.1.filter (x_flt ty i), r, t.2.2.2)] else none
  | [] => none
def xi_goto (nx : Nat) : xS → Option (List xS) := fun t => some [(nx, t.2)]
section X3
variable {cl : List vw_C} {K : xKx} {cc : ByteArray} {own : String} {nL : Nat} {nm : String} {MC MS pc nx : Nat}
theorem xi_push_ok {x : xV} {v : Value} (hw : x_Psh cc own nL pc nx v) (hv : ∀ ad V sc, x_rel ad V sc x v) : x_Snd cl K cc own nL nm MC MS pc (xi_push x nx) := by
  intro V sc p l e R s m args below meth c D A H0 Q C hA hK t ts hpc hf hg
  have hf' : some [(nx, t.2.1, x :: t.2.2.1, t.2.2.2)] = some ts := hf
  cases hf'
  subst hpc
  intro ls stk H locs ⟨lv, ws, tys, h1, h2, h3, h4⟩
  exact hw C.1 (hg _ List.mem_cons_self ls (v :: stk) H locs ⟨lv, ws, tys, h1, h2, ⟨hv _ _ _, h3⟩, h4⟩)
theorem xi_load_ok {i ty : Nat} (hw : x_Ld cc own nL pc nx i ty) : x_Snd cl K cc own nL nm MC MS pc (xi_load i ty nx) := by
  intro V sc p l e R s m args below meth c D A H0 Q C hA hK t ts hpc hf hg
  unfold xi_load at hf
  split at hf
  · rename_i x hx
    cases hb : Nat.beq (x_ty x) ty with
    | false => rw [hb] at hf; cases hf
    | true =>
      rw [hb] at hf
      cases hf
      subst hpc
      have e := Nat.eq_of_beq_eq_true hb
      intro ls stk H locs ⟨lv, ws, tys, h1, h2, h3, h4⟩
      obtain ⟨k, v, hk, hr⟩ := x_find_ok h2 hx
      exact hw C.1 (lv_at h1 k hk) (e ▸ x_ty_ok hr) (hg _ List.mem_cons_self ls (v :: stk) H locs ⟨lv, ws, tys, h1, h2, ⟨hr, h3⟩, h4⟩)
  · cases hf
theorem xi_stor_ok {i ty : Nat} (hw : x_Sto cc own nL pc nx i ty) : x_Snd cl K cc own nL nm MC MS pc (xi_stor i ty nx) := by
  intro V sc p l e R s m args below meth c D A H0 Q C hA hK t ts hpc hf hg
  unfold xi_stor at hf
  split at hf
  · rename_i x r hx
    cases hb : Nat.beq (x_ty x) ty with
    | false => rw [hb] at hf; cases hf
    | true =>
      rw [hb] at hf
      cases hf
      subst hpc
      have e := Nat.eq_of_beq_eq_true hb
      intro ls stk H locs ⟨lv, ws, tys, h1, h2, h3, h4⟩
      rw [hx] at h3
      match stk, h3 with
      | v :: rest, h3 =>
        exact hw C.1 h1 (e ▸ x_ty_ok h3.1) (fun ls' hl' => hg _ List.mem_cons_self ls' rest H locs ⟨_, ws, tys, hl', ⟨⟨rfl, h3.1⟩, x_all2_filter h2 x_flt_eq⟩, h3.2, h4⟩)
  · cases hf
theorem xi_goto_ok (hw : x_Stk cc own nL pc nx [] []) : x_Snd cl K cc own nL nm MC MS pc (xi_goto nx) := by
  intro V sc p l e R s m args below meth c D A H0 Q C hA hK t ts hpc hf hg
  have hf' : some [(nx, t.2)] = some ts := hf
  cases hf'
  subst hpc
  intro ls stk H locs h
  exact hw C.1 (hg _ List.mem_cons_self ls stk H locs h)
end X3
end
