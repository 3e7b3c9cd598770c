noncomputable section
/-! the machine with exact numbers: cells that stand (none is made any more), their contents as a function of cell and place -/
/-- (0, n) an int, (1, j) the cell j, (2, 0) null, (4, n) a long -/
abbrev eV : Type := Nat × Int
abbrev eW : Type := Int → Int → Int
abbrev eL : Type := List (Nat × eV)
/-- pc, locals, stack, contents -/
abbrev eS : Type := Nat × eL × List eV × eW
/-- of a cell: 0 an object, 1 ints, 2 bytes, 3 booleans, 5 references to objects, 6 to arrays of ints; class; length -/
abbrev eY : Type := Nat × Nat × Nat
def e_rel (ad : List Nat) (x : eV) (v : Value) : Prop := match x.1 with
  | 0 => ∃ n : Int32, v = .int n ∧ n.toInt = x.2
  | 1 => 0 ≤ x.2 ∧ ∃ a, ad[x.2.toNat]? = some a ∧ v = .ref a
  | 2 => v = .null
  | 4 => ∃ n : Int64, v = .long n ∧ n.toInt = x.2
  | 5 => v = .null ∨ ∃ a, v = .ref a
  | _ => False
def e_ty (x : eV) : Nat := match x.1 with
  | 0 => 0
  | 4 => 1
  | _ => 2
theorem e_ty_ok {ad : List Nat} {x : eV} {v : Value} (h : e_rel ad x v) : x_kd (e_ty x) v := by
  obtain ⟨t, a⟩ := x
  unfold e_rel at h
  unfold e_ty
  split at h
  · rename_i h0; simp only at h0; subst h0; exact ⟨_, h.choose_spec.1⟩
  · rename_i h0; simp only at h0; subst h0; exact Or.inr ⟨_, h.2.choose_spec.2⟩
  · rename_i h0; simp only at h0; subst h0; exact Or.inl h
  · rename_i h0; simp only at h0; subst h0; exact ⟨_, h.choose_spec.1⟩
  · rename_i h0; simp only at h0; subst h0; exact h
  · exact h.elim
theorem e_int {ad : List Nat} {n : Int} {v : Value} (h : e_rel ad (0, n) v) : ∃ z : Int32, v = .int z ∧ z.toInt = n := h
theorem e_long {ad : List Nat} {n : Int} {v : Value} (h : e_rel ad (4, n) v) : ∃ z : Int64, v = .long z ∧ z.toInt = n := h
/-- what a slot holds: fk 0 a number, 1 a reference (-1: null) -/
def e_slot (ad : List Nat) (fk : Nat) (z : Int) (v : Value) : Prop := match fk with
  | 0 => ∃ n : Int32, v = .int n ∧ n.toInt = z
  | _ => (z = -1 ∧ v = .null) ∨ (0 ≤ z ∧ ∃ a, ad[z.toNat]? = some a ∧ v = .ref a)
/-- a slot read -/
def e_rd (fk : Nat) (z : Int) : eV := match fk with
  | 0 => (0, z)
  | _ => bif decide (z = -1) then (2, 0) else (1, z)
theorem e_rd_ok {ad : List Nat} {fk : Nat} {z : Int} {v : Value} (h : e_slot ad fk z v) : e_rel ad (e_rd fk z) v := by
  unfold e_slot at h
  unfold e_rd
  split at h
  · exact h
  · rcases h with ⟨rfl, rfl⟩ | ⟨h0, a, h1, rfl⟩
    · exact rfl
    · have e : decide (z = -1) = false := decide_eq_false (by omega)
      rw [e]
      exact ⟨h0, a, h1, rfl⟩
/-- what is written -/
def e_wr (fk : Nat) (x : eV) : Option Int := match fk, x with
  | 0, (0, n) => some n
  | 1, (2, _) => some (-1)
  | 1, (1, j) => bif decide (0 ≤ j) then some j else none
  | _, _ => none
theorem e_wr_ok {ad : List Nat} {fk : Nat} {x : eV} {z : Int} {v : Value} (h : e_wr fk x = some z) (hr : e_rel ad x v) : e_slot ad fk z v := by
  unfold e_wr at h
  split at h
  · cases h; exact hr
  · cases h; exact Or.inl ⟨rfl, hr⟩
  · rename_i j
    cases hb : decide (0 ≤ j) with
    | false => rw [hb] at h; cases h
    | true =>
      rw [hb] at h
      cases h
      obtain ⟨h0, a, h1, h2⟩ := hr
      exact Or.inr ⟨h0, a, h1, h2⟩
  · cases h
/-- a cell -/
def e_cell (ft : Nat → Nat → Nat) (cl : List vw_C) (ad : List Nat) (tys : List (ClassId × FieldType)) (y : eY) (g : Int → Int) (e : va_E) : Prop := match y.1 with
  | 0 => ∃ fs : List Value, e = .inr (y.2.1, fs) ∧ fs.length = y.2.2 ∧ ∀ k, k < y.2.2 → ∃ v, fs[k]? = some v ∧ e_slot ad (ft y.2.1 k) (g k) v
  | 1 => ∃ (t0 : Nat) (cA : ClassId) (f : Nat → Int32), tys[t0]? = some (cA, .int) ∧ e = .inl (cA, y.2.2, .inl f) ∧ y.2.2 < 2147483648 ∧ ∀ k, k < y.2.2 → (f k).toInt = g k
  | 2 => ∃ (t0 : Nat) (cA : ClassId) (f : Nat → Int32), tys[t0]? = some (cA, .byte) ∧ e = .inl (cA, y.2.2, .inl f) ∧ y.2.2 < 2147483648 ∧ ∀ k, k < y.2.2 → (f k).toInt = g k
  | 3 => ∃ (t0 : Nat) (cA : ClassId) (f : Nat → Int32), tys[t0]? = some (cA, .boolean) ∧ e = .inl (cA, y.2.2, .inl f) ∧ y.2.2 < 2147483648 ∧ ∀ k, k < y.2.2 → (f k).toInt = g k
  | 5 => ∃ (t0 : Nat) (cA : ClassId) (r : vw_C) (f : Nat → Option Nat), cl[y.2.1]? = some r ∧ tys[t0]? = some (cA, .object r.1) ∧ e = .inl (cA, y.2.2, .inr (.inr (.inr (.inr f)))) ∧ y.2.2 < 2147483648 ∧ ∀ k, k < y.2.2 → e_slot ad 1 (g k) (va_rf (f k))
  | 6 => ∃ (t0 : Nat) (cA : ClassId) (f : Nat → Option Nat), tys[t0]? = some (cA, .array .int) ∧ e = .inl (cA, y.2.2, .inr (.inr (.inr (.inr f)))) ∧ y.2.2 < 2147483648 ∧ ∀ k, k < y.2.2 → e_slot ad 1 (g k) (va_rf (f k))
  | _ => False
/-- the contents w, but z at the place k of the cell j -/
def e_up (w : eW) (j k : Int) (z : Int) : eW := fun j' k' => if j' = j ∧ k' = k then z else w j' k'
theorem e_up_eq (w : eW) (j k : Int) (z : Int) : e_up w j k z j k = z := by simp [e_up]
theorem e_up_ne (w : eW) {j k j' k' : Int} (z : Int) (h : j' ≠ j ∨ k' ≠ k) : e_up w j k z j' k' = w j' k' := by
  unfold e_up
  exact if_neg (fun q => by rcases h with h | h; exact h q.1; exact h q.2)
def e_world (ft : Nat → Nat → Nat) (cl : List vw_C) (lay : List eY) (ad : List Nat) (tys : List (ClassId × FieldType)) (w : eW) (ws : va_W) : Prop := ws.map Prod.fst = ad.take ws.length ∧ lay.length = ws.length ∧ ∀ (k : Nat) (y : eY) (q : Nat × va_E), lay[k]? = some y → ws[k]? = some q → e_cell ft cl ad tys y (w k) q.2
theorem e_world_set {ft : Nat → Nat → Nat} {cl : List vw_C} {lay : List eY} {ad : List Nat} {tys : List (ClassId × FieldType)} {w : eW} {ws : va_W} {j a : Nat} {k z : Int} {e0 e : va_E} {y : eY} (h : e_world ft cl lay ad tys w ws) (hy : lay[j]? = some y) (hk : ws[j]? = some (a, e0)) (hx : e_cell ft cl ad tys y (e_up w j k z j) e) : e_world ft cl lay ad tys (e_up w j k z) (ws.set j (a, e)) := by
  refine ⟨by rw [x_fst_set hk, List.length_set]; exact h.1, by rw [List.length_set]; exact h.2.1, fun i y' q hy' hq => ?_⟩
  rw [List.getElem?_set] at hq
  by_cases hij : j = i
  · subst hij
    rw [if_pos rfl] at hq
    rw [hy] at hy'
    cases hy'
    split at hq
    · cases hq; exact hx
    · cases hq
  · rw [if_neg hij] at hq
    have e9 : e_up w j k z (i : Int) = w i := funext fun k' => e_up_ne w z (Or.inl (by omega))
    rw [e9]
    exact h.2.2 i y' q hy' hq
theorem e_ref {ft : Nat → Nat → Nat} {cl : List vw_C} {lay : List eY} {ad : List Nat} {tys : List (ClassId × FieldType)} {w : eW} {ws : va_W} {j : Int} {v : Value} {y : eY} (h : e_world ft cl lay ad tys w ws) (hr : e_rel ad (1, j) v) (hy : lay[j.toNat]? = some y) : ∃ a e, ws[j.toNat]? = some (a, e) ∧ v = .ref a ∧ e_cell ft cl ad tys y (w j) e ∧ ((j.toNat : Nat) : Int) = j := by
  obtain ⟨h0, a, h1, h2⟩ := hr
  simp only at h0 h1
  have ej : ((j.toNat : Nat) : Int) = j := by omega
  have hlt : j.toNat < ws.length := by rw [← h.2.1]; exact (List.getElem?_eq_some_iff.mp hy).1
  have h1' : (ad.take ws.length)[j.toNat]? = some a := by rw [List.getElem?_take_of_lt hlt]; exact h1
  rw [← h.1] at h1'
  replace h1 := h1'
  simp only [List.getElem?_map, Option.map_eq_some_iff] at h1
  obtain ⟨q, hq, rfl⟩ := h1
  exact ⟨q.1, q.2, hq, h2, by have := h.2.2 _ y q hy hq; rw [ej] at this; exact this, ej⟩
def e_In (ft : Nat → Nat → Nat) (cl : List vw_C) (lay : List eY) (ad : List Nat) (nL : Nat) (s : State) (D : va_G) (A : Nat → Prop) (H0 : Heap) (t : eS) (ls : Array Slot) (stk : List Value) (H : Heap) (locs : List Loc) : Prop :=
  ∃ (lv : List (Nat × Value)) (ws : va_W) (tys : List (ClassId × FieldType)), lv_has ls nL lv ∧ x_all2 (fun a q => a.1 = q.1 ∧ e_rel ad a.2 q.2) t.2.1 lv ∧ x_all2 (e_rel ad) t.2.2.1 stk ∧
    e_world ft cl lay ad tys t.2.2.2 ws ∧ e_K D cl tys ad A s H0 ∧ va_P D cl ws H ∧ va_D A ws ∧ va_S A H0 H locs
def e_Good (ft : Nat → Nat → Nat) (cl : List vw_C) (lay : List eY) (ad : List Nat) (ce sl nL : Nat) (p : Program) (l : Launch) (e : Env) (R : Room) (s : State) (m : MethodId) (args : Array Value) (below : List Frame) (meth : Method) (c : Code) (D : va_G) (A : Nat → Prop) (H0 : Heap) (Q : State → Prop) (t : eS) : Prop :=
  ∀ (ls : Array Slot) (stk : List Value) (H : Heap) (locs : List Loc), e_In ft cl lay ad nL s D A H0 t ls stk H locs → W p l e R s m args below meth c H locs ce sl Q (F0 m t.1 ls stk)
/-- one instruction, exactly: the next state, or two of which a test decides -/
def e_Snd (ft : Nat → Nat → Nat) (cl : List vw_C) (lay : List eY) (cc : ByteArray) (own : String) (nL : Nat) (nm : String) (MC MS : Nat) (pc : Nat) (f : eS → Option eS) : Prop :=
  ∀ {ad : List Nat} {ce sl : Nat} {p : Program} {l : Launch} {e : Env} {R : Room} {s : State} {m : MethodId} {args : Array Value} {below : List Frame} {meth : Method} {c : Code} {D : va_G} {A : Nat → Prop} {H0 : Heap} {Q : State → Prop},
    x_Cx cc own nL nm MC MS p R s m args meth c → ce ≤ MC → sl ≤ MS → (∀ q : Nat, H0.size ≤ q → A q) → ∀ (t t' : eS), t.1 = pc → f t = some t' → e_Good ft cl lay ad ce sl nL p l e R s m args below meth c D A H0 Q t' → e_Good ft cl lay ad ce sl nL p l e R s m args below meth c D A H0 Q t
def e_find (l : eL) (i : Nat) : Option eV := List.rec (motive := fun _ => Option eV) none (fun q _ ih => Bool.rec (motive := fun _ => Option eV) ih (some q.2) (Nat.beq q.1 i)) l
theorem e_find_cons (q : Nat × eV) (r : eL) (i : Nat) : e_find (q :: r) i = bif Nat.beq q.1 i then some q.2 else e_find r i := by
  unfold e_find
  cases h : Nat.beq q.1 i with
  | true => simp [h]
  | false => simp [h]
theorem e_find_ok {ad : List Nat} {i : Nat} {x : eV} : ∀ {al : eL} {lv : List (Nat × Value)}, x_all2 (fun a q => a.1 = q.1 ∧ e_rel ad a.2 q.2) al lv → e_find al i = some x → ∃ (k : Nat) (v : Value), lv[k]? = some (i, v) ∧ e_rel ad x v
  | [], [], _, h => by cases h
  | a :: al, q :: lv, h, hf => by
    rw [e_find_cons] at hf
    cases hb : Nat.beq a.1 i with
    | true =>
      rw [hb] at hf
      have e : a.1 = i := Nat.eq_of_beq_eq_true hb
      cases hf
      exact ⟨0, q.2, by simp [← e, h.1.1], h.1.2⟩
    | false =>
      rw [hb] at hf
      obtain ⟨k, v, h1, h2⟩ := e_find_ok h.2 hf
      exact ⟨k + 1, v, by simpa using h1, h2⟩
  | [], _ :: _, h, _ => h.elim
  | _ :: _, [], h, _ => h.elim
def e_flt (ty i : Nat) (q : Nat × eV) : Bool := bif Nat.beq ty 1 then !(Nat.beq q.1 i) && (!(Nat.beq q.1 (i + 1)) && !(Nat.beq (q.1 + 1) i && Nat.beq (e_ty q.2) 1)) else !(Nat.beq q.1 i) && !(Nat.beq (q.1 + 1) i && Nat.beq (e_ty q.2) 1)
theorem e_flt_eq {ad : List Nat} {ty i : Nat} (a : Nat × eV) (q : Nat × Value) (h : a.1 = q.1 ∧ e_rel ad a.2 q.2) : e_flt ty i a = x_fltV ty i q := by
  have e : Nat.beq (e_ty a.2) 1 = (q.2.category == 2) := by
    rw [x_kd_cat (e_ty_ok h.2)]
    by_cases h1 : e_ty a.2 = 1
    · rw [h1]; rfl
    · rw [if_neg h1, x_nb h1]; rfl
  unfold e_flt x_fltV
  rw [h.1, e]
  simp only [x_bb]
/-- plain ones -/
def ei_push (x : eV) (nx : Nat) : eS → Option eS := fun t => some (nx, t.2.1, x :: t.2.2.1, t.2.2.2)
def ei_load (i ty nx : Nat) : eS → Option eS := fun t => match e_find t.2.1 i with
  | some x => bif Nat.beq (e_ty x) ty then some (nx, t.2.1, x :: t.2.2.1, t.2.2.2) else none
  | none => none
def ei_stor (i ty nx : Nat) : eS → Option eS := fun t => match t.2.2.1 with
  | x :: r => bif Nat.beq (e_ty x) ty then some (nx, (i, x) :: t.2.1.filter (e_flt ty i), r, t.2.2.2) else none
  | [] => none
def ei_goto (nx : Nat) : eS → Option eS := fun t => some (nx, t.2)
def e32 (z : Int) : Int := z.bmod 4294967296
def e64 (z : Int) : Int := z.bmod 18446744073709551616
/-- two ints, an int comes -/
def ei_bin (F : Int → Int → Option Int) (nx : Nat) : eS → Option eS := fun t => match t.2.2.1 with
  | (0, y) :: (0, x) :: r => match F x y with
    | some z => some (nx, t.2.1, (0, z) :: r, t.2.2.2)
    | none => none
  | _ => none
def ei_un (F : Int → eV) (nx : Nat) : eS → Option eS := fun t => match t.2.2.1 with
  | (0, x) :: r => some (nx, t.2.1, F x :: r, t.2.2.2)
  | _ => none
def ei_binL (F : Int → Int → Option eV) (nx : Nat) : eS → Option eS := fun t => match t.2.2.1 with
  | (4, y) :: (4, x) :: r => match F x y with
    | some z => some (nx, t.2.1, z :: r, t.2.2.2)
    | none => none
  | _ => none
def ei_shL (F : Int → Int → Option Int) (nx : Nat) : eS → Option eS := fun t => match t.2.2.1 with
  | (0, y) :: (4, x) :: r => match F x y with
    | some z => some (nx, t.2.1, (4, z) :: r, t.2.2.2)
    | none => none
  | _ => none
def ei_unL (F : Int → eV) (nx : Nat) : eS → Option eS := fun t => match t.2.2.1 with
  | (4, x) :: r => some (nx, t.2.1, F x :: r, t.2.2.2)
  | _ => none
def ei_inc (i : Nat) (n : Int) (nx : Nat) : eS → Option eS := fun t => match e_find t.2.1 i with
  | some (0, x) => some (nx, (i, (0, e32 (x + n))) :: t.2.1.filter (e_flt 0 i), t.2.2.1, t.2.2.2)
  | _ => none
def e_cnd (k : Nat) (a b : Int) : Bool := match k with
  | 0 => decide (a = b)
  | 1 => decide (a ≠ b)
  | 2 => decide (a < b)
  | 3 => decide (b ≤ a)
  | 4 => decide (b < a)
  | _ => decide (a ≤ b)
theorem e_cnd_ok {k : Nat} {a b : Int} : e_cnd k a b = true ↔ x_cnd k a b := by
  unfold e_cnd x_cnd
  split <;> simp
def ei_if2 (k tg nx : Nat) : eS → Option eS := fun t => match t.2.2.1 with
  | (0, y) :: (0, x) :: r => some (bif e_cnd k x y then tg else nx, t.2.1, r, t.2.2.2)
  | _ => none
def ei_if1 (k tg nx : Nat) : eS → Option eS := fun t => match t.2.2.1 with
  | (0, x) :: r => some (bif e_cnd k x 0 then tg else nx, t.2.1, r, t.2.2.2)
  | _ => none
section E30
variable {ft : Nat → Nat → Nat} {cl : List vw_C} {lay : List eY} {cc : ByteArray} {own : String} {nL : Nat} {nm : String} {MC MS pc nx tg : Nat}
theorem ei_push_ok {x : eV} {v : Value} (hw : x_Psh cc own nL pc nx v) (hv : ∀ ad, e_rel ad x v) : e_Snd ft cl lay cc own nL nm MC MS pc (ei_push x nx) := by
  intro ad ce sl p l e R s m args below meth c D A H0 Q C hce hsl hA t t' hpc hf hg
  have hf' : some (nx, t.2.1, x :: t.2.2.1, t.2.2.2) = some t' := hf
  cases hf'
  subst hpc
  intro ls stk H locs ⟨lv, ws, tys, h1, h2, h3, h4⟩
  exact hw C.1 (hg ls (v :: stk) H locs ⟨lv, ws, tys, h1, h2, ⟨hv _, h3⟩, h4⟩)
theorem ei_load_ok {i ty : Nat} (hw : x_Ld cc own nL pc nx i ty) : e_Snd ft cl lay cc own nL nm MC MS pc (ei_load i ty nx) := by
  intro ad ce sl p l e R s m args below meth c D A H0 Q C hce hsl hA t t' hpc hf hg
  unfold ei_load at hf
  split at hf
  · rename_i x hx
    cases hb : Nat.beq (e_ty x) ty with
    | false => rw [hb] at hf; cases hf
    | true =>
      rw [hb] at hf
      cases hf
      subst hpc
      have e := Nat.eq_of_beq_eq_true hb
      intro ls stk H locs ⟨lv, ws, tys, h1, h2, h3, h4⟩
      obtain ⟨k, v, hk, hr⟩ := e_find_ok h2 hx
      exact hw C.1 (lv_at h1 k hk) (e ▸ e_ty_ok hr) (hg ls (v :: stk) H locs ⟨lv, ws, tys, h1, h2, ⟨hr, h3⟩, h4⟩)
  · cases hf
theorem ei_stor_ok {i ty : Nat} (hw : x_Sto cc own nL pc nx i ty) : e_Snd ft cl lay cc own nL nm MC MS pc (ei_stor i ty nx) := by
  intro ad ce sl p l e R s m args below meth c D A H0 Q C hce hsl hA t t' hpc hf hg
  unfold ei_stor at hf
  split at hf
  · rename_i x r hx
    cases hb : Nat.beq (e_ty x) ty with
    | false => rw [hb] at hf; cases hf
    | true =>
      rw [hb] at hf
      cases hf
      subst hpc
      have e := Nat.eq_of_beq_eq_true hb
      intro ls stk H locs ⟨lv, ws, tys, h1, h2, h3, h4⟩
      rw [hx] at h3
      match stk, h3 with
      | v :: rest, h3 =>
        exact hw C.1 h1 (e ▸ e_ty_ok h3.1) (fun ls' hl' => hg ls' rest H locs ⟨_, ws, tys, hl', ⟨⟨rfl, h3.1⟩, x_all2_filter h2 e_flt_eq⟩, h3.2, h4⟩)
  · cases hf
theorem ei_goto_ok (hw : x_Stk cc own nL pc nx [] []) : e_Snd ft cl lay cc own nL nm MC MS pc (ei_goto nx) := by
  intro ad ce sl p l e R s m args below meth c D A H0 Q C hce hsl hA t t' hpc hf hg
  have hf' : some (nx, t.2) = some t' := hf
  cases hf'
  subst hpc
  intro ls stk H locs h
  exact hw C.1 (hg ls stk H locs h)
theorem ei_bin_ok {F : Int → Int → Option Int} {g : Int32 → Int32 → Int32} (P : Int32 → Prop) (hw : ∀ x y, P y → x_Stk cc own nL pc nx [.int y, .int x] [.int (g x y)]) (hF : ∀ (x y : Int32) (z : Int), F x.toInt y.toInt = some z → P y ∧ (g x y).toInt = z) : e_Snd ft cl lay cc own nL nm MC MS pc (ei_bin F nx) := by
  intro ad ce sl p l e R s m args below meth c D A H0 Q C hce hsl hA t t' hpc hf hg
  unfold ei_bin at hf
  split at hf
  · rename_i y x r hst
    split at hf
    · rename_i z hz
      cases hf
      subst hpc
      intro ls stk H locs ⟨lv, ws, tys, h1, h2, h3, h4⟩
      rw [hst] at h3
      match stk, h3 with
      | v1 :: v2 :: rest, h3 =>
        obtain ⟨ny, rfl, rfl⟩ := e_int h3.1
        obtain ⟨nx', rfl, rfl⟩ := e_int h3.2.1
        obtain ⟨hP, hr⟩ := hF nx' ny z hz
        exact hw nx' ny hP C.1 (hg ls (.int (g nx' ny) :: rest) H locs ⟨lv, ws, tys, h1, h2, ⟨⟨_, rfl, hr⟩, h3.2.2⟩, h4⟩)
    · cases hf
  · cases hf
theorem ei_un_ok {F : Int → eV} {g : Int32 → Value} (hw : ∀ x, x_Stk cc own nL pc nx [.int x] [g x]) (hF : ∀ (x : Int32) ad, e_rel ad (F x.toInt) (g x)) : e_Snd ft cl lay cc own nL nm MC MS pc (ei_un F nx) := by
  intro ad ce sl p l e R s m args below meth c D A H0 Q C hce hsl hA t t' hpc hf hg
  unfold ei_un at hf
  split at hf
  · rename_i x r hst
    cases hf
    subst hpc
    intro ls stk H locs ⟨lv, ws, tys, h1, h2, h3, h4⟩
    rw [hst] at h3
    match stk, h3 with
    | v2 :: rest, h3 =>
      obtain ⟨nx', rfl, rfl⟩ := e_int h3.1
      exact hw nx' C.1 (hg ls (g nx' :: rest) H locs ⟨lv, ws, tys, h1, h2, ⟨hF nx' _, h3.2⟩, h4⟩)
  · cases hf
theorem ei_binL_ok {F : Int → Int → Option eV} {g : Int64 → Int64 → Value} (P : Int64 → Prop) (hw : ∀ x y, P y → x_Stk cc own nL pc nx [.long y, .long x] [g x y]) (hF : ∀ (x y : Int64) (z : eV), F x.toInt y.toInt = some z → P y ∧ ∀ ad, e_rel ad z (g x y)) : e_Snd ft cl lay cc own nL nm MC MS pc (ei_binL F nx) := by
  intro ad ce sl p l e R s m args below meth c D A H0 Q C hce hsl hA t t' hpc hf hg
  unfold ei_binL at hf
  split at hf
  · rename_i y x r hst
    split at hf
    · rename_i z hz
      cases hf
      subst hpc
      intro ls stk H locs ⟨lv, ws, tys, h1, h2, h3, h4⟩
      rw [hst] at h3
      match stk, h3 with
      | v1 :: v2 :: rest, h3 =>
        obtain ⟨ny, rfl, rfl⟩ := e_long h3.1
        obtain ⟨nx', rfl, rfl⟩ := e_long h3.2.1
        obtain ⟨hP, hr⟩ := hF nx' ny z hz
        exact hw nx' ny hP C.1 (hg ls (g nx' ny :: rest) H locs ⟨lv, ws, tys, h1, h2, ⟨hr _, h3.2.2⟩, h4⟩)
    · cases hf
  · cases hf
theorem ei_shL_ok {F : Int → Int → Option Int} {g : Int64 → Int32 → Int64} (hw : ∀ x y, x_Stk cc own nL pc nx [.int y, .long x] [.long (g x y)]) (hF : ∀ (x : Int64) (y : Int32) (z : Int), F x.toInt y.toInt = some z → (g x y).toInt = z) : e_Snd ft cl lay cc own nL nm MC MS pc (ei_shL F nx) := by
  intro ad ce sl p l e R s m args below meth c D A H0 Q C hce hsl hA t t' hpc hf hg
  unfold ei_shL at hf
  split at hf
  · rename_i y x r hst
    split at hf
    · rename_i z hz
      cases hf
      subst hpc
      intro ls stk H locs ⟨lv, ws, tys, h1, h2, h3, h4⟩
      rw [hst] at h3
      match stk, h3 with
      | v1 :: v2 :: rest, h3 =>
        obtain ⟨ny, rfl, rfl⟩ := e_int h3.1
        obtain ⟨nx', rfl, rfl⟩ := e_long h3.2.1
        exact hw nx' ny C.1 (hg ls (.long (g nx' ny) :: rest) H locs ⟨lv, ws, tys, h1, h2, ⟨⟨_, rfl, hF nx' ny z hz⟩, h3.2.2⟩, h4⟩)
    · cases hf
  · cases hf
theorem ei_unL_ok {F : Int → eV} {g : Int64 → Value} (hw : ∀ x, x_Stk cc own nL pc nx [.long x] [g x]) (hF : ∀ (x : Int64) ad, e_rel ad (F x.toInt) (g x)) : e_Snd ft cl lay cc own nL nm MC MS pc (ei_unL F nx) := by
  intro ad ce sl p l e R s m args below meth c D A H0 Q C hce hsl hA t t' hpc hf hg
  unfold ei_unL at hf
  split at hf
  · rename_i x r hst
    cases hf
    subst hpc
    intro ls stk H locs ⟨lv, ws, tys, h1, h2, h3, h4⟩
    rw [hst] at h3
    match stk, h3 with
    | v2 :: rest, h3 =>
      obtain ⟨nx', rfl, rfl⟩ := e_long h3.1
      exact hw nx' C.1 (hg ls (g nx' :: rest) H locs ⟨lv, ws, tys, h1, h2, ⟨hF nx' _, h3.2⟩, h4⟩)
  · cases hf
theorem ei_inc_ok {i : Nat} {n : Int} (hn : -2147483648 ≤ n ∧ n ≤ 2147483647) (hw : x_Inc cc own nL pc nx i n) : e_Snd ft cl lay cc own nL nm MC MS pc (ei_inc i n nx) := by
  intro ad ce sl p l e R s m args below meth c D A H0 Q C hce hsl hA t t' hpc hf hg
  unfold ei_inc at hf
  split at hf
  · rename_i x hx
    cases hf
    subst hpc
    intro ls stk H locs ⟨lv, ws, tys, h1, h2, h3, h4⟩
    obtain ⟨k, v, hk, hr⟩ := e_find_ok h2 hx
    obtain ⟨z, rfl, rfl⟩ := e_int hr
    have en : (z + Int32.ofInt n).toInt = e32 (z.toInt + n) := by
      rw [Int32.toInt_add]
      have : (Int32.ofInt n).toInt = n := Int32.toInt_ofInt_of_le (by omega) (by omega)
      rw [this]
      rfl
    exact hw C.1 h1 hk (fun ls' hl' => hg ls' stk H locs ⟨_, ws, tys, hl', ⟨⟨rfl, ⟨_, rfl, en⟩⟩, x_all2_filter h2 e_flt_eq⟩, h3, h4⟩)
  · cases hf
theorem ei_if2_ok {k : Nat} (hw : x_If2 cc own nL pc tg nx k) : e_Snd ft cl lay cc own nL nm MC MS pc (ei_if2 k tg nx) := by
  intro ad ce sl p l e R s m args below meth c D A H0 Q C hce hsl hA t t' hpc hf hg
  unfold ei_if2 at hf
  split at hf
  · rename_i y x r hst
    cases hf
    subst hpc
    intro ls stk H locs ⟨lv, ws, tys, h1, h2, h3, h4⟩
    rw [hst] at h3
    match stk, h3 with
    | v1 :: v2 :: rest, h3 =>
      obtain ⟨ny, rfl, rfl⟩ := e_int h3.1
      obtain ⟨nx', rfl, rfl⟩ := e_int h3.2.1
      have hgo := hg ls rest H locs ⟨lv, ws, tys, h1, h2, h3.2.2, h4⟩
      refine hw C.1 (fun hc => ?_) (fun hc => ?_)
      · rw [e_cnd_ok.mpr hc] at hgo
        exact hgo
      · have hb : e_cnd k nx'.toInt ny.toInt = false := by
          cases hb : e_cnd k nx'.toInt ny.toInt with
          | false => rfl
          | true => exact absurd (e_cnd_ok.mp hb) hc
        rw [hb] at hgo
        exact hgo
  · cases hf
theorem ei_if1_ok {k : Nat} (hw : x_If1 cc own nL pc tg nx k) : e_Snd ft cl lay cc own nL nm MC MS pc (ei_if1 k tg nx) := by
  intro ad ce sl p l e R s m args below meth c D A H0 Q C hce hsl hA t t' hpc hf hg
  unfold ei_if1 at hf
  split at hf
  · rename_i x r hst
    cases hf
    subst hpc
    intro ls stk H locs ⟨lv, ws, tys, h1, h2, h3, h4⟩
    rw [hst] at h3
    match stk, h3 with
    | v2 :: rest, h3 =>
      obtain ⟨nx', rfl, rfl⟩ := e_int h3.1
      have hgo := hg ls rest H locs ⟨lv, ws, tys, h1, h2, h3.2, h4⟩
      refine hw C.1 (fun hc => ?_) (fun hc => ?_)
      · rw [e_cnd_ok.mpr hc] at hgo
        exact hgo
      · have hb : e_cnd k nx'.toInt 0 = false := by
          cases hb : e_cnd k nx'.toInt 0 with
          | false => rfl
          | true => exact absurd (e_cnd_ok.mp hb) hc
        rw [hb] at hgo
        exact hgo
  · cases hf
end E30
end
