noncomputable section
/-! An interpreter over pictures of the machine: values by bounds, cells by their contents; and why it may be trusted. -/
/-- the tables' words that stay good over a call -/
def x_tbl : List Cond := lw_tbl.filter goodWord
theorem good_w : x_tbl.all goodWord = true := List.all_eq_true.mpr (fun w h => (List.mem_filter.mp h).2)
theorem x_tb {w : Cond} (h : w ∈ lw_tbl) (hg : goodWord w = true) : w ∈ x_tbl := List.mem_filter.mpr ⟨h, hg⟩
/-- words that a call must be given anew: which arrays' classes there are, which nest mates' methods are linked -/
def va_AOA (ty : FieldType) (U : State) : Prop := (Cond.arrayOver (.array ty)).before #[] U = true
theorem va_AOA.of {ty : FieldType} {A : Array Value} {U : State} (h : (Cond.arrayOver (.array ty)).before A U = true) : va_AOA ty U := h
theorem va_AOA.use {ty : FieldType} {A : Array Value} {U : State} (h : va_AOA ty U) : (Cond.arrayOver (.array ty)).before A U = true := h
theorem x_AO_spec {u : State} {ty : FieldType} (h : va_AOA ty u) : ∃ (comp c : Nat) (k : Class), u.vm.findClass (FieldType.array ty).toString = some comp ∧ (u.vm.classes.findIdx? fun (x : Class) => match x.kind with | .array component _ => component == comp | _ => false) = some c ∧ u.vm.classes[c]? = some k ∧ k.kind = .array comp (.array ty) ∧ u.vm.findClass ("[" ++ (FieldType.array ty).toString) = some c := by
  unfold va_AOA at h
  simp only [Cond.before, Cond.holds, Cond.value, beq_iff_eq] at h
  cases hc : u.vm.findClass (FieldType.array ty).toString with
  | none => simp [hc] at h
  | some comp =>
    simp only [hc, Option.bind_some, Option.bind_eq_some_iff, Option.map_eq_some_iff] at h
    obtain ⟨c, hi, k, hk, hb⟩ := h
    obtain ⟨hlt, hp, -⟩ := Array.findIdx?_eq_some_iff_getElem.mp hi
    have hkk : u.vm.classes[c] = k := (Array.getElem?_eq_some_iff.mp hk).2
    rw [hkk] at hp
    cases hkind : k.kind with
    | array component ty' =>
      rw [hkind] at hb hp
      simp at hb hp
      exact ⟨comp, c, k, rfl, hi, hk, by rw [hkind, hp, hb.1], hb.2⟩
    | _ => rw [hkind] at hb; simp at hb
theorem va_AOA.moved {ty : FieldType} {u U : State} (hvm : u.vm.Alike U.vm) (h : va_AOA ty u) : va_AOA ty U := by
  obtain ⟨comp, c, k, h1, h2, h3, h4, h5⟩ := x_AO_spec h
  obtain ⟨k', hk', he⟩ := hvm.2.2 _ _ h3
  have hi : (U.vm.classes.findIdx? fun (x : Class) => match x.kind with | .array component _ => component == comp | _ => false) = some c := by
    have e1 := va_idx_bare U.vm comp
    have e2 := (va_idx_bare u.vm comp).trans h2
    first | rw [hvm.bare_eq] at e2 | rw [← hvm.bare_eq] at e2
    exact e1.symm.trans e2
  have hkind : k'.kind = .array comp (.array ty) := by rw [he]; exact h4
  have f1 : U.vm.findClass (FieldType.array ty).toString = some comp := by rw [hvm.findClass]; exact h1
  have f2 : U.vm.findClass ("[" ++ (FieldType.array ty).toString) = some c := by rw [hvm.findClass]; exact h5
  unfold va_AOA Cond.before Cond.holds
  simp only [Cond.value]
  rw [f1, Option.bind_some]
  refine (congrArg (fun o : Option Nat => (o.bind (fun c => (U.vm.classes[c]?).map fun (k : Class) => match k.kind with | .array _ ty' => decide (ty' = FieldType.array ty) && decide (U.vm.findClass ("[" ++ (FieldType.array ty).toString) = some c) | _ => false) == some true)) hi).trans ?_
  simp [hk', hkind, f2]
def x_nest : List (String × Nat × MethodName × String) := [("RobotCellHouse", 9, ⟨"RobotCellHouse$Reader", "<init>", "()V"⟩, "RobotCellHouse"), ("RobotCellHouse$Reader", 20, ⟨"RobotCellHouse$Code", "<init>", "()V"⟩, "RobotCellHouse"), ("RobotCellHouse$Doer", 19, ⟨"RobotCellHouse$Points", "<init>", "()V"⟩, "RobotCellHouse"), ("RobotCellHouse$Doer", 26, ⟨"RobotCellHouse$Floor", "<init>", "()V"⟩, "RobotCellHouse"), ("RobotCellHouse$Doer", 33, ⟨"RobotCellHouse$Core", "<init>", "()V"⟩, "RobotCellHouse"), ("RobotCellHouse$Arm", 38, ⟨"RobotCellHouse$Code", "<init>", "()V"⟩, "RobotCellHouse"), ("RobotCellHouse$Arm", 43, ⟨"RobotCellHouse$Joint", "<init>", "()V"⟩, "RobotCellHouse"), ("RobotCellHouse", 45, ⟨"RobotCellHouse$Shapes", "<init>", "()V"⟩, "RobotCellHouse"), ("RobotCellHouse", 52, ⟨"RobotCellHouse$Planner", "<init>", "()V"⟩, "RobotCellHouse"), ("RobotCellHouse$Arm", 117, ⟨"RobotCellHouse", "cosine", "(I)I"⟩, "RobotCellHouse"), ("RobotCellHouse$Arm", 121, ⟨"RobotCellHouse", "sine", "(I)I"⟩, "RobotCellHouse"), ("RobotCellHouse$Reader", 201, ⟨"RobotCellHouse", "within", "(III)Z"⟩, "RobotCellHouse"), ("RobotCellHouse$Planner", 41, ⟨"RobotCellHouse", "within", "(III)Z"⟩, "RobotCellHouse"), ("RobotCellHouse$Doer", 120, ⟨"RobotCellHouse", "within", "(III)Z"⟩, "RobotCellHouse"), ("RobotCellHouse$Doer", 261, ⟨"RobotCellHouse", "isPoint", "(I)Z"⟩, "RobotCellHouse"), ("RobotCellHouse$Joint", 18, ⟨"RobotCellHouse", "within", "(III)Z"⟩, "RobotCellHouse"), ("RobotCellHouse$Floor", 110, ⟨"RobotCellHouse", "within", "(III)Z"⟩, "RobotCellHouse"), ("RobotCellHouse$Shapes", 62, ⟨"RobotCellHouse", "within", "(III)Z"⟩, "RobotCellHouse")]
def x_Ex (U : State) : Prop := (va_AO "RobotCellHouse$Joint" U ∧ va_AO "RobotCellHouse$Arm" U ∧ va_AO "RobotCellHouse$Task" U) ∧ va_AOA .int U ∧ ∀ q ∈ x_nest, va_Nw (.methodLinkNest q.1 q.2.1 q.2.2.1 q.2.2.2) U
theorem x_Ex.warm {s U : State} (hW : s.WarmedH U.vm) (h : x_Ex s) : x_Ex U := ⟨⟨h.1.1.moved hW.alike, h.1.2.1.moved hW.alike, h.1.2.2.moved hW.alike⟩, h.2.1.moved hW.alike, fun q hq => (h.2.2 q hq).warmM hW⟩
theorem x_Ex.same {u U : State} (e : u.vm = U.vm) (h : x_Ex u) : x_Ex U :=
  have ha : u.vm.Alike U.vm := by rw [e]; exact Vm.Alike.refl _
  ⟨⟨h.1.1.moved ha, h.1.2.1.moved ha, h.1.2.2.moved ha⟩, h.2.1.moved ha, fun q hq => (h.2.2 q hq).same rfl e⟩
abbrev xV : Type := Nat × Int × Int
abbrev xA : Type := List (Nat × xV)
abbrev xC : Type := Nat × Nat × Nat × xV × xA
abbrev xT : Type := List (Int × Int)
abbrev xL : Type := List (Nat × xV)
/-- pc, locals, stack, cells, bounds of the tokens, cells made, slots made -/
abbrev xS : Type := Nat × xL × List xV × List xC × xT × Nat × Nat
abbrev xK : Type := List xV × List xC × xT
abbrev xE : Type := Nat × (xS → Option (List xS)) × Nat × Nat
/-- lists walked by their own recursor: the kernel takes fewer steps so -/
def x_at {α : Type} (w : List α) : Nat → Option α := List.rec (motive := fun _ => Nat → Option α) (fun _ => none) (fun x _ ih j => Nat.rec (motive := fun _ => Option α) (some x) (fun j' _ => ih j') j) w
theorem x_at_eq {α : Type} : ∀ (w : List α) (j : Nat), x_at w j = w[j]?
  | [], j => by simp; rfl
  | _ :: _, 0 => rfl
  | x :: r, j + 1 => by rw [List.getElem?_cons_succ, ← x_at_eq r j]; rfl
def x_up {α : Type} (w : List α) : Nat → α → List α := List.rec (motive := fun _ => Nat → α → List α) (fun _ _ => []) (fun x r ih j c => Nat.rec (motive := fun _ => List α) (c :: r) (fun j' _ => x :: ih j' c) j) w
theorem x_up_eq {α : Type} : ∀ (w : List α) (j : Nat) (c : α), x_up w j c = w.set j c
  | [], j, c => by simp; rfl
  | _ :: _, 0, c => rfl
  | x :: r, j + 1, c => by rw [List.set_cons_succ, ← x_up_eq r j c]; rfl
def x_get (d : xV) (l : xA) (k : Nat) : xV := List.rec (motive := fun _ => xV) d (fun q _ ih => Bool.rec (motive := fun _ => xV) ih q.2 (Nat.beq q.1 k)) l
theorem x_get_nil (d : xV) (k : Nat) : x_get d [] k = d := rfl
theorem x_get_cons (d : xV) (q : Nat × xV) (r : xA) (k : Nat) : x_get d (q :: r) k = bif Nat.beq q.1 k then q.2 else x_get d r k := by
  unfold x_get
  cases h : Nat.beq q.1 k with
  | true => simp [h]
  | false => simp [h]
def x_eqv (x y : xV) : Bool := Nat.beq x.1 y.1 && (decide (x.2.1 = y.2.1) && decide (x.2.2 = y.2.2))
theorem x_eqv_ok {x y : xV} (h : x_eqv x y = true) : x = y := by
  obtain ⟨a, b, c⟩ := x
  obtain ⟨a', b', c'⟩ := y
  unfold x_eqv at h
  simp only [Bool.and_eq_true, decide_eq_true_eq] at h
  obtain ⟨h1, h2, h3⟩ := h
  rw [Nat.eq_of_beq_eq_true h1, h2, h3]
/-- the value v at the place k, over the default d -/
def x_put (d : xV) (l : xA) (k : Nat) (v : xV) : xA := List.rec (motive := fun _ => xA) (bif x_eqv v d then [] else [(k, v)]) (fun q r ih => Bool.rec (motive := fun _ => xA) (q :: ih) ((k, v) :: r) (Nat.beq q.1 k)) l
theorem x_put_nil (d : xV) (k : Nat) (v : xV) : x_put d [] k v = bif x_eqv v d then [] else [(k, v)] := rfl
theorem x_put_cons (d : xV) (q : Nat × xV) (r : xA) (k : Nat) (v : xV) : x_put d (q :: r) k v = bif Nat.beq q.1 k then (k, v) :: r else q :: x_put d r k v := by
  unfold x_put
  cases h : Nat.beq q.1 k with
  | true => simp [h]
  | false => simp [h]
theorem x_nb {a b : Nat} (h : a ≠ b) : Nat.beq a b = false := by
  cases e : Nat.beq a b with
  | false => rfl
  | true => exact absurd (Nat.eq_of_beq_eq_true e) h
theorem x_get_put (d : xV) (l : xA) (k : Nat) (v : xV) (j : Nat) : x_get d (x_put d l k v) j = if j = k then v else x_get d l j := by
  induction l with
  | nil =>
    simp only [x_put_nil]
    cases hb : x_eqv v d with
    | true =>
      have e := x_eqv_ok hb
      subst e
      simp [x_get_nil]
    | false =>
      simp only [cond_false, x_get_nil, x_get_cons]
      by_cases h : j = k
      · subst h; simp
      · rw [if_neg h, x_nb (Ne.symm h)]; rfl
  | cons q r ih =>
    by_cases h : q.1 = k
    · have hb : Nat.beq q.1 k = true := Nat.beq_eq.mpr h
      simp only [x_put_cons, hb, cond_true, x_get_cons]
      by_cases hj : j = k
      · subst hj; simp
      · rw [if_neg hj, x_nb (Ne.symm hj), h, x_nb (Ne.symm hj)]; rfl
    · have hb : Nat.beq q.1 k = false := x_nb h
      simp only [x_put_cons, hb, cond_false, x_get_cons, ih]
      by_cases hq : q.1 = j
      · have h9 : Nat.beq q.1 j = true := Nat.beq_eq.mpr hq
        have h8 : ¬ j = k := fun e => h (hq.trans e)
        simp [h9, h8]
      · rw [x_nb hq]; rfl
/-- what a value of the picture says of a value of the machine -/
def x_rel (ad : List Nat) (V : List Int) (sc : Nat × Nat × List Nat) (x : xV) (v : Value) : Prop := match x.1 with
  | 0 => ∃ n : Int32, v = .int n ∧ x.2.1 ≤ n.toInt ∧ n.toInt ≤ x.2.2
  | 1 => ∃ a, ad[x.2.1.toNat]? = some a ∧ v = .ref a
  | 2 => v = .null
  | 3 => ∃ n : Int32, v = .int n ∧ V[x.2.1.toNat]? = some n.toInt
  | 4 => ∃ n : Int64, v = .long n ∧ x.2.1 ≤ n.toInt ∧ n.toInt ≤ x.2.2
  | 6 => ∃ n : Int64, v = .long n ∧ V[x.2.1.toNat]? = some n.toInt
  | 10 => v = .ref sc.1 ∧ x.2.1 = (sc.2.1 : Int)
  | _ => False
def x_all2 {α β : Type} (R : α → β → Prop) : List α → List β → Prop
  | [], [] => True
  | a :: as, b :: bs => R a b ∧ x_all2 R as bs
  | _, _ => False
def x_bi (tk : xT) (x : xV) : Option (Int × Int) := match x.1 with
  | 0 => some x.2
  | 3 => x_at tk x.2.1.toNat
  | _ => none
def x_bl (tk : xT) (x : xV) : Option (Int × Int) := match x.1 with
  | 4 => some x.2
  | 6 => x_at tk x.2.1.toNat
  | _ => none
def x_tk (tk : xT) (V : List Int) : Prop := ∀ (j : Nat) (q : Int × Int), tk[j]? = some q → ∃ n, V[j]? = some n ∧ q.1 ≤ n ∧ n ≤ q.2
theorem x_bi_ok {ad : List Nat} {V : List Int} {sc : Nat × Nat × List Nat} {tk : xT} {x : xV} {q : Int × Int} {v : Value} (h : x_tk tk V) (hb : x_bi tk x = some q) (hr : x_rel ad V sc x v) : ∃ n : Int32, v = .int n ∧ q.1 ≤ n.toInt ∧ n.toInt ≤ q.2 := by
  obtain ⟨t, a, b⟩ := x
  unfold x_bi at hb
  unfold x_rel at hr
  split at hb
  · rename_i h0
    simp only at h0
    subst h0
    cases hb
    exact hr
  · rename_i h0
    simp only at h0
    subst h0
    obtain ⟨n, hv, hn⟩ := hr
    obtain ⟨n', h1, h2, h3⟩ := h _ _ ((x_at_eq _ _).symm.trans hb)
    simp only at hn h1
    rw [hn] at h1
    cases h1
    exact ⟨n, hv, h2, h3⟩
  · cases hb
theorem x_bl_ok {ad : List Nat} {V : List Int} {sc : Nat × Nat × List Nat} {tk : xT} {x : xV} {q : Int × Int} {v : Value} (h : x_tk tk V) (hb : x_bl tk x = some q) (hr : x_rel ad V sc x v) : ∃ n : Int64, v = .long n ∧ q.1 ≤ n.toInt ∧ n.toInt ≤ q.2 := by
  obtain ⟨t, a, b⟩ := x
  unfold x_bl at hb
  unfold x_rel at hr
  split at hb
  · rename_i h0
    simp only at h0
    subst h0
    cases hb
    exact hr
  · rename_i h0
    simp only at h0
    subst h0
    obtain ⟨n, hv, hn⟩ := hr
    obtain ⟨n', h1, h2, h3⟩ := h _ _ ((x_at_eq _ _).symm.trans hb)
    simp only at hn h1
    rw [hn] at h1
    cases h1
    exact ⟨n, hv, h2, h3⟩
  · cases hb
/-- a cell of the picture and a cell of the world -/
def x_cell (cl : List vw_C) (ad : List Nat) (V : List Int) (sc : Nat × Nat × List Nat) (tys : List (ClassId × FieldType)) (x : xC) (e : va_E) : Prop := match x.1 with
  | 0 => ∃ fs : List Value, e = .inr (x.2.1, fs) ∧ fs.length = x.2.2.1 ∧ ∀ k, k < x.2.2.1 → ∃ v, fs[k]? = some v ∧ x_rel ad V sc (x_get x.2.2.2.1 x.2.2.2.2 k) v
  | 1 => ∃ (t0 : Nat) (cA : ClassId) (f : Nat → Int32), tys[t0]? = some (cA, .int) ∧ e = .inl (cA, x.2.2.1, .inl f) ∧ x.2.2.1 < 2147483648 ∧ ∀ k, k < x.2.2.1 → x_rel ad V sc (x_get x.2.2.2.1 x.2.2.2.2 k) (.int (f k))
  | 2 => ∃ (t0 : Nat) (cA : ClassId) (f : Nat → Int32), tys[t0]? = some (cA, .byte) ∧ e = .inl (cA, x.2.2.1, .inl f) ∧ x.2.2.1 < 2147483648 ∧ ∀ k, k < x.2.2.1 → x_rel ad V sc (x_get x.2.2.2.1 x.2.2.2.2 k) (.int (f k))
  | 3 => ∃ (t0 : Nat) (cA : ClassId) (f : Nat → Int32), tys[t0]? = some (cA, .boolean) ∧ e = .inl (cA, x.2.2.1, .inl f) ∧ x.2.2.1 < 2147483648 ∧ ∀ k, k < x.2.2.1 → x_rel ad V sc (x_get x.2.2.2.1 x.2.2.2.2 k) (.int (f k))
  | 5 => ∃ (t0 : Nat) (cA : ClassId) (r : vw_C) (f : Nat → Option Nat), cl[x.2.1]? = some r ∧ tys[t0]? = some (cA, .object r.1) ∧ e = .inl (cA, x.2.2.1, .inr (.inr (.inr (.inr f)))) ∧ x.2.2.1 < 2147483648 ∧ ∀ k, k < x.2.2.1 → x_rel ad V sc (x_get x.2.2.2.1 x.2.2.2.2 k) (va_rf (f k))
  | 6 => ∃ (t0 : Nat) (cA : ClassId) (f : Nat → Option Nat), tys[t0]? = some (cA, .array .int) ∧ e = .inl (cA, x.2.2.1, .inr (.inr (.inr (.inr f)))) ∧ x.2.2.1 < 2147483648 ∧ ∀ k, k < x.2.2.1 → x_rel ad V sc (x_get x.2.2.2.1 x.2.2.2.2 k) (va_rf (f k))
  | _ => False
def x_world (cl : List vw_C) (V : List Int) (sc : Nat × Nat × List Nat) (tys : List (ClassId × FieldType)) (w : List xC) (ws : va_W) : Prop := w.length = ws.length ∧ (∃ l, ws.map Prod.fst = sc.2.2 ++ l) ∧ ∀ (k : Nat) (x : xC) (q : Nat × va_E), w[k]? = some x → ws[k]? = some q → x_cell cl (ws.map Prod.fst) V sc tys x q.2
/-- the picture holds of the machine -/
def x_In (cl : List vw_C) (V : List Int) (sc : Nat × Nat × List Nat) (nL : Nat) (s : State) (D : va_G) (A : Nat → Prop) (H0 : Heap) (t : xS) (ls : Array Slot) (stk : List Value) (H : Heap) (locs : List Loc) : Prop :=
  ∃ (lv : List (Nat × Value)) (ws : va_W) (tys : List (ClassId × FieldType)), lv_has ls nL lv ∧ x_all2 (fun a q => a.1 = q.1 ∧ x_rel (ws.map Prod.fst) V sc a.2 q.2) t.2.1 lv ∧ x_all2 (x_rel (ws.map Prod.fst) V sc) t.2.2.1 stk ∧
    x_world cl V sc tys t.2.2.2.1 ws ∧ va_K D cl tys s ∧ va_P D cl ws H ∧ va_D A ws ∧ va_S A H0 H locs ∧ x_tk t.2.2.2.2.1 V
def x_Good (cl : List vw_C) (V : List Int) (sc : Nat × Nat × List Nat) (nL : Nat) (p : Program) (l : Launch) (e : Env) (R : Room) (s : State) (m : MethodId) (args : Array Value) (below : List Frame) (meth : Method) (c : Code) (D : va_G) (A : Nat → Prop) (H0 : Heap) (Q : State → Prop) (t : xS) : Prop :=
  ∀ (ls : Array Slot) (stk : List Value) (H : Heap) (locs : List Loc), x_In cl V sc nL s D A H0 t ls stk H locs → W p l e R s m args below meth c H locs t.2.2.2.2.2.1 t.2.2.2.2.2.2 Q (F0 m t.1 ls stk)
end
