/-! tables as trees -/
def x_nof : xS → Option (List xS) := fun _ => none
def x_e7 : xE := (7, x_nof, 0, 0)
def x_T (k : Nat) (a b : Nat → xE) : Nat → xE := fun pc => bif Nat.ble pc k then a pc else b pc
def x_L (k : Nat) (e : xE) : Nat → xE := fun pc => bif Nat.beq pc k then e else x_e7
theorem x_Tok {P : Nat → xE → Prop} {k : Nat} {a b : Nat → xE} (ha : ∀ pc, P pc (a pc)) (hb : ∀ pc, P pc (b pc)) : ∀ pc, P pc (x_T k a b pc) := fun pc => by
  unfold x_T
  cases Nat.ble pc k with
  | true => exact ha pc
  | false => exact hb pc
theorem x_Lok {cl : List vw_C} {K : xKx} {I : Nat → xM} {q : xM} {k : Nat} {e : xE} (h : x_EOq cl K I q k e) : ∀ pc, x_EOq cl K I q pc (x_L k e pc) := fun pc => by
  unfold x_L
  cases hb : Nat.beq pc k with
  | true =>
    have := Nat.eq_of_beq_eq_true hb
    subst this
    exact h
  | false => exact trivial
theorem x_Tok2 {cl : List vw_C} {K : xKx} {I : Nat → xM} {q : xM} {k : Nat} {a b : Nat → xE} (ha : ∀ pc, x_EOq cl K I q pc (a pc)) (hb : ∀ pc, x_EOq cl K I q pc (b pc)) : ∀ pc, x_EOq cl K I q pc (x_T k a b pc) := x_Tok (P := fun pc e => x_EOq cl K I q pc e) ha hb
/-- words by their places, in one walk -/
def x_walk : List Nat → List Cond → List Cond
  | [], _ => []
  | g :: gs, l => match l.drop g with
    | w :: r => w :: x_walk gs r
    | [] => []
theorem x_walk_in : ∀ (gs : List Nat) (l : List Cond), ∀ w ∈ x_walk gs l, w ∈ l
  | [], _, w, h => absurd h List.not_mem_nil
  | g :: gs, l, w, h => by
    unfold x_walk at h
    split at h
    · rename_i w0 r hd
      have hr : ∀ x, x ∈ w0 :: r → x ∈ l := fun x hx => List.mem_of_mem_drop (hd ▸ hx)
      rcases List.mem_cons.mp h with rfl | h
      · exact hr _ List.mem_cons_self
      · exact hr _ (List.mem_cons_of_mem _ (x_walk_in gs r w h))
    · exact absurd h List.not_mem_nil
theorem x_words {gs : List Nat} {ws big : List Cond} (h : x_walk gs big = ws) : ∀ w ∈ ws, w ∈ big := fun w hw => x_walk_in gs big w (h ▸ hw)
theorem x_pick {ws big : List Cond} {w : Cond} (hin : ∀ w ∈ ws, w ∈ big) (i : Nat) (h : ws[i]? = some w) : w ∈ big := hin w (List.mem_of_getElem? h)
theorem x_all_pieces {f : Cond → Bool} {a b : List Cond} (ha : a.all f = true) (hb : b.all f = true) : (a ++ b).all f = true := by rw [List.all_append, ha, hb]; rfl
theorem x_places {big ws : List Cond} (ps : List Nat) (hp : ws = ps.filterMap (fun i => big[i]?)) : ∀ w ∈ ws, w ∈ big := fun w hw => by
  rw [hp] at hw
  obtain ⟨i, -, hi⟩ := List.mem_filterMap.mp hw
  exact List.mem_of_getElem? hi
/-- many decodings in one check -/
theorem x_dk {c : ByteArray} {L : List (Nat × Instr × Nat)} (h : L.all (fun q => decide (decode c q.1 = .ok (q.2.1, q.2.2))) = true) (i : Nat) {pc len : Nat} {ins : Instr} (hi : L[i]? = some (pc, ins, len)) : decode c pc = .ok (ins, len) := by
  have := List.all_eq_true.mp h _ (List.mem_of_getElem? hi)
  simpa using this
