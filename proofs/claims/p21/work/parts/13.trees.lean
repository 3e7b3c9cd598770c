noncomputable section
/-! tables as trees -/
def x_nof : xS → Option (List xS) := fun _ => none
def x_e7 : xE := (7, x_nof, 0, 0)
def x_T (k : Nat) (a b : Nat → xE) : Nat → xE := fun pc => bif Nat.ble pc k then a pc else b pc
def x_L (k : Nat) (e : xE) : Nat → xE := fun pc => bif Nat.beq pc k then e else x_e7
theorem x_Tok {P : Nat → xE → Prop} {k : Nat} {a b : Nat → xE} (ha : ∀ pc, P pc (a pc)) (hb : ∀ pc, P pc (b pc)) : ∀ pc, P pc (x_T k a b pc) := fun pc => by
  unfold x_T
  cases Nat.ble pc k with
  | true => exact ha pc
  | false => exact hb pc
theorem x_Lok {cl : List vw_C} {K : xKx} {I : Nat → xM} {q : xM} {k : Nat} {e : xE} (h : x_EOq cl K I q k e) : ∀ pc, x_EOq cl K I q pc (x_L k e pc) := fun pc => by
  unfold x_L
  cases hb : Nat.beq pc k with
  | true =>
    have := Nat.eq_of_beq_eq_true hb
    subst this
    exact h
  | false => exact trivial
theorem x_Tok2 {cl : List vw_C} {K : xKx} {I : Nat → xM} {q : xM} {k : Nat} {a b : Nat → xE} (ha : ∀ pc, x_EOq cl K I q pc (a pc)) (hb : ∀ pc, x_EOq cl K I q pc (b pc)) : ∀ pc, x_EOq cl K I q pc (x_T k a b pc) := x_Tok (P := fun pc e => x_EOq cl K I q pc e) ha hb
/-- words by their places, in one walk -/
def x_walk : List Nat → List Cond → List Cond
  | [], _ => []
  | g :: gs, l => match l.drop g with
    | w :: r => w :: x_walk gs r
    | [] => []
theorem x_walk_in : ∀ (gs : List Nat) (l : List Cond), ∀ w ∈ x_walk gs l, w ∈ l
  | [], _, w, h => absurd h List.not_mem_nil
  | g :: gs, l, w, h => by
    unfold x_walk at h
    split at h
    · rename_i w0 r hd
      have hr : ∀ x, x ∈ w0 :: r → x ∈ l := fun x hx => List.mem_of_mem_drop (hd ▸ hx)
      rcases List.mem_cons.mp h with rfl | h
      · exact hr _ List.mem_cons_self
      · exact hr _ (List.mem_cons_of_mem _ (x_walk_in gs r w h))
    · exact absurd h List.not_mem_nil
theorem x_words {gs : List Nat} {ws big : List Cond} (h : x_walk gs big = ws) : ∀ w ∈ ws, w ∈ big := fun w hw => x_walk_in gs big w (h ▸ hw)
theorem x_pick {ws big : List Cond} {w : Cond} (hin : ∀ w ∈ ws, w ∈ big) (i : Nat) (h : ws[i]? = some w) : w ∈ big := hin w (List.mem_of_getElem? h)
theorem x_all_pieces {f : Cond → Bool} {a b : List Cond} (ha : a.all f = true) (hb : b.all f = true) : (a ++ b).all f = true := by rw [List.all_append, ha, hb]; rfl
theorem x_places {big ws : List Cond} (ps : List Nat) (hp : ws = ps.filterMap (fun i => big[i]?)) : ∀ w ∈ ws, w ∈ big := fun w hw => by
  rw [hp] at hw
  obtain ⟨i, -, hi⟩ := List.mem_filterMap.mp hw
  exact List.mem_of_getElem? hi
/-- many decodings in one check -/
theorem x_dk {c : ByteArray} {L : List (Nat × Instr × Nat)} (h : L.all (fun q => decide (decode c q.1 = .ok (q.2.1, q.2.2))) = true) (i : Nat) {pc len : Nat} {ins : Instr} (hi : L[i]? = some (pc, ins, len)) : decode c pc = .ok (ins, len) := by
  have := List.all_eq_true.mp h _ (List.mem_of_getElem? hi)
  simpa using this
def x_TI (k : Nat) (a b : Nat → xM) : Nat → xM := fun M => bif Nat.ble M k then a M else b M
def x_TC (k : Nat) (a b : Nat → Nat → xE) : Nat → Nat → xE := fun M => bif Nat.ble M k then a M else b M
theorem x_st {cl : List vw_C} {K : xKx} {I : Nat → xM} {q : xM} {pc : Nat} {f : xS → Option (List xS)} (h : x_Snd cl K (xm_b q) (xm_y q).cls (xm_l q) (xm_y q).name (xm_c q) (xm_s q) pc f) : x_EOq cl K I q pc (0, f, 0, 0) := h
theorem x_rt {cl : List vw_C} {K : xKx} {I : Nat → xM} {q : xM} {pc k : Nat} (h : x_Rt (xm_b q) (xm_r q) pc k) : x_EOq cl K I q pc (1, x_nof, k, 0) := h
theorem x_ca {cl : List vw_C} {K : xKx} {I : Nat → xM} {q q' : xM} {pc M' na : Nat} (e : I M' = q') (h : x_Cl (xm_b q) (xm_y q).cls (xm_l q) (xm_y q).name (xm_c q) (xm_s q) pc q' na) : x_EOq cl K I q pc (2, x_nof, M', na) := by
  show x_Cl _ _ _ _ _ _ _ (I M') na
  rw [e]
  exact h
/-- a tableswitch's ranges, checked -/
def x_tswB (pc : Nat) (dflt lo : Int) (n : Nat) (offs : Array Int) (l : List (Int × Int × Nat)) : Bool :=
  l.any (fun q => decide (q.1 = -2147483648) && (decide (q.2.1 = lo - 1) && decide ((pc : Int) + dflt = (q.2.2 : Int)))) &&
  (l.any (fun q => decide (q.1 = lo + n) && (decide (q.2.1 = 2147483647) && decide ((pc : Int) + dflt = (q.2.2 : Int)))) &&
  (List.range n).all (fun j => l.any (fun q => decide (q.1 = lo + j) && (decide (q.2.1 = lo + j) && decide (offs[j]?.map (fun o => (pc : Int) + o) = some (q.2.2 : Int))))))
theorem xr_tswB {cl : List vw_C} {K : xKx} {cc : ByteArray} {own : String} {nL : Nat} {nm : String} {MC MS pc : Nat} {dflt lo hi : Int} {offs : Array Int} {len n : Nat} {l : List (Int × Int × Nat)} (d : decode cc pc = .ok (.tableswitch dflt lo hi offs, len)) (hn : hi + 1 = lo + n) (h : x_tswB pc dflt lo n offs l = true) : x_Snd cl K cc own nL nm MC MS pc (xi_sw l) := by
  unfold x_tswB at h
  simp only [Bool.and_eq_true, List.any_eq_true, List.all_eq_true, decide_eq_true_eq] at h
  obtain ⟨⟨q1, h1, a1, a2, a3⟩, ⟨q2, h2, b1, b2, b3⟩, h3⟩ := h
  refine xr_tsw d ⟨q1, h1, a1, a2, a3⟩ ⟨q2, h2, by omega, b2, b3⟩ (fun j hj => ?_)
  obtain ⟨q, hq, c1, c2, c3⟩ := h3 j (List.mem_range.mpr (by omega))
  cases ho : offs[j]? with
  | none => rw [ho] at c3; cases c3
  | some off =>
    rw [ho] at c3
    exact ⟨q, hq, c1, c2, off, rfl, Option.some.inj c3⟩
end
