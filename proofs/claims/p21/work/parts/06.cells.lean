noncomputable section
/-! cells: fields, arrays, new ones -/
theorem x_rel_app {ad ad' : List Nat} {V : List Int} {sc : Nat × Nat × List Nat} {x : xV} {v : Value} (h : x_rel ad V sc x v) : x_rel (ad ++ ad') V sc x v := by
  obtain ⟨t, a, b⟩ := x
  unfold x_rel at h ⊢
  split at h <;> try exact h
  obtain ⟨q, h1, h2⟩ := h
  exact ⟨q, by rw [List.getElem?_append_left (List.getElem?_eq_some_iff.mp h1).1]; exact h1, h2⟩
theorem x_cell_mono {cl : List vw_C} {ad ad' : List Nat} {V : List Int} {sc : Nat × Nat × List Nat} {tys tys' : List (ClassId × FieldType)} {x : xC} {e : va_E} (h : x_cell cl ad V sc tys x e) : x_cell cl (ad ++ ad') V sc (tys ++ tys') x e := by
  have ht : ∀ {t0 : Nat} {q : ClassId × FieldType}, tys[t0]? = some q → (tys ++ tys')[t0]? = some q := fun h => by rw [List.getElem?_append_left (List.getElem?_eq_some_iff.mp h).1]; exact h
  obtain ⟨t, n, ln, d, o⟩ := x
  unfold x_cell at h ⊢
  split at h
  · obtain ⟨fs, h1, h2, h3⟩ := h
    exact ⟨fs, h1, h2, fun k hk => by obtain ⟨v, g1, g2⟩ := h3 k hk; exact ⟨v, g1, x_rel_app g2⟩⟩
  · obtain ⟨t0, cA, f, h1, h2, h3, h4⟩ := h
    exact ⟨t0, cA, f, ht h1, h2, h3, fun k hk => x_rel_app (h4 k hk)⟩
  · obtain ⟨t0, cA, f, h1, h2, h3, h4⟩ := h
    exact ⟨t0, cA, f, ht h1, h2, h3, fun k hk => x_rel_app (h4 k hk)⟩
  · obtain ⟨t0, cA, f, h1, h2, h3, h4⟩ := h
    exact ⟨t0, cA, f, ht h1, h2, h3, fun k hk => x_rel_app (h4 k hk)⟩
  · obtain ⟨t0, cA, r, f, h0, h1, h2, h3, h4⟩ := h
    exact ⟨t0, cA, r, f, h0, ht h1, h2, h3, fun k hk => x_rel_app (h4 k hk)⟩
  · obtain ⟨t0, cA, f, h1, h2, h3, h4⟩ := h
    exact ⟨t0, cA, f, ht h1, h2, h3, fun k hk => x_rel_app (h4 k hk)⟩
  · exact h.elim
theorem x_fst_set {ws : va_W} {k a : Nat} {e0 e : va_E} (h : ws[k]? = some (a, e0)) : (ws.set k (a, e)).map Prod.fst = ws.map Prod.fst := by
  rw [List.map_set]
  apply List.ext_getElem?
  intro i
  rw [List.getElem?_set]
  split
  · rename_i hi
    subst hi
    have hl := (List.getElem?_eq_some_iff.mp h).1
    rw [List.length_map, if_pos hl, List.getElem?_map, h]
    rfl
  · rfl
theorem x_world_set {cl : List vw_C} {V : List Int} {sc : Nat × Nat × List Nat} {tys : List (ClassId × FieldType)} {w : List xC} {ws : va_W} {k a : Nat} {e0 e : va_E} {x : xC} (h : x_world cl V sc tys w ws) (hk : ws[k]? = some (a, e0)) (hx : x_cell cl (ws.map Prod.fst) V sc tys x e) : x_world cl V sc tys (x_up w k x) (ws.set k (a, e)) := by
  rw [x_up_eq]
  refine ⟨by rw [List.length_set, List.length_set]; exact h.1, by rw [x_fst_set hk]; exact h.2.1, fun j y q hy hq => ?_⟩
  rw [x_fst_set hk]
  rw [List.getElem?_set] at hy hq
  split at hy
  · rename_i hj
    subst hj
    rw [if_pos rfl] at hq
    split at hy
    · split at hq
      · cases hy; cases hq; exact hx
      · cases hq
    · cases hy
  · rename_i hj
    rw [if_neg hj] at hq
    exact h.2.2 j y q hy hq
theorem x_world_app {cl : List vw_C} {V : List Int} {sc : Nat × Nat × List Nat} {tys tys' : List (ClassId × FieldType)} {w w' : List xC} {ws ws' : va_W} (h : x_world cl V sc tys w ws) (hl : w'.length = ws'.length) (hx : ∀ (k : Nat) (x : xC) (q : Nat × va_E), w'[k]? = some x → ws'[k]? = some q → x_cell cl ((ws ++ ws').map Prod.fst) V sc (tys ++ tys') x q.2) : x_world cl V sc (tys ++ tys') (w ++ w') (ws ++ ws') := by
  refine ⟨by rw [List.length_append, List.length_append, h.1, hl], by obtain ⟨l, e⟩ := h.2.1; exact ⟨l ++ ws'.map Prod.fst, by rw [List.map_append, e, List.append_assoc]⟩, fun j y q hy hq => ?_⟩
  by_cases hj : j < w.length
  · rw [List.getElem?_append_left hj] at hy
    rw [List.getElem?_append_left (by rw [← h.1]; exact hj)] at hq
    rw [List.map_append]
    exact x_cell_mono (h.2.2 j y q hy hq)
  · rw [List.getElem?_append_right (by omega)] at hy
    rw [List.getElem?_append_right (by rw [← h.1]; omega)] at hq
    rw [← h.1] at hq
    exact hx _ y q hy hq
theorem x_stk_app {ad ad' : List Nat} {V : List Int} {sc : Nat × Nat × List Nat} {st : List xV} {stk : List Value} (h : x_all2 (x_rel ad V sc) st stk) : x_all2 (x_rel (ad ++ ad') V sc) st stk := x_all2_imp (fun _ _ h => x_rel_app h) h
theorem x_lv_app {ad ad' : List Nat} {V : List Int} {sc : Nat × Nat × List Nat} {al : xL} {lv : List (Nat × Value)} (h : x_all2 (fun a q => a.1 = q.1 ∧ x_rel ad V sc a.2 q.2) al lv) : x_all2 (fun a q => a.1 = q.1 ∧ x_rel (ad ++ ad') V sc a.2 q.2) al lv := x_all2_imp (fun _ _ h => ⟨h.1, x_rel_app h.2⟩) h
/-- a reference leads to a cell of the world -/
theorem x_ref {cl : List vw_C} {V : List Int} {sc : Nat × Nat × List Nat} {tys : List (ClassId × FieldType)} {w : List xC} {ws : va_W} {j b : Int} {v : Value} {x : xC} (h : x_world cl V sc tys w ws) (hr : x_rel (ws.map Prod.fst) V sc (1, j, b) v) (hx : x_at w j.toNat = some x) : ∃ a e, ws[j.toNat]? = some (a, e) ∧ v = .ref a ∧ x_cell cl (ws.map Prod.fst) V sc tys x e := by
  rw [x_at_eq] at hx
  obtain ⟨a, h1, h2⟩ := hr
  simp only [List.getElem?_map, Option.map_eq_some_iff] at h1
  obtain ⟨q, hq, rfl⟩ := h1
  exact ⟨q.1, q.2, hq, h2, h.2.2 _ x q hx hq⟩
-- what a row of the kit gives
section XW6
variable (cl : List vw_C) (cc : ByteArray) (own : String) (nL : Nat) (nm : String) (MC MS pc nx : Nat)
def x_Gf (ci k : Nat) : Prop := ∀ {p : Program} {l : Launch} {e : Env} {R : Room} {s : State} {m : MethodId} {args : Array Value} {below : List Frame} {meth : Method} {c : Code}, x_Cx cc own nL nm MC MS p R s m args meth c → ∀ {H : Heap} {locs : List Loc} {cells slots : Nat} {Q : State → Prop} {ls : Array Slot} {rest : List Value} {D : va_G} {tys : List (ClassId × FieldType)} {ws : va_W} {a q0 : Nat} {fs : List Value} {v : Value},
  va_K D cl tys s → va_P D cl ws H → ws[q0]? = some (a, .inr (ci, fs)) → fs[k]? = some v → W p l e R s m args below meth c H locs cells slots Q (F0 m nx ls (v :: rest)) → W p l e R s m args below meth c H locs cells slots Q (F0 m pc ls (.ref a :: rest))
/-- what may stand in a field: 0 an int, 1 a boolean, 2 a reference -/
def x_pk (fk : Nat) (v : Value) : Prop := match fk with
  | 0 => ∃ n, v = .int n
  | 1 => v = .int 0 ∨ v = .int 1
  | _ => v = .null ∨ ∃ a, v = .ref a
def x_Pf (ci k fk : Nat) : Prop := ∀ {p : Program} {l : Launch} {e : Env} {R : Room} {s : State} {m : MethodId} {args : Array Value} {below : List Frame} {meth : Method} {c : Code}, x_Cx cc own nL nm MC MS p R s m args meth c → ∀ {H H0 : Heap} {locs : List Loc} {cells slots : Nat} {Q : State → Prop} {ls : Array Slot} {rest : List Value} {D : va_G} {A : Nat → Prop} {tys : List (ClassId × FieldType)} {ws : va_W} {a q0 : Nat} {fs : List Value} {v : Value},
  va_K D cl tys s → va_P D cl ws H → va_D A ws → va_S A H0 H locs → ws[q0]? = some (a, .inr (ci, fs)) → k < fs.length → x_pk fk v → (∀ (H1 : Heap) (locs1 : List Loc), va_P D cl (ws.set q0 (a, .inr (ci, fs.set k v))) H1 → va_D A (ws.set q0 (a, .inr (ci, fs.set k v))) → va_S A H0 H1 locs1 → W p l e R s m args below meth c H1 locs1 cells slots Q (F0 m nx ls rest)) → W p l e R s m args below meth c H locs cells slots Q (F0 m pc ls (v :: .ref a :: rest))
def x_Nw (ci N : Nat) (fs : List Value) : Prop := ∀ {p : Program} {l : Launch} {e : Env} {R : Room} {s : State} {m : MethodId} {args : Array Value} {below : List Frame} {meth : Method} {c : Code}, x_Cx cc own nL nm MC MS p R s m args meth c → ∀ {H H0 : Heap} {locs : List Loc} {cells slots : Nat} {Q : State → Prop} {ls : Array Slot} {rest : List Value} {D : va_G} {A : Nat → Prop} {tys : List (ClassId × FieldType)} {ws : va_W}, (∀ q : Nat, H0.size ≤ q → A q) →
  va_K D cl tys s → va_P D cl ws H → va_D A ws → va_S A H0 H locs → cells + 1 ≤ MC → slots + N ≤ MS → (∀ (q : Nat) (H1 : Heap), va_P D cl (ws ++ [(q, .inr (ci, fs))]) H1 → va_D A (ws ++ [(q, .inr (ci, fs))]) → va_S A H0 H1 locs → W p l e R s m args below meth c H1 locs (cells + 1) (slots + N) Q (F0 m nx ls (.ref q :: rest))) → W p l e R s m args below meth c H locs cells slots Q (F0 m pc ls rest)
end XW6
def xi_getf (ci k nx : Nat) : xS → Option (List xS) := fun t => match t.2.2.1 with
  | (1, j, _) :: r => match x_at t.2.2.2.1 j.toNat with
    | some (0, c, n, d, o) => bif Nat.beq c ci && Nat.ble (k + 1) n then some [(nx, t.2.1, x_get d o k :: r, t.2.2.2)] else none
    | _ => none
  | _ => none
def x_pkb (tk : xT) (fk : Nat) (x : xV) : Bool := match fk with
  | 0 => Nat.beq (x_ty x) 0
  | 1 => match x_bi tk x with
    | some a => decide (0 ≤ a.1) && decide (a.2 ≤ 1)
    | none => false
  | _ => Nat.beq (x_ty x) 2
theorem x_pkb_ok {ad : List Nat} {V : List Int} {sc : Nat × Nat × List Nat} {tk : xT} {fk : Nat} {x : xV} {v : Value} (ht : x_tk tk V) (hr : x_rel ad V sc x v) (h : x_pkb tk fk x = true) : x_pk fk v := by
  unfold x_pkb at h
  unfold x_pk
  split at h
  · have := x_ty_ok hr
    rw [Nat.eq_of_beq_eq_true h] at this
    exact this
  · split at h
    · rename_i a ha
      obtain ⟨n, rfl, h1, h2⟩ := x_bi_ok ht ha hr
      simp only [Bool.and_eq_true, decide_eq_true_eq] at h
      have h3 : n.toInt = 0 ∨ n.toInt = 1 := by omega
      rcases h3 with h3 | h3
      · exact Or.inl (by rw [show n = 0 from Int32.toInt_inj.mp h3])
      · exact Or.inr (by rw [show n = 1 from Int32.toInt_inj.mp h3])
    · cases h
  · have := x_ty_ok hr
    rw [Nat.eq_of_beq_eq_true h] at this
    exact this
def xi_putf (ci k fk nx : Nat) : xS → Option (List xS) := fun t => match t.2.2.1 with
  | x :: (1, j, _) :: r => match x_at t.2.2.2.1 j.toNat with
    | some (0, c, n, d, o) => bif Nat.beq c ci && (Nat.ble (k + 1) n && x_pkb t.2.2.2.2.1 fk x) then some [(nx, t.2.1, r, x_up t.2.2.2.1 j.toNat (0, c, n, d, x_put d o k x), t.2.2.2.2)] else none
    | _ => none
  | _ => none
def xi_new (nc : xC) (MC MS nx : Nat) : xS → Option (List xS) := fun t =>
  bif Nat.ble (t.2.2.2.2.2.1 + 1) MC && Nat.ble (t.2.2.2.2.2.2 + nc.2.2.1) MS then some [(nx, t.2.1, (1, t.2.2.2.1.length, 0) :: t.2.2.1, t.2.2.2.1 ++ [nc], t.2.2.2.2.1, t.2.2.2.2.2.1 + 1, t.2.2.2.2.2.2 + nc.2.2.1)] else none
section X6
variable {cl : List vw_C} {K : xKx} {cc : ByteArray} {own : String} {nL : Nat} {nm : String} {MC MS pc nx : Nat}
theorem xi_getf_ok {ci k : Nat} (hw : x_Gf cl cc own nL nm MC MS pc nx ci k) : x_Snd cl K cc own nL nm MC MS pc (xi_getf ci k nx) := by
  intro V sc p l e R s m args below meth c D A H0 Q C hA hK t ts hpc hf hg
  unfold xi_getf at hf
  split at hf
  · rename_i j b r hst
    split at hf
    · rename_i c' n d o hcell
      cases hb : (Nat.beq c' ci && Nat.ble (k + 1) n) with
      | false => rw [hb] at hf; cases hf
      | true =>
        rw [hb] at hf
        cases hf
        subst hpc
        simp only [Bool.and_eq_true] at hb
        have e1 := Nat.eq_of_beq_eq_true hb.1
        have e2 := Nat.le_of_ble_eq_true hb.2
        subst e1
        intro ls stk H locs ⟨lv, ws, tys, h1, h2, h3, h4, h5, h6, h7, h8, h9⟩
        rw [hst] at h3
        match stk, h3 with
        | v1 :: rest, h3 =>
          obtain ⟨a, ee, hq, rfl, hc⟩ := x_ref h4 h3.1 hcell
          obtain ⟨fs, rfl, hl, hv⟩ := hc
          obtain ⟨v, hv1, hv2⟩ := hv k e2
          exact hw C h5 h6 hq hv1 (hg _ List.mem_cons_self ls (v :: rest) H locs ⟨lv, ws, tys, h1, h2, ⟨hv2, h3.2⟩, h4, h5, h6, h7, h8, h9⟩)
    · cases hf
  · cases hf
theorem xi_putf_ok {ci k fk : Nat} (hw : x_Pf cl cc own nL nm MC MS pc nx ci k fk) : x_Snd cl K cc own nL nm MC MS pc (xi_putf ci k fk nx) := by
  intro V sc p l e R s m args below meth c D A H0 Q C hA hK t ts hpc hf hg
  unfold xi_putf at hf
  split at hf
  · rename_i x j b r hst
    split at hf
    · rename_i c' n d o hcell
      cases hb : (Nat.beq c' ci && (Nat.ble (k + 1) n && x_pkb t.2.2.2.2.1 fk x)) with
      | false => rw [hb] at hf; cases hf
      | true =>
        rw [hb] at hf
        cases hf
        subst hpc
        simp only [Bool.and_eq_true] at hb
        have e1 := Nat.eq_of_beq_eq_true hb.1
        have e2 := Nat.le_of_ble_eq_true hb.2.1
        subst e1
        intro ls stk H locs ⟨lv, ws, tys, h1, h2, h3, h4, h5, h6, h7, h8, h9⟩
        rw [hst] at h3
        match stk, h3 with
        | v0 :: v1 :: rest, h3 =>
          obtain ⟨a, ee, hq, rfl, hc⟩ := x_ref h4 h3.2.1 hcell
          obtain ⟨fs, rfl, hl, hv⟩ := hc
          simp only at hl hv hq
          refine hw C h5 h6 h7 h8 hq (by rw [hl]; exact e2) (x_pkb_ok h9 h3.1 hb.2.2) (fun H1 locs1 hP hD hS => hg _ List.mem_cons_self ls rest H1 locs1 ⟨lv, _, tys, h1, ?_, ?_, x_world_set h4 hq ?_, h5, hP, hD, hS, h9⟩)
          · rw [x_fst_set hq]; exact h2
          · rw [x_fst_set hq]; exact h3.2.2
          · refine ⟨fs.set k v0, rfl, by rw [List.length_set]; exact hl, fun i hi => ?_⟩
            simp only at hi
            simp only [x_get_put]
            by_cases hik : i = k
            · subst hik
              exact ⟨v0, by rw [List.getElem?_set_self (by rw [hl]; exact hi)], by rw [if_pos rfl]; exact h3.1⟩
            · obtain ⟨v, g1, g2⟩ := hv i hi
              exact ⟨v, by rw [List.getElem?_set_ne (Ne.symm hik)]; exact g1, by rw [if_neg hik]; exact g2⟩
    · cases hf
  · cases hf
theorem xi_new_ok {nc : xC} {ci N : Nat} {fs : List Value} (hn : nc.2.2.1 = N) (hc : ∀ ad V sc tys, x_cell cl ad V sc tys nc (.inr (ci, fs))) (hw : x_Nw cl cc own nL nm MC MS pc nx ci N fs) : x_Snd cl K cc own nL nm MC MS pc (xi_new nc MC MS nx) := by
  intro V sc p l e R s m args below meth c D A H0 Q C hA hK t ts hpc hf hg
  unfold xi_new at hf
  cases hb : (Nat.ble (t.2.2.2.2.2.1 + 1) MC && Nat.ble (t.2.2.2.2.2.2 + nc.2.2.1) MS) with
  | false => rw [hb] at hf; cases hf
  | true =>
    rw [hb] at hf
    cases hf
    subst hpc
    subst hn
    simp only [Bool.and_eq_true] at hb
    intro ls stk H locs ⟨lv, ws, tys, h1, h2, h3, h4, h5, h6, h7, h8, h9⟩
    refine hw C hA h5 h6 h7 h8 (Nat.le_of_ble_eq_true hb.1) (Nat.le_of_ble_eq_true hb.2) (fun q H1 hP hD hS => hg _ List.mem_cons_self ls (.ref q :: stk) H1 locs ⟨lv, _, tys, h1, ?_, ⟨?_, ?_⟩, ?_, h5, hP, hD, hS, h9⟩)
    · rw [List.map_append]; exact x_lv_app h2
    · refine ⟨q, ?_, rfl⟩
      simp only [Int.toNat_natCast]
      rw [h4.1]
      simp
    · rw [List.map_append]; exact x_stk_app h3
    · have h := x_world_app (tys' := []) (w' := [nc]) (ws' := [(q, .inr (ci, fs))]) h4 rfl (fun k x y hx hy => by
        have hk : k < 1 := (List.getElem?_eq_some_iff.mp hx).1
        rw [show k = 0 by omega] at hx hy
        cases hx
        cases hy
        exact hc _ _ _ _)
      rw [List.append_nil] at h
      exact h
end X6
end
