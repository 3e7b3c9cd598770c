noncomputable section
/-! arrays of references, lengths, new arrays, the stack, switches -/
section XW8
variable (cl : List vw_C) (cc : ByteArray) (own : String) (nL : Nat) (nm : String) (MC MS pc nx : Nat)
def x_Aq : Prop := ∀ {p : Program} {l : Launch} {e : Env} {R : Room} {s : State} {m : MethodId} {args : Array Value} {below : List Frame} {meth : Method} {c : Code}, x_Cx cc own nL nm MC MS p R s m args meth c → ∀ {H : Heap} {locs : List Loc} {cells slots : Nat} {Q : State → Prop} {ls : Array Slot} {rest : List Value} {D : va_G} {tys : List (ClassId × FieldType)} {ws : va_W} {a q0 t0 n : Nat} {cA : ClassId} {f : Nat → Option Nat} {i : Int32} {ty : FieldType}, ty.isReference = true →
  va_K D cl tys s → va_P D cl ws H → ws[q0]? = some (a, .inl (cA, n, .inr (.inr (.inr (.inr f))))) → tys[t0]? = some (cA, ty) → vp_in i n → W p l e R s m args below meth c H locs cells slots Q (F0 m nx ls (va_rf (f i.toNatClampNeg) :: rest)) → W p l e R s m args below meth c H locs cells slots Q (F0 m pc ls (.int i :: .ref a :: rest))
theorem x_aald {p : Program} {l : Launch} {e : Env} {R : Room} {s : State} {m : MethodId} {args : Array Value} {below : List Frame} {meth : Method} {c : Code} {H : Heap} {locs : List Loc} {cells slots : Nat} {Q : State → Prop} {ls : Array Slot} {rest : List Value} {D : va_G} {tys : List (ClassId × FieldType)} {ws : va_W} {a : Nat} {cl : List vw_C} {cc : ByteArray} {pc : Nat} (hexec : p.tables.exec = Jvm.exec) (hb : c.code = cc) (hK : va_K D cl tys s) (hP : va_P D cl ws H) (q0 t0 : Nat) {cA : ClassId} {ty : FieldType} (hty : ty.isReference = true) {n : Nat} {f : Nat → Option Nat} (ha : ws[q0]? = some (a, .inl (cA, n, .inr (.inr (.inr (.inr f)))))) (ht : tys[t0]? = some (cA, ty)) {i : Int32} (hin : vp_in i n) (hdg : decode cc pc = .ok (.aaload, 1))
    (kk : W p l e R s m args below meth c H locs cells slots Q (F0 m (pc + 1) ls (va_rf (f i.toNatClampNeg) :: rest))) : W p l e R s m args below meth c H locs cells slots Q (F0 m pc ls (.int i :: .ref a :: rest)) := by
  have hlt : i.toNatClampNeg < n := Nat.not_le.mp fun q => hin (Or.inr q)
  exact W.aald (v := va_rf (f i.toNatClampNeg)) (ty := ty) hexec hb (hP q0 _ ha) ((hK.2 t0 _ ht).1 n (fun j => va_rf (f j))) hty (fun q => by cases q) (by show ¬ (i < 0 ∨ (arrV _ _ _).slots.size ≤ _); rw [arrV_size]; exact hin) (by show (arrV _ _ _).slots[_]? = _; rw [arrV_read _ _ hlt]) rfl rfl hdg kk
def x_Aa : Prop := ∀ {p : Program} {l : Launch} {e : Env} {R : Room} {s : State} {m : MethodId} {args : Array Value} {below : List Frame} {meth : Method} {c : Code}, x_Cx cc own nL nm MC MS p R s m args meth c → ∀ {H H0 : Heap} {locs : List Loc} {cells slots : Nat} {Q : State → Prop} {ls : Array Slot} {rest : List Value} {D : va_G} {A : Nat → Prop} {tys : List (ClassId × FieldType)} {ws : va_W} {a q0 t0 qk ci n v : Nat} {vs : List Value} {cA : ClassId} {r : vw_C} {f : Nat → Option Nat} {i : Int32},
  va_K D cl tys s → va_P D cl ws H → va_D A ws → va_S A H0 H locs → ws[q0]? = some (a, .inl (cA, n, .inr (.inr (.inr (.inr f))))) → tys[t0]? = some (cA, .object r.1) → ws[qk]? = some (v, .inr (ci, vs)) → cl[ci]? = some r → vp_in i n → (∀ (H1 : Heap) (locs1 : List Loc), va_P D cl (ws.set q0 (a, .inl (cA, n, .inr (.inr (.inr (.inr (va_up f i.toNatClampNeg (some v)))))))) H1 → va_D A (ws.set q0 (a, .inl (cA, n, .inr (.inr (.inr (.inr (va_up f i.toNatClampNeg (some v)))))))) → va_S A H0 H1 locs1 → W p l e R s m args below meth c H1 locs1 cells slots Q (F0 m nx ls rest)) → W p l e R s m args below meth c H locs cells slots Q (F0 m pc ls (.ref v :: .int i :: .ref a :: rest))
def x_Ln : Prop := ∀ {p : Program} {l : Launch} {e : Env} {R : Room} {s : State} {m : MethodId} {args : Array Value} {below : List Frame} {meth : Method} {c : Code}, x_Cx cc own nL nm MC MS p R s m args meth c → ∀ {H : Heap} {locs : List Loc} {cells slots : Nat} {Q : State → Prop} {ls : Array Slot} {rest : List Value} {D : va_G} {tys : List (ClassId × FieldType)} {ws : va_W} {a q0 t0 : Nat} {cA : ClassId} {x : vp_A} {ty : FieldType},
  va_K D cl tys s → va_P D cl ws H → ws[q0]? = some (a, .inl (cA, x)) → tys[t0]? = some (cA, ty) → W p l e R s m args below meth c H locs cells slots Q (F0 m nx ls (.int (Int32.ofNat x.1) :: rest)) → W p l e R s m args below meth c H locs cells slots Q (F0 m pc ls (.ref a :: rest))
/-- a new array of numbers -/
def x_Na (ty : FieldType) : Prop := ∀ {p : Program} {l : Launch} {e : Env} {R : Room} {s : State} {m : MethodId} {args : Array Value} {below : List Frame} {meth : Method} {c : Code}, x_Cx cc own nL nm MC MS p R s m args meth c → ∀ {H H0 : Heap} {locs : List Loc} {cells slots : Nat} {Q : State → Prop} {ls : Array Slot} {rest : List Value} {D : va_G} {A : Nat → Prop} {tys : List (ClassId × FieldType)} {ws : va_W} {n : Int32} {N : Nat}, (∀ q : Nat, H0.size ≤ q → A q) →
  va_K D cl tys s → va_P D cl ws H → va_D A ws → va_S A H0 H locs → ¬ n < 0 → n.toNatClampNeg = N → N ≤ 67108864 → cells + 1 ≤ MC → slots + N ≤ MS → (∀ (q : Nat) (cA : ClassId) (H1 : Heap), va_K D cl (tys ++ [(cA, ty)]) s → va_P D cl (ws ++ [(q, .inl (cA, N, .inl (fun _ => 0)))]) H1 → va_D A (ws ++ [(q, .inl (cA, N, .inl (fun _ => 0)))]) → va_S A H0 H1 locs → W p l e R s m args below meth c H1 locs (cells + 1) (slots + N) Q (F0 m nx ls (.ref q :: rest))) → W p l e R s m args below meth c H locs cells slots Q (F0 m pc ls (.int n :: rest))
/-- a new array of references -/
def x_Nq (C : String) : Prop := ∀ {p : Program} {l : Launch} {e : Env} {R : Room} {s : State} {m : MethodId} {args : Array Value} {below : List Frame} {meth : Method} {c : Code}, x_Cx cc own nL nm MC MS p R s m args meth c → ∀ {H H0 : Heap} {locs : List Loc} {cells slots : Nat} {Q : State → Prop} {ls : Array Slot} {rest : List Value} {D : va_G} {A : Nat → Prop} {tys : List (ClassId × FieldType)} {ws : va_W} {n : Int32} {N : Nat}, (∀ q : Nat, H0.size ≤ q → A q) →
  va_K D cl tys s → va_P D cl ws H → va_D A ws → va_S A H0 H locs → ¬ n < 0 → n.toNatClampNeg = N → N ≤ 67108864 → cells + 1 ≤ MC → slots + N ≤ MS → (∀ (q : Nat) (cA : ClassId) (H1 : Heap), va_K D cl (tys ++ [(cA, .object C)]) s → va_P D cl (ws ++ [(q, .inl (cA, N, .inr (.inr (.inr (.inr (fun _ => none))))))]) H1 → va_D A (ws ++ [(q, .inl (cA, N, .inr (.inr (.inr (.inr (fun _ => none))))))]) → va_S A H0 H1 locs → W p l e R s m args below meth c H1 locs (cells + 1) (slots + N) Q (F0 m nx ls (.ref q :: rest))) → W p l e R s m args below meth c H locs cells slots Q (F0 m pc ls (.int n :: rest))
def x_Sw (x : Int32) (tg : Nat) : Prop := ∀ {p : Program} {l : Launch} {e : Env} {R : Room} {s : State} {m : MethodId} {args : Array Value} {below : List Frame} {meth : Method} {c : Code}, CallFix p m c cc nL s args x_tbl own → ∀ {H : Heap} {locs : List Loc} {cells slots : Nat} {Q : State → Prop} {ls : Array Slot} {rest : List Value},
  W p l e R s m args below meth c H locs cells slots Q (F0 m tg ls rest) → W p l e R s m args below meth c H locs cells slots Q (F0 m pc ls (.int x :: rest))
end XW8
def xi_aald (nx : Nat) : xS → Option (List xS) := fun t => match t.2.2.1 with
  | i :: (1, j, _) :: r => match x_bi t.2.2.2.2.1 i, x_at t.2.2.2.1 j.toNat with
    | some ib, some (kd, _, n, d, o) => bif (Nat.beq kd 5 || Nat.beq kd 6) && (decide (0 ≤ ib.1) && (decide (ib.2 < n) && decide (ib.1 = ib.2))) then some [(nx, t.2.1, x_get d o ib.1.toNat :: r, t.2.2.2)] else none
    | _, _ => none
  | _ => none
def xi_aast (nx : Nat) : xS → Option (List xS) := fun t => match t.2.2.1 with
  | (1, v, vb) :: i :: (1, j, _) :: r => match x_bi t.2.2.2.2.1 i, x_at t.2.2.2.1 j.toNat, x_at t.2.2.2.1 v.toNat with
    | some ib, some (5, c, n, d, o), some (0, ci, _) => bif Nat.beq c ci && (decide (0 ≤ ib.1) && (decide (ib.2 < n) && decide (ib.1 = ib.2))) then some [(nx, t.2.1, r, x_up t.2.2.2.1 j.toNat (5, c, n, d, x_put d o ib.1.toNat (1, v, vb)), t.2.2.2.2)] else none
    | _, _, _ => none
  | _ => none
def xi_alen (nx : Nat) : xS → Option (List xS) := fun t => match t.2.2.1 with
  | (1, j, _) :: r => match x_at t.2.2.2.1 j.toNat with
    | some (kd, _, n, _, _) => bif Nat.beq kd 0 then none else some [(nx, t.2.1, (0, (n : Int), (n : Int)) :: r, t.2.2.2)]
    | none => none
  | _ => none
/-- a new array of kind kd (1, 2, 3: numbers; 5: references to objects of class c) -/
def xi_newa (kd c : Nat) (d : xV) (MC MS nx : Nat) : xS → Option (List xS) := fun t => match t.2.2.1 with
  | n :: r => match x_bi t.2.2.2.2.1 n with
    | some b => bif decide (b.1 = b.2) && (decide (0 ≤ b.1) && (decide (b.1 ≤ 67108864) && (Nat.ble (t.2.2.2.2.2.1 + 1) MC && Nat.ble (t.2.2.2.2.2.2 + b.1.toNat) MS))) then some [(nx, t.2.1, (1, t.2.2.2.1.length, 0) :: r, t.2.2.2.1 ++ [(kd, c, b.1.toNat, d, [])], t.2.2.2.2.1, t.2.2.2.2.2.1 + 1, t.2.2.2.2.2.2 + b.1.toNat)] else none
    | none => none
  | [] => none
/-- the top of the stack: places of the old one in the new one -/
def xi_stk (f : List xV → Option (List xV)) (nx : Nat) : xS → Option (List xS) := fun t => match f t.2.2.1 with
  | some st => some [(nx, t.2.1, st, t.2.2.2)]
  | none => none
def xf_dup (st : List xV) : Option (List xV) := match st with
  | x :: r => bif Nat.beq (x_ty x) 1 then none else some (x :: x :: r)
  | _ => none
def xf_pop (st : List xV) : Option (List xV) := match st with
  | x :: r => bif Nat.beq (x_ty x) 1 then none else some r
  | _ => none
def xf_dup2 (st : List xV) : Option (List xV) := match st with
  | x :: y :: r => bif Nat.beq (x_ty x) 1 || Nat.beq (x_ty y) 1 then none else some (x :: y :: x :: y :: r)
  | _ => none
def xf_dupx1 (st : List xV) : Option (List xV) := match st with
  | x :: y :: r => bif Nat.beq (x_ty x) 1 || Nat.beq (x_ty y) 1 then none else some (x :: y :: x :: r)
  | _ => none
def xf_dupx2 (st : List xV) : Option (List xV) := match st with
  | x :: y :: z :: r => bif Nat.beq (x_ty x) 1 || (Nat.beq (x_ty y) 1 || Nat.beq (x_ty z) 1) then none else some (x :: y :: z :: x :: r)
  | _ => none
/-- one arm of a switch -/
def x_arm (t : xS) (x : xV) (b : Int × Int) (r : List xV) (lo hi : Int) (tg : Nat) : List xS :=
  bif decide (b.1 ≤ hi) && decide (lo ≤ b.2) then [(tg, t.2.1, r, t.2.2.2.1, x_setb t.2.2.2.2.1 x (x_max b.1 lo, x_min b.2 hi), t.2.2.2.2.2)] else []
def x_arms (t : xS) (x : xV) (b : Int × Int) (r : List xV) : List (Int × Int × Nat) → List xS
  | [] => []
  | q :: l => x_arm t x b r q.1 q.2.1 q.2.2 ++ x_arms t x b r l
/-- a switch: ranges of the number and where they lead; together they are all numbers -/
def xi_sw (l : List (Int × Int × Nat)) : xS → Option (List xS) := fun t => match t.2.2.1 with
  | x :: r => match x_bi t.2.2.2.2.1 x with
    | some b => some (x_arms t x b r l)
    | none => none
  | [] => none
theorem x_arms_in {t : xS} {x : xV} {b : Int × Int} {r : List xV} {q : Int × Int × Nat} {n : Int} (h1 : b.1 ≤ n) (h2 : n ≤ b.2) (h3 : q.1 ≤ n) (h4 : n ≤ q.2.1) : ∀ {l : List (Int × Int × Nat)}, q ∈ l → (q.2.2, t.2.1, r, t.2.2.2.1, x_setb t.2.2.2.2.1 x (x_max b.1 q.1, x_min b.2 q.2.1), t.2.2.2.2.2) ∈ x_arms t x b r l
  | [], h => absurd h List.not_mem_nil
  | q' :: l, h => by
    unfold x_arms
    rcases List.mem_cons.mp h with rfl | h
    · refine List.mem_append_left _ ?_
      unfold x_arm
      rw [show (decide (b.1 ≤ q.2.1) && decide (q.1 ≤ b.2)) = true by simp only [Bool.and_eq_true, decide_eq_true_eq]; omega]
      exact List.mem_cons_self
    · exact List.mem_append_right _ (x_arms_in h1 h2 h3 h4 h)
theorem x_vrf {ad : List Nat} {V : List Int} {sc : Nat × Nat × List Nat} {x : xV} {f : Option Nat} (h : x_rel ad V sc x (va_rf f)) : True := trivial
section X8
variable {cl : List vw_C} {K : xKx} {cc : ByteArray} {own : String} {nL : Nat} {nm : String} {MC MS pc nx : Nat}
theorem xi_aald_ok (hw : x_Aq cl cc own nL nm MC MS pc nx) : x_Snd cl K cc own nL nm MC MS pc (xi_aald nx) := by
  intro V sc p l e R s m args below meth c D A H0 Q C hA hK t ts hpc hf hg
  unfold xi_aald at hf
  split at hf
  · rename_i i j jb r hst
    split at hf
    · rename_i ib kd cN n d o hib hcell
      cases hb : ((Nat.beq kd 5 || Nat.beq kd 6) && (decide (0 ≤ ib.1) && (decide (ib.2 < n) && decide (ib.1 = ib.2)))) with
      | false => rw [hb] at hf; cases hf
      | true =>
        rw [hb] at hf
        cases hf
        subst hpc
        simp only [Bool.and_eq_true, decide_eq_true_eq, Bool.or_eq_true] at hb
        intro ls stk H locs ⟨lv, ws, tys, h1, h2, h3, h4, h5, h6, h7, h8, h9⟩
        rw [hst] at h3
        match stk, h3 with
        | v1 :: v2 :: rest, h3 =>
          obtain ⟨ni, rfl, i1, i2⟩ := x_bi_ok h9 hib h3.1
          obtain ⟨a, ee, hq, rfl, hc⟩ := x_ref h4 h3.2.1 hcell
          obtain ⟨k1, k2, k3, k4⟩ := x_ix hb.2.1 hb.2.2.1 i1 i2
          have ek : ni.toNatClampNeg = ib.1.toNat := by omega
          rcases hb.1 with hk | hk
          · have := Nat.eq_of_beq_eq_true hk
            subst this
            obtain ⟨t0, cA, r', f, g0, g1, rfl, g2, g3⟩ := hc
            exact hw C rfl h5 h6 hq g1 k1 (hg _ List.mem_cons_self ls (va_rf (f ni.toNatClampNeg) :: rest) H locs ⟨lv, ws, tys, h1, h2, ⟨by rw [ek]; exact g3 _ (by rw [← ek]; exact k2), h3.2.2⟩, h4, h5, h6, h7, h8, h9⟩)
          · have := Nat.eq_of_beq_eq_true hk
            subst this
            obtain ⟨t0, cA, f, g1, rfl, g2, g3⟩ := hc
            exact hw C rfl h5 h6 hq g1 k1 (hg _ List.mem_cons_self ls (va_rf (f ni.toNatClampNeg) :: rest) H locs ⟨lv, ws, tys, h1, h2, ⟨by rw [ek]; exact g3 _ (by rw [← ek]; exact k2), h3.2.2⟩, h4, h5, h6, h7, h8, h9⟩)
    · cases hf
  · cases hf
theorem xi_aast_ok (hw : x_Aa cl cc own nL nm MC MS pc nx) : x_Snd cl K cc own nL nm MC MS pc (xi_aast nx) := by
  intro V sc p l e R s m args below meth c D A H0 Q C hA hK t ts hpc hf hg
  unfold xi_aast at hf
  split at hf
  · rename_i v vb i j jb r hst
    split at hf
    · rename_i ib cN n d o ci vr hib hcell hcv
      cases hb : (Nat.beq cN ci && (decide (0 ≤ ib.1) && (decide (ib.2 < n) && decide (ib.1 = ib.2)))) with
      | false => rw [hb] at hf; cases hf
      | true =>
        rw [hb] at hf
        cases hf
        subst hpc
        simp only [Bool.and_eq_true, decide_eq_true_eq] at hb
        have ec := Nat.eq_of_beq_eq_true hb.1
        subst ec
        intro ls stk H locs ⟨lv, ws, tys, h1, h2, h3, h4, h5, h6, h7, h8, h9⟩
        rw [hst] at h3
        match stk, h3 with
        | v0 :: v1 :: v2 :: rest, h3 =>
          obtain ⟨ni, rfl, i1, i2⟩ := x_bi_ok h9 hib h3.2.1
          obtain ⟨a, ee, hq, rfl, hc⟩ := x_ref h4 h3.2.2.1 hcell
          have hr0 := h3.1
          obtain ⟨av, ev, hqv, rfl, hcv'⟩ := x_ref h4 h3.1 hcv
          obtain ⟨t0, cA, r', f, g0, g1, rfl, g2, g3⟩ := hc
          obtain ⟨fs, rfl, -, -⟩ := hcv'
          obtain ⟨k1, k2, k3, k4⟩ := x_ix hb.2.1 hb.2.2.1 i1 i2
          have ek : ni.toNatClampNeg = ib.1.toNat := by omega
          refine hw C h5 h6 h7 h8 hq g1 hqv g0 k1 (fun H1 locs1 hP hD hS => hg _ List.mem_cons_self ls rest H1 locs1 ⟨lv, _, tys, h1, ?_, ?_, x_world_set h4 hq ⟨t0, cA, r', _, g0, g1, rfl, g2, fun k hk => ?_⟩, h5, hP, hD, hS, h9⟩)
          · rw [x_fst_set hq]; exact h2
          · rw [x_fst_set hq]; exact h3.2.2.2
          · simp only [x_get_put]
            rw [ek]
            by_cases hik : k = ib.1.toNat
            · rw [if_pos hik]
              simp only [va_up, if_pos hik]
              exact hr0
            · rw [if_neg hik]
              simp only [va_up, if_neg hik]
              exact g3 k hk
    · cases hf
  · cases hf
theorem xi_alen_ok (hw : x_Ln cl cc own nL nm MC MS pc nx) : x_Snd cl K cc own nL nm MC MS pc (xi_alen nx) := by
  intro V sc p l e R s m args below meth c D A H0 Q C hA hK t ts hpc hf hg
  unfold xi_alen at hf
  split at hf
  · rename_i j jb r hst
    split at hf
    · rename_i kd cN n d o hcell
      cases hb : Nat.beq kd 0 with
      | true => rw [hb] at hf; cases hf
      | false =>
        rw [hb] at hf
        cases hf
        subst hpc
        intro ls stk H locs ⟨lv, ws, tys, h1, h2, h3, h4, h5, h6, h7, h8, h9⟩
        rw [hst] at h3
        match stk, h3 with
        | v2 :: rest, h3 =>
          obtain ⟨a, ee, hq, rfl, hc⟩ := x_ref h4 h3.1 hcell
          have key : ∃ (t0 : Nat) (cA : ClassId) (x : vp_A) (ty : FieldType), tys[t0]? = some (cA, ty) ∧ ee = .inl (cA, x) ∧ x.1 = n ∧ n < 2147483648 := by
            unfold x_cell at hc
            split at hc
            · rename_i h0; simp only at h0; subst h0; cases hb
            · obtain ⟨t0, cA, f, g1, g2, g3, -⟩ := hc
              exact ⟨t0, cA, _, _, g1, g2, rfl, g3⟩
            · obtain ⟨t0, cA, f, g1, g2, g3, -⟩ := hc
              exact ⟨t0, cA, _, _, g1, g2, rfl, g3⟩
            · obtain ⟨t0, cA, f, g1, g2, g3, -⟩ := hc
              exact ⟨t0, cA, _, _, g1, g2, rfl, g3⟩
            · obtain ⟨t0, cA, r', f, -, g1, g2, g3, -⟩ := hc
              exact ⟨t0, cA, _, _, g1, g2, rfl, g3⟩
            · obtain ⟨t0, cA, f, g1, g2, g3, -⟩ := hc
              exact ⟨t0, cA, _, _, g1, g2, rfl, g3⟩
            · exact hc.elim
          obtain ⟨t0, cA, x, ty, g1, rfl, rfl, g3⟩ := key
          have e := nI_toInt g3
          exact hw C h5 h6 hq g1 (hg _ List.mem_cons_self ls (.int (Int32.ofNat x.1) :: rest) H locs ⟨lv, ws, tys, h1, h2, ⟨⟨_, rfl, by show (x.1 : Int) ≤ (nI x.1).toInt; omega, by show (nI x.1).toInt ≤ (x.1 : Int); omega⟩, h3.2⟩, h4, h5, h6, h7, h8, h9⟩)
    · cases hf
  · cases hf
theorem x_const {b : Int × Int} {n : Int32} (e : b.1 = b.2) (h0 : 0 ≤ b.1) (h1 : b.1 ≤ n.toInt) (h2 : n.toInt ≤ b.2) : ¬ n < 0 ∧ n.toNatClampNeg = b.1.toNat := by
  have e1 : n.toInt = b.1 := by omega
  refine ⟨fun h => ?_, by show n.toInt.toNat = _; rw [e1]⟩
  have := Int32.lt_iff_toInt_lt.mp h
  rw [Int32.toInt_zero] at this
  omega
theorem xi_newa_ok {kd : Nat} {b : Bool} (hkd : x_akd b kd = true) (hw : x_Na cl cc own nL nm MC MS pc nx (x_aty kd)) : x_Snd cl K cc own nL nm MC MS pc (xi_newa kd 0 (0, 0, 0) MC MS nx) := by
  intro V sc p l e R s m args below meth c D A H0 Q C hA hK t ts hpc hf hg
  unfold xi_newa at hf
  split at hf
  · rename_i n r hst
    split at hf
    · rename_i bb hbb
      cases hb : (decide (bb.1 = bb.2) && (decide (0 ≤ bb.1) && (decide (bb.1 ≤ 67108864) && (Nat.ble (t.2.2.2.2.2.1 + 1) MC && Nat.ble (t.2.2.2.2.2.2 + bb.1.toNat) MS)))) with
      | false => rw [hb] at hf; cases hf
      | true =>
        rw [hb] at hf
        cases hf
        subst hpc
        simp only [Bool.and_eq_true, decide_eq_true_eq] at hb
        obtain ⟨b1, b2, b3, b4, b5⟩ := hb
        intro ls stk H locs ⟨lv, ws, tys, h1, h2, h3, h4, h5, h6, h7, h8, h9⟩
        rw [hst] at h3
        match stk, h3 with
        | v2 :: rest, h3 =>
          obtain ⟨ni, rfl, i1, i2⟩ := x_bi_ok h9 hbb h3.1
          obtain ⟨c1, c2⟩ := x_const b1 b2 i1 i2
          refine hw C hA h5 h6 h7 h8 c1 c2 (by omega) (Nat.le_of_ble_eq_true b4) (Nat.le_of_ble_eq_true b5) (fun q cA H1 hK1 hP hD hS => hg _ List.mem_cons_self ls (.ref q :: rest) H1 locs ⟨lv, _, _, h1, ?_, ⟨?_, ?_⟩, ?_, hK1, hP, hD, hS, h9⟩)
          · rw [List.map_append]; exact x_lv_app h2
          · refine ⟨q, ?_, rfl⟩
            simp only [Int.toNat_natCast]
            rw [h4.1]
            simp
          · rw [List.map_append]; exact x_stk_app h3.2
          · refine x_world_app h4 rfl (fun k x y hx hy => ?_)
            have hk : k < 1 := (List.getElem?_eq_some_iff.mp hx).1
            rw [show k = 0 by omega] at hx hy
            cases hx
            cases hy
            exact x_cell_arr hkd ⟨tys.length, cA, _, by simp, rfl, by omega, fun k hk => ⟨0, rfl, by show (0 : Int) ≤ Int32.toInt 0; decide, by show Int32.toInt 0 ≤ (0 : Int); decide⟩⟩
    · cases hf
  · cases hf
theorem xi_newq_ok {ci : Nat} {r : vw_C} (hr : cl[ci]? = some r) (hw : x_Nq cl cc own nL nm MC MS pc nx r.1) : x_Snd cl K cc own nL nm MC MS pc (xi_newa 5 ci (2, 0, 0) MC MS nx) := by
  intro V sc p l e R s m args below meth c D A H0 Q C hA hK t ts hpc hf hg
  unfold xi_newa at hf
  split at hf
  · rename_i n r' hst
    split at hf
    · rename_i bb hbb
      cases hb : (decide (bb.1 = bb.2) && (decide (0 ≤ bb.1) && (decide (bb.1 ≤ 67108864) && (Nat.ble (t.2.2.2.2.2.1 + 1) MC && Nat.ble (t.2.2.2.2.2.2 + bb.1.toNat) MS)))) with
      | false => rw [hb] at hf; cases hf
      | true =>
        rw [hb] at hf
        cases hf
        subst hpc
        simp only [Bool.and_eq_true, decide_eq_true_eq] at hb
        obtain ⟨b1, b2, b3, b4, b5⟩ := hb
        intro ls stk H locs ⟨lv, ws, tys, h1, h2, h3, h4, h5, h6, h7, h8, h9⟩
        rw [hst] at h3
        match stk, h3 with
        | v2 :: rest, h3 =>
          obtain ⟨ni, rfl, i1, i2⟩ := x_bi_ok h9 hbb h3.1
          obtain ⟨c1, c2⟩ := x_const b1 b2 i1 i2
          refine hw C hA h5 h6 h7 h8 c1 c2 (by omega) (Nat.le_of_ble_eq_true b4) (Nat.le_of_ble_eq_true b5) (fun q cA H1 hK1 hP hD hS => hg _ List.mem_cons_self ls (.ref q :: rest) H1 locs ⟨lv, _, _, h1, ?_, ⟨?_, ?_⟩, ?_, hK1, hP, hD, hS, h9⟩)
          · rw [List.map_append]; exact x_lv_app h2
          · refine ⟨q, ?_, rfl⟩
            simp only [Int.toNat_natCast]
            rw [h4.1]
            simp
          · rw [List.map_append]; exact x_stk_app h3.2
          · refine x_world_app h4 rfl (fun k x y hx hy => ?_)
            have hk : k < 1 := (List.getElem?_eq_some_iff.mp hx).1
            rw [show k = 0 by omega] at hx hy
            cases hx
            cases hy
            exact ⟨tys.length, cA, r, _, hr, by simp, rfl, by show bb.1.toNat < 2147483648; omega, fun k hk => rfl⟩
    · cases hf
  · cases hf
/-- what the stack's change does to its values -/
theorem xi_stk_ok {f : List xV → Option (List xV)} (hw : ∀ (ad : List Nat) (V : List Int) (sc : Nat × Nat × List Nat) (st st' : List xV) (stk : List Value), f st = some st' → x_all2 (x_rel ad V sc) st stk → ∃ (i o rest : List Value), stk = i ++ rest ∧ x_Stk cc own nL pc nx i o ∧ x_all2 (x_rel ad V sc) st' (o ++ rest)) : x_Snd cl K cc own nL nm MC MS pc (xi_stk f nx) := by
  intro V sc p l e R s m args below meth c D A H0 Q C hA hK t ts hpc hf hg
  unfold xi_stk at hf
  split at hf
  · rename_i st' hst
    cases hf
    subst hpc
    intro ls stk H locs ⟨lv, ws, tys, h1, h2, h3, h4⟩
    obtain ⟨i, o, rest, rfl, hs, hr⟩ := hw _ _ _ _ _ _ hst h3
    exact hs C.1 (hg _ List.mem_cons_self ls (o ++ rest) H locs ⟨lv, ws, tys, h1, h2, hr, h4⟩)
  · cases hf
theorem x_one {ad : List Nat} {V : List Int} {sc : Nat × Nat × List Nat} {x : xV} {v : Value} (h : x_rel ad V sc x v) (hb : Nat.beq (x_ty x) 1 = false) : v.category = 1 := by
  rw [x_kd_cat (x_ty_ok h), if_neg]
  intro e
  rw [e] at hb
  cases hb
theorem xf_dup_ok (hw : ∀ v : Value, v.category = 1 → x_Stk cc own nL pc nx [v] [v, v]) : x_Snd cl K cc own nL nm MC MS pc (xi_stk xf_dup nx) := xi_stk_ok fun ad V sc st st' stk h hr => by
  unfold xf_dup at h
  split at h
  · rename_i x r
    cases hb : Nat.beq (x_ty x) 1 with
    | true => rw [hb] at h; cases h
    | false =>
      rw [hb] at h
      cases h
      match stk, hr with
      | v :: rest, hr => exact ⟨[v], [v, v], rest, rfl, hw v (x_one hr.1 hb), hr.1, hr.1, hr.2⟩
  · cases h
theorem xf_pop_ok (hw : ∀ v : Value, v.category = 1 → x_Stk cc own nL pc nx [v] []) : x_Snd cl K cc own nL nm MC MS pc (xi_stk xf_pop nx) := xi_stk_ok fun ad V sc st st' stk h hr => by
  unfold xf_pop at h
  split at h
  · rename_i x r
    cases hb : Nat.beq (x_ty x) 1 with
    | true => rw [hb] at h; cases h
    | false =>
      rw [hb] at h
      cases h
      match stk, hr with
      | v :: rest, hr => exact ⟨[v], [], rest, rfl, hw v (x_one hr.1 hb), hr.2⟩
  · cases h
theorem xf_dup2_ok (hw : ∀ v u : Value, v.category = 1 → u.category = 1 → x_Stk cc own nL pc nx [v, u] [v, u, v, u]) : x_Snd cl K cc own nL nm MC MS pc (xi_stk xf_dup2 nx) := xi_stk_ok fun ad V sc st st' stk h hr => by
  unfold xf_dup2 at h
  split at h
  · rename_i x y r
    cases hb : (Nat.beq (x_ty x) 1 || Nat.beq (x_ty y) 1) with
    | true => rw [hb] at h; cases h
    | false =>
      rw [hb] at h
      cases h
      simp only [Bool.or_eq_false_iff] at hb
      match stk, hr with
      | v :: u :: rest, hr => exact ⟨[v, u], [v, u, v, u], rest, rfl, hw v u (x_one hr.1 hb.1) (x_one hr.2.1 hb.2), hr.1, hr.2.1, hr.1, hr.2.1, hr.2.2⟩
  · cases h
theorem xf_dupx1_ok (hw : ∀ v u : Value, v.category = 1 → u.category = 1 → x_Stk cc own nL pc nx [v, u] [v, u, v]) : x_Snd cl K cc own nL nm MC MS pc (xi_stk xf_dupx1 nx) := xi_stk_ok fun ad V sc st st' stk h hr => by
  unfold xf_dupx1 at h
  split at h
  · rename_i x y r
    cases hb : (Nat.beq (x_ty x) 1 || Nat.beq (x_ty y) 1) with
    | true => rw [hb] at h; cases h
    | false =>
      rw [hb] at h
      cases h
      simp only [Bool.or_eq_false_iff] at hb
      match stk, hr with
      | v :: u :: rest, hr => exact ⟨[v, u], [v, u, v], rest, rfl, hw v u (x_one hr.1 hb.1) (x_one hr.2.1 hb.2), hr.1, hr.2.1, hr.1, hr.2.2⟩
  · cases h
theorem xf_dupx2_ok (hw : ∀ v u w : Value, v.category = 1 → u.category = 1 → w.category = 1 → x_Stk cc own nL pc nx [v, u, w] [v, u, w, v]) : x_Snd cl K cc own nL nm MC MS pc (xi_stk xf_dupx2 nx) := xi_stk_ok fun ad V sc st st' stk h hr => by
  unfold xf_dupx2 at h
  split at h
  · rename_i x y z r
    cases hb : (Nat.beq (x_ty x) 1 || (Nat.beq (x_ty y) 1 || Nat.beq (x_ty z) 1)) with
    | true => rw [hb] at h; cases h
    | false =>
      rw [hb] at h
      cases h
      simp only [Bool.or_eq_false_iff] at hb
      match stk, hr with
      | v :: u :: w :: rest, hr => exact ⟨[v, u, w], [v, u, w, v], rest, rfl, hw v u w (x_one hr.1 hb.1) (x_one hr.2.1 hb.2.1) (x_one hr.2.2.1 hb.2.2), hr.1, hr.2.1, hr.2.2.1, hr.1, hr.2.2.2⟩
  · cases h
theorem xi_sw_ok {l : List (Int × Int × Nat)} (hw : ∀ x : Int32, ∃ q ∈ l, q.1 ≤ x.toInt ∧ x.toInt ≤ q.2.1 ∧ x_Sw cc own nL pc x q.2.2) : x_Snd cl K cc own nL nm MC MS pc (xi_sw l) := by
  intro V sc p ll e R s m args below meth c D A H0 Q C hA hK t ts hpc hf hg
  unfold xi_sw at hf
  split at hf
  · rename_i x r hst
    split at hf
    · rename_i b hb
      cases hf
      subst hpc
      intro ls stk H locs ⟨lv, ws, tys, h1, h2, h3, h4, h5, h6, h7, h8, h9⟩
      rw [hst] at h3
      match stk, h3 with
      | v2 :: rest, h3 =>
        obtain ⟨n, rfl, x1, x2⟩ := x_bi_ok h9 hb h3.1
        obtain ⟨q, hq, q1, q2, hs⟩ := hw n
        exact hs C.1 (hg _ (x_arms_in x1 x2 q1 q2 hq) ls rest H locs ⟨lv, ws, tys, h1, h2, h3.2, h4, h5, h6, h7, h8, x_setb_i h9 h3.1 (x_max_le x1 q1) (x_le_min x2 q2)⟩)
    · cases hf
  · cases hf
end X8
end
