-- part 12b
section
noncomputable section
/-! arrays of arrays; longs -/
def x_rws (b : Nat) : Nat → xA
  | 0 => []
  | n + 1 => x_rws b n ++ [(n, (1, ((b + n : Nat) : Int), 0))]
theorem x_get_app (d : xV) (q : Nat × xV) (k : Nat) : ∀ l : xA, (∀ p ∈ l, p.1 ≠ q.1) → x_get d (l ++ [q]) k = if k = q.1 then q.2 else x_get d l k
  | [], _ => by
    simp only [List.nil_append, x_get_nil, x_get_cons]
    by_cases h : k = q.1
    · rw [if_pos h, h]; simp
    · rw [if_neg h, x_nb (Ne.symm h)]; rfl
  | p :: l, hp => by
    simp only [List.cons_append, x_get_cons]
    by_cases hk : p.1 = k
    · have hb : Nat.beq p.1 k = true := Nat.beq_eq.mpr hk
      have hn : ¬ k = q.1 := fun e => hp p List.mem_cons_self (hk.trans e)
      rw [hb, if_neg hn]; rfl
    · rw [x_nb hk]
      exact x_get_app d q k l (fun x hx => hp x (List.mem_cons_of_mem _ hx))
theorem x_rws_lt (b : Nat) : ∀ n, ∀ p ∈ x_rws b n, p.1 < n
  | 0, p, h => absurd h List.not_mem_nil
  | n + 1, p, h => by
    rcases List.mem_append.mp h with h | h
    · exact Nat.lt_succ_of_lt (x_rws_lt b n p h)
    · rw [List.mem_singleton] at h
      subst h
      exact Nat.lt_succ_self n
theorem x_rws_get (b : Nat) (d : xV) : ∀ n k, k < n → x_get d (x_rws b n) k = (1, ((b + k : Nat) : Int), 0)
  | 0, k, h => by omega
  | n + 1, k, h => by
    unfold x_rws
    rw [x_get_app d _ k _ (fun p hp => by have := x_rws_lt b n p hp; simp only; omega)]
    by_cases e : k = n
    · subst e; simp
    · simp only [e, if_false]
      exact x_rws_get b d n k (by omega)
def xi_mna (MC MS nx : Nat) : xS → Option (List xS) := fun t => match t.2.2.1 with
  | k :: n :: r => match x_bi t.2.2.2.2.1 k, x_bi t.2.2.2.2.1 n with
    | some kb, some nb => bif decide (kb.1 = kb.2) && (decide (nb.1 = nb.2) && (decide (0 ≤ kb.1) && (decide (0 ≤ nb.1) && (decide (kb.1 ≤ 1000000) && (decide (nb.1 ≤ 1000000) && (t.2.2.2.1.any (fun x => Nat.beq x.1 1) && (Nat.ble (t.2.2.2.2.2.1 + (1 + nb.1.toNat)) MC && Nat.ble (t.2.2.2.2.2.2 + (nb.1.toNat + nb.1.toNat * kb.1.toNat)) MS))))))) then
        some [(nx, t.2.1, (1, t.2.2.2.1.length, 0) :: r, t.2.2.2.1 ++ ((6, 0, nb.1.toNat, (2, 0, 0), x_rws (t.2.2.2.1.length + 1) nb.1.toNat) :: List.replicate nb.1.toNat (1, 0, kb.1.toNat, (0, 0, 0), [])), t.2.2.2.2.1, t.2.2.2.2.2.1 + 1 + nb.1.toNat, t.2.2.2.2.2.2 + nb.1.toNat + nb.1.toNat * kb.1.toNat)] else none
    | _, _ => none
  | _ => none
section X12b
variable {cl : List vw_C} {K : xKx} {cc : ByteArray} {own : String} {nL : Nat} {nm : String} {MC MS pc : Nat}
theorem xr_mna {ix : Nat} {C : String} (hs : C = "[" ++ (FieldType.array .int).toString) (hl : Cond.classLink own ix C ∈ x_tbl) (harr : Cond.arrayClass .int ∈ x_tbl) (d : decode cc pc = .ok (.multianewarray ix 2, 4)) : x_Snd cl K cc own nL nm MC MS pc (xi_mna MC MS (pc + 4)) := by
  subst hs
  intro V sc p l e R s m args below meth c D A H0 Q C hA hK t ts hpc hf hg
  unfold xi_mna at hf
  split at hf
  · rename_i k n r hst
    split at hf
    · rename_i kb nb hkb hnb
      cases hb : (decide (kb.1 = kb.2) && (decide (nb.1 = nb.2) && (decide (0 ≤ kb.1) && (decide (0 ≤ nb.1) && (decide (kb.1 ≤ 1000000) && (decide (nb.1 ≤ 1000000) && (t.2.2.2.1.any (fun x => Nat.beq x.1 1) && (Nat.ble (t.2.2.2.2.2.1 + (1 + nb.1.toNat)) MC && Nat.ble (t.2.2.2.2.2.2 + (nb.1.toNat + nb.1.toNat * kb.1.toNat)) MS)))))))) with
      | false => rw [hb] at hf; cases hf
      | true =>
        rw [hb] at hf
        cases hf
        subst hpc
        simp only [Bool.and_eq_true, decide_eq_true_eq, List.any_eq_true] at hb
        obtain ⟨b1, b2, b3, b4, b5, b6, ⟨x9, hx9, k9⟩, b8, b9⟩ := hb
        have b8 := Nat.le_of_ble_eq_true b8
        have b9 := Nat.le_of_ble_eq_true b9
        intro ls stk H locs ⟨lv, ws, tys, h1, h2, h3, h4, h5, h6, h7, h8, h9⟩
        rw [hst] at h3
        match stk, h3 with
        | v1 :: v2 :: rest, h3 =>
          obtain ⟨kk, rfl, i1, i2⟩ := x_bi_ok h9 hkb h3.1
          obtain ⟨nn, rfl, j1, j2⟩ := x_bi_ok h9 hnb h3.2.1
          obtain ⟨c1, c2⟩ := x_const b1 b3 i1 i2
          obtain ⟨d1, d2⟩ := x_const b2 b4 j1 j2
          obtain ⟨i9, hi9⟩ := List.getElem?_of_mem hx9
          have hl9 : i9 < ws.length := by rw [← h4.1]; exact (List.getElem?_eq_some_iff.mp hi9).1
          have hc9 := h4.2.2 i9 x9 ws[i9] hi9 (List.getElem?_eq_getElem hl9)
          obtain ⟨x9a, x9b⟩ := x9
          have e9 : x9a = 1 := Nat.eq_of_beq_eq_true k9
          subst e9
          obtain ⟨t9, cy, f9, ht9, -, -, -⟩ := hc9
          have hcy : s.vm.findClass (FieldType.array .int).toString = some cy := (h5.2 t9 _ ht9).2
          refine va_mna (X := ws) (L := []) (f := fun _ => .inl (cy, 0, .inl (fun _ => 0))) C.1.1 C.1.2.1 C.1.2.2.2.1 (C.1.2.2.2.2 _ hl) C.2.2.2.2.2.2.2.1 (C.1.2.2.2.2 _ harr) hcy h5 (by show va_P D cl (ws ++ []) H; rw [List.append_nil]; exact h6) (by show va_D A (ws ++ []); rw [List.append_nil]; exact h7) h8 hA (z := (kb.1.toNat, .inl (fun _ => 0))) d1 c1 d2 c2 (by omega) (by show kb.1.toNat * 4 ≤ 536870912; omega) (by omega) rfl rfl (by rw [C.2.2.1]; exact b8) (by rw [C.2.2.2.1]; exact b9) (fun c => by
            rw [vp_cell_i]
            show ({ cls := c, slots := Array.replicate kb.1.toNat (.int 0), vm := .none } : Cell) = _
            rw [arrV_new]) d (fun q rr cA H1 hinj hnl hK1 hP1 hD1 hS1 => ?_)
          have ew : (ws ++ [(q, .inl (cA, nb.1.toNat, .inr (.inr (.inr (.inr (fun i => if i < nb.1.toNat then some (rr i) else none))))))]) ++ va_pl ([] ++ (List.range nb.1.toNat).map rr) (vr_up (fun _ => .inl (cy, 0, .inl (fun _ => 0))) ((List.range nb.1.toNat).map rr) (.inl (cy, kb.1.toNat, .inl (fun _ => 0)))) = ws ++ ((q, .inl (cA, nb.1.toNat, .inr (.inr (.inr (.inr (fun i => if i < nb.1.toNat then some (rr i) else none)))))) :: (List.range nb.1.toNat).map (fun i => ((rr i, .inl (cy, kb.1.toNat, .inl (fun _ => 0))) : Nat × va_E))) := by
            rw [List.append_assoc, List.nil_append]
            unfold va_pl
            rw [List.map_map]
            congr 1
            show (q, _) :: _ = (q, _) :: _
            congr 1
            apply List.map_congr_left
            intro i hi
            simp only [Function.comp]
            rw [vr_up_in (List.mem_map_of_mem hi)]
          rw [ew] at hP1 hD1
          refine hg _ List.mem_cons_self ls (.ref q :: rest) H1 locs ⟨lv, _, _, h1, ?_, ⟨?_, ?_⟩, ?_, hK1, hP1, hD1, hS1, h9⟩
          · rw [List.map_append]; exact x_lv_app h2
          · refine ⟨q, ?_, rfl⟩
            simp only [Int.toNat_natCast]
            rw [h4.1]
            simp
          · rw [List.map_append]; exact x_stk_app h3.2.2
          · refine x_world_app h4 (by simp) (fun j x y hx hy => ?_)
            cases j with
            | zero =>
              cases hx
              cases hy
              refine ⟨tys.length, cA, _, by simp, rfl, by show nb.1.toNat < 2147483648; omega, fun i hi => ?_⟩
              have hi : i < nb.1.toNat := hi
              show x_rel _ V sc (x_get (2, 0, 0) (x_rws (t.2.2.2.1.length + 1) nb.1.toNat) i) (va_rf (if i < nb.1.toNat then some (rr i) else none))
              rw [x_rws_get _ _ _ _ hi, if_pos hi]
              refine ⟨rr i, ?_, rfl⟩
              simp only [Int.toNat_natCast]
              rw [h4.1, List.map_append, List.getElem?_append_right (by rw [List.length_map]; omega), List.length_map]
              rw [show ws.length + 1 + i - ws.length = i + 1 by omega]
              simp only [List.map_cons, List.getElem?_cons_succ, List.map_map]
              rw [List.getElem?_map, List.getElem?_range hi]
              rfl
            | succ j =>
              simp only [List.getElem?_cons_succ] at hx hy
              have hj : j < nb.1.toNat := by
                have := (List.getElem?_eq_some_iff.mp hx).1
                simpa using this
              rw [List.getElem?_replicate, if_pos hj] at hx
              cases hx
              rw [List.getElem?_map, List.getElem?_range hj] at hy
              cases hy
              refine ⟨t9, cy, _, by rw [List.getElem?_append_left (List.getElem?_eq_some_iff.mp ht9).1]; exact ht9, rfl, by show kb.1.toNat < 2147483648; omega, fun i hi => ⟨0, rfl, by show (0 : Int) ≤ Int32.toInt 0; decide, by show Int32.toInt 0 ≤ (0 : Int); decide⟩⟩
    · cases hf
  · cases hf
def xF_anyL (_ _ : Int × Int) : Option xV := some x_anyL
theorem xr_lshl (d : decode cc pc = .ok (.lshl, 1)) : x_Snd cl K cc own nL nm MC MS pc (xi_shL xF_anyL (pc + 1)) := xi_shL_ok (g := fun x y => x <<< (y.toInt64 &&& 63)) (fun x y => (fun S => fun k => lv_lshl S.1 S.2.1 d rfl k)) (fun a b z x y h h1 h2 h3 h4 ad V sc => by cases h; exact x_anyL_ok _)
def xF_mulL (a b : Int × Int) : Option xV := some (x_J (x_min (x_min (a.1 * b.1) (a.2 * b.1)) (x_min (a.1 * b.2) (a.2 * b.2))) (x_max (x_max (a.1 * b.1) (a.2 * b.1)) (x_max (a.1 * b.2) (a.2 * b.2))))
theorem xr_lmul (d : decode cc pc = .ok (.lmul, 1)) : x_Snd cl K cc own nL nm MC MS pc (xi_binL xF_mulL (pc + 1)) := xi_binL_ok (g := fun x y => x * y) (fun _ => True) (fun x y _ => (fun S => fun k => lv_lmul S.1 S.2.1 d k)) (fun a b z x y h h1 h2 h3 h4 => ⟨trivial, fun ad V sc => by cases h; exact x_J_ok (Int64.toInt_mul x y) (x_corner h1 h2 h3 h4).1 (x_corner h1 h2 h3 h4).2⟩)
def xF_negL (a : Int × Int) : xV := x_J (-a.2) (-a.1)
theorem xr_lneg (d : decode cc pc = .ok (.lneg, 1)) : x_Snd cl K cc own nL nm MC MS pc (xi_unL xF_negL (pc + 1)) := xi_unL_ok (g := fun x => .long (-x)) (fun x => (fun S => fun k => lv_lneg S.1 S.2.1 d k)) (fun a x h1 h2 ad V sc => x_J_ok (Int64.toInt_neg x) (by omega) (by omega))
def xF_l2i (a : Int × Int) : xV := x_I a.1 a.2
theorem xr_l2i (d : decode cc pc = .ok (.l2i, 1)) : x_Snd cl K cc own nL nm MC MS pc (xi_unL xF_l2i (pc + 1)) := xi_unL_ok (g := fun x => .int x.toInt32) (fun x => (fun S => fun k => lv_l2i S.1 S.2.1 d rfl k)) (fun a x h1 h2 ad V sc => x_I_ok (Int64.toInt_toInt32 x) h1 h2)
end X12b
end
end
-- part 12c
section
noncomputable section
/-! more of what the interpreter does: a token by its values, three ways, the script, sums of tokens, counting -/
section X12c
variable {cl : List vw_C} {K : xKx} {cc : ByteArray} {own : String} {nL : Nat} {nm : String} {MC MS pc nx tg : Nat}
def x_tks (t : xS) (j : Nat) (q : Int × Int) : xS := (t.1, t.2.1, t.2.2.1, t.2.2.2.1, t.2.2.2.2.1.set j q, t.2.2.2.2.2)
theorem x_tks_in {V : List Int} {sc : Nat × Nat × List Nat} {s : State} {D : va_G} {A : Nat → Prop} {H0 : Heap} {t : xS} {ls : Array Slot} {stk : List Value} {H : Heap} {locs : List Loc} {j : Nat} {q : Int × Int} {z : Int} (hI : x_In cl V sc nL s D A H0 t ls stk H locs) (hv : V[j]? = some z) (h1 : q.1 ≤ z) (h2 : z ≤ q.2) : x_In cl V sc nL s D A H0 (x_tks t j q) ls stk H locs := by
  obtain ⟨lv, ws, tys, k1, k2, k3, k4, k5, k6, k7, k8, k9⟩ := hI
  exact ⟨lv, ws, tys, k1, k2, k3, k4, k5, k6, k7, k8, x_tk_set k9 hv h1 h2⟩
theorem x_In_tk {V : List Int} {sc : Nat × Nat × List Nat} {s : State} {D : va_G} {A : Nat → Prop} {H0 : Heap} {t : xS} {ls : Array Slot} {stk : List Value} {H : Heap} {locs : List Loc} (hI : x_In cl V sc nL s D A H0 t ls stk H locs) : x_tk t.2.2.2.2.1 V := by
  obtain ⟨lv, ws, tys, k1, k2, k3, k4, k5, k6, k7, k8, k9⟩ := hI
  exact k9
/-- a token's values one by one -/
def x_splL (j : Nat) (f : xS → Option (List xS)) (t : xS) (lo : Int) : Nat → Option (List xS)
  | 0 => some []
  | n + 1 => match f (x_tks t j (lo + n, lo + n)) with
    | some a => match x_splL j f t lo n with
      | some b => some (a ++ b)
      | none => none
    | none => none
theorem x_splL_in {j : Nat} {f : xS → Option (List xS)} {t : xS} {lo : Int} : ∀ {n : Nat} {ts : List xS}, x_splL j f t lo n = some ts → ∀ i, i < n → ∃ a, f (x_tks t j (lo + i, lo + i)) = some a ∧ ∀ x ∈ a, x ∈ ts
  | 0, _, _, i, hi => by omega
  | n + 1, ts, h, i, hi => by
    unfold x_splL at h
    split at h
    · rename_i a ha
      split at h
      · rename_i b hb
        cases h
        by_cases e : i = n
        · subst e
          exact ⟨a, ha, fun x hx => List.mem_append_left _ hx⟩
        · obtain ⟨a', h1, h2⟩ := x_splL_in hb i (by omega)
          exact ⟨a', h1, fun x hx => List.mem_append_right _ (h2 x hx)⟩
      · cases h
    · cases h
/-- the same, checked as it runs -/
def xi_splC (j : Nat) (f : xS → Option (List xS)) : xS → Option (List xS) := fun t => match t.2.2.2.2.1[j]? with
  | some q => bif decide (q.2 ≤ q.1 + 100) then x_splL j f t q.1 (q.2 + 1 - q.1).toNat else none
  | none => none
theorem xi_splC_ok {j : Nat} {f : xS → Option (List xS)} (hw : x_Snd cl K cc own nL nm MC MS pc f) : x_Snd cl K cc own nL nm MC MS pc (xi_splC j f) := by
  intro V sc p l e R s m args below meth c D A H0 Q C hA hK t ts hpc hf hg
  unfold xi_splC at hf
  split at hf
  · rename_i q hq
    cases hb : decide (q.2 ≤ q.1 + 100) with
    | false => rw [hb] at hf; cases hf
    | true =>
      rw [hb] at hf
      simp only [cond_true] at hf
      intro ls stk H locs hI
      obtain ⟨z, z1, z2, z3⟩ := x_In_tk hI j q hq
      obtain ⟨a, ha, hin⟩ := x_splL_in hf (z - q.1).toNat (by omega)
      have ez : q.1 + ((z - q.1).toNat : Int) = z := by omega
      rw [ez] at ha
      exact hw C hA hK (x_tks t j (z, z)) a hpc ha (fun t' h' => hg t' (hin t' h')) ls stk H locs (x_tks_in hI z1 (Int.le_refl z) (Int.le_refl z))
  · cases hf
/-- one of two, by a test -/
def xi_or (b : xS → Bool) (f g : xS → Option (List xS)) : xS → Option (List xS) := fun t => bif b t then f t else g t
theorem xi_or_ok {b : xS → Bool} {f g : xS → Option (List xS)} (hf : x_Snd cl K cc own nL nm MC MS pc f) (hg : x_Snd cl K cc own nL nm MC MS pc g) : x_Snd cl K cc own nL nm MC MS pc (xi_or b f g) := by
  intro V sc p l e R s m args below meth c D A H0 Q C hA hK t ts hpc h hh
  unfold xi_or at h
  cases hb : b t with
  | true => rw [hb] at h; exact hf C hA hK t ts hpc h hh
  | false => rw [hb] at h; exact hg C hA hK t ts hpc h hh
/-- less, equal, greater: each its way -/
def xi_if3 (ne lt gt : Nat) : xS → Option (List xS) := fun t => match t.2.2.1 with
  | y :: x :: r => match x_bi t.2.2.2.2.1 x, x_bi t.2.2.2.2.1 y with
    | some a, some b => some (x_way 0 a b t x y r ne ++ (x_way 2 a b t x y r lt ++ x_way 4 a b t x y r gt))
    | _, _ => none
  | _ => none
theorem xi_if3_ok {e0 e2 : Nat} (hw : ∀ {p : Program} {l : Launch} {e : Env} {R : Room} {s : State} {m : MethodId} {args : Array Value} {below : List Frame} {meth : Method} {c : Code}, CallFix p m c cc nL s args x_tbl own → ∀ {H : Heap} {locs : List Loc} {cells slots : Nat} {Q : State → Prop} {ls : Array Slot} {rest : List Value} {x y : Int32},
    (x.toInt = y.toInt → W p l e R s m args below meth c H locs cells slots Q (F0 m e0 ls rest)) → (x.toInt ≠ y.toInt → W p l e R s m args below meth c H locs cells slots Q (F0 m e2 ls rest)) → W p l e R s m args below meth c H locs cells slots Q (F0 m pc ls (.int y :: .int x :: rest))) : x_Snd cl K cc own nL nm MC MS pc (xi_if3 e0 e2 e2) := by
  intro V sc p l e R s m args below meth c D A H0 Q C hA hK t ts hpc hf hg
  unfold xi_if3 at hf
  split at hf
  · rename_i y x r hst
    split at hf
    · rename_i a b ha hb
      cases hf
      subst hpc
      intro ls stk H locs ⟨lv, ws, tys, h1, h2, h3, h4, h5, h6, h7, h8, h9⟩
      rw [hst] at h3
      match stk, h3 with
      | v1 :: v2 :: rest, h3 =>
        obtain ⟨ny, rfl, y1, y2⟩ := x_bi_ok h9 hb h3.1
        obtain ⟨nx', rfl, x1, x2⟩ := x_bi_ok h9 ha h3.2.1
        refine hw C.1 (fun hc => ?_) (fun hc => ?_)
        · have hc : x_cnd 0 nx'.toInt ny.toInt := hc
          obtain ⟨⟨g1, g2⟩, g3, g4⟩ := x_nar_ok ⟨x1, x2⟩ ⟨y1, y2⟩ hc
          exact hg _ (List.mem_append_left _ (x_way_in (x_may_ok ⟨x1, x2⟩ ⟨y1, y2⟩ hc))) ls rest H locs ⟨lv, ws, tys, h1, h2, h3.2.2, h4, h5, h6, h7, h8, x_setb_i (x_setb_i h9 h3.2.1 g1 g2) h3.1 g3 g4⟩
        · rcases Int.lt_or_gt_of_ne hc with hc | hc
          · have hc : x_cnd 2 nx'.toInt ny.toInt := hc
            obtain ⟨⟨g1, g2⟩, g3, g4⟩ := x_nar_ok ⟨x1, x2⟩ ⟨y1, y2⟩ hc
            exact hg _ (List.mem_append_right _ (List.mem_append_left _ (x_way_in (x_may_ok ⟨x1, x2⟩ ⟨y1, y2⟩ hc)))) ls rest H locs ⟨lv, ws, tys, h1, h2, h3.2.2, h4, h5, h6, h7, h8, x_setb_i (x_setb_i h9 h3.2.1 g1 g2) h3.1 g3 g4⟩
          · have hc : x_cnd 4 nx'.toInt ny.toInt := hc
            obtain ⟨⟨g1, g2⟩, g3, g4⟩ := x_nar_ok ⟨x1, x2⟩ ⟨y1, y2⟩ hc
            exact hg _ (List.mem_append_right _ (List.mem_append_right _ (x_way_in (x_may_ok ⟨x1, x2⟩ ⟨y1, y2⟩ hc)))) ls rest H locs ⟨lv, ws, tys, h1, h2, h3.2.2, h4, h5, h6, h7, h8, x_setb_i (x_setb_i h9 h3.2.1 g1 g2) h3.1 g3 g4⟩
    · cases hf
  · cases hf
theorem xr_3eq {off : Int} (d : decode cc pc = .ok (.if_icmp .eq off, 3)) (ht : (pc : Int) + off = (tg : Int)) : x_Snd cl K cc own nL nm MC MS pc (xi_if3 tg (pc + 3) (pc + 3)) := xi_if3_ok (fun S => fun kt kf => lv_icmp_eq S.1 S.2.1 d ht (fun h => kt (x_eq32.mp h)) (fun h => kf (fun q => h (x_eq32.mpr q))))
theorem xr_3ne {off : Int} (d : decode cc pc = .ok (.if_icmp .ne off, 3)) (ht : (pc : Int) + off = (tg : Int)) : x_Snd cl K cc own nL nm MC MS pc (xi_if3 (pc + 3) tg tg) := xi_if3_ok (fun S => fun kt kf => lv_icmp_ne S.1 S.2.1 d ht (fun h => kf (fun q => h (x_eq32.mpr q))) (fun h => kt (x_eq32.mp h)))
/-- a rest of 0, 1, 2 or 3 by 2 -/
def xF_rem (a b : Int × Int) : Option xV := bif decide (a.1 = a.2) && (decide (0 ≤ a.1) && (decide (a.1 ≤ 3) && (decide (b.1 = 2) && decide (b.2 = 2)))) then some (0, a.1 % 2, a.1 % 2) else none
theorem xr_irem (d : decode cc pc = .ok (.irem, 1)) : x_Snd cl K cc own nL nm MC MS pc (xi_bin xF_rem (pc + 1)) := xi_bin_ok (g := fun x y => x - x / y * y) (fun y => ¬ y = 0) (fun x y hy => (fun S => fun k => lv_irem S.1 S.2.1 d hy k)) (fun a b z x y h h1 h2 h3 h4 => by
  unfold xF_rem at h
  cases hb : (decide (a.1 = a.2) && (decide (0 ≤ a.1) && (decide (a.1 ≤ 3) && (decide (b.1 = 2) && decide (b.2 = 2))))) with
  | false => rw [hb] at h; cases h
  | true =>
    rw [hb] at h
    cases h
    simp only [Bool.and_eq_true, decide_eq_true_eq] at hb
    have e : y = 2 := x_eq32.mpr (by rw [show (2 : Int32).toInt = 2 from by decide]; omega)
    subst e
    have hx : x.toInt = a.1 := by omega
    have h4 : x = 0 ∨ x = 1 ∨ x = 2 ∨ x = 3 := by
      have : a.1 = 0 ∨ a.1 = 1 ∨ a.1 = 2 ∨ a.1 = 3 := by omega
      rcases this with q | q | q | q
      · exact Or.inl (x_eq32.mpr (by rw [hx, q]; decide))
      · exact Or.inr (Or.inl (x_eq32.mpr (by rw [hx, q]; decide)))
      · exact Or.inr (Or.inr (Or.inl (x_eq32.mpr (by rw [hx, q]; decide))))
      · exact Or.inr (Or.inr (Or.inr (x_eq32.mpr (by rw [hx, q]; decide))))
    refine ⟨by decide, fun ad V sc => ⟨_, rfl, ?_⟩⟩
    rw [← hx]
    rcases h4 with rfl | rfl | rfl | rfl <;> decide)
-- longs: shifts, masks, quotients
theorem x_shr64 (a s : Int64) (k : Nat) (hs : (s.toBitVec.smod 64).toNat = k) : (a >>> s).toInt = a.toInt >>> k := by
  show (a.toBitVec.sshiftRight (s.toBitVec.smod 64).toNat).toInt = _
  rw [hs, BitVec.toInt_sshiftRight]
  rfl
def x_shn (z : Int) : Bool := decide (z = 11) || (decide (z = 30) || decide (z = 40))
def xF_shrL (a b : Int × Int) : Option xV := bif decide (b.1 = b.2) && x_shn b.1 then some (4, a.1 / 2 ^ b.1.toNat, a.2 / 2 ^ b.1.toNat) else none
theorem x_shrI {x : Int64} {a : Int × Int} (k : Nat) (h1 : a.1 ≤ x.toInt) (h2 : x.toInt ≤ a.2) : a.1 / 2 ^ k ≤ x.toInt >>> k ∧ x.toInt >>> k ≤ a.2 / 2 ^ k := by
  rw [Int.shiftRight_eq_div_pow]
  have hp : (0 : Int) < ((2 ^ k : Nat) : Int) := by exact_mod_cast Nat.two_pow_pos k
  have e : ((2 ^ k : Nat) : Int) = 2 ^ k := by simp
  rw [e] at hp ⊢
  exact ⟨Int.ediv_le_ediv hp h1, Int.ediv_le_ediv hp h2⟩
theorem xr_lshr (d : decode cc pc = .ok (.lshr, 1)) : x_Snd cl K cc own nL nm MC MS pc (xi_shL xF_shrL (pc + 1)) := xi_shL_ok (g := fun x y => x >>> (y.toInt64 &&& 63)) (fun x y => (fun S => fun k => lv_lshr S.1 S.2.1 d rfl k)) (fun a b z x y h h1 h2 h3 h4 ad V sc => by
  unfold xF_shrL at h
  cases hb : (decide (b.1 = b.2) && x_shn b.1) with
  | false => rw [hb] at h; cases h
  | true =>
    rw [hb] at h
    cases h
    unfold x_shn at hb
    simp only [Bool.and_eq_true, Bool.or_eq_true, decide_eq_true_eq] at hb
    have key : (x >>> (y.toInt64 &&& 63)).toInt = x.toInt >>> b.1.toNat := by
      rcases hb.2 with q | q | q
      · have e : y = 11 := x_eq32.mpr (by rw [show (11 : Int32).toInt = 11 from by decide]; omega)
        subst e
        rw [q]
        exact x_shr64 x _ 11 (by decide)
      · have e : y = 30 := x_eq32.mpr (by rw [show (30 : Int32).toInt = 30 from by decide]; omega)
        subst e
        rw [q]
        exact x_shr64 x _ 30 (by decide)
      · have e : y = 40 := x_eq32.mpr (by rw [show (40 : Int32).toInt = 40 from by decide]; omega)
        subst e
        rw [q]
        exact x_shr64 x _ 40 (by decide)
    refine ⟨_, rfl, ?_⟩
    rw [key]
    exact x_shrI b.1.toNat h1 h2)
def xF_andL (a b : Int × Int) : Option xV := bif decide (b.1 = 1073741823) && decide (b.2 = 1073741823) then (bif decide (0 ≤ a.1) && decide (a.2 ≤ 1073741823) then some (4, a) else some (4, 0, 1073741823)) else none
theorem x_and64 (x : Int64) : ((x &&& 1073741823).toBitVec.toNat) = x.toBitVec.toNat % 2 ^ 30 := by
  rw [Int64.toBitVec_and, BitVec.toNat_and]
  rw [show (1073741823 : Int64).toBitVec.toNat = 2 ^ 30 - 1 from by decide, Nat.and_two_pow_sub_one_eq_mod]
theorem x_i64 (x : Int64) (h : x.toBitVec.toNat < 2 ^ 63) : x.toInt = x.toBitVec.toNat := by
  show x.toBitVec.toInt = _
  rw [BitVec.toInt_eq_toNat_cond, if_pos (by omega)]
theorem x_n64 (x : Int64) (h : 0 ≤ x.toInt) : (x.toBitVec.toNat : Int) = x.toInt := by
  have h2 : x.toInt = x.toBitVec.toInt := rfl
  rw [h2] at h ⊢
  rw [BitVec.toInt_eq_toNat_cond] at h ⊢
  split at h
  · rw [if_pos (by assumption)]
  · have := x.toBitVec.isLt
    omega
theorem xr_land (d : decode cc pc = .ok (.land, 1)) : x_Snd cl K cc own nL nm MC MS pc (xi_binL xF_andL (pc + 1)) := xi_binL_ok (g := fun x y => x &&& y) (fun _ => True) (fun x y _ => (fun S => fun k => lv_land S.1 S.2.1 d k)) (fun a b z x y h h1 h2 h3 h4 => ⟨trivial, fun ad V sc => by
  unfold xF_andL at h
  cases hb : (decide (b.1 = 1073741823) && decide (b.2 = 1073741823)) with
  | false => rw [hb] at h; cases h
  | true =>
    rw [hb] at h
    simp only [cond_true] at h
    simp only [Bool.and_eq_true, decide_eq_true_eq] at hb
    have e : y = 1073741823 := Int64.toInt_inj.mp (by rw [show (1073741823 : Int64).toInt = 1073741823 from by decide]; omega)
    subst e
    have hn := x_and64 x
    have hlt : x.toBitVec.toNat % 2 ^ 30 < 2 ^ 30 := Nat.mod_lt _ (by decide)
    have hi := x_i64 (x &&& 1073741823) (by rw [hn]; omega)
    rw [hn] at hi
    cases hb2 : (decide (0 ≤ a.1) && decide (a.2 ≤ 1073741823)) with
    | false =>
      rw [hb2] at h
      cases h
      exact ⟨_, rfl, by show (0 : Int) ≤ _; omega, by show _ ≤ (1073741823 : Int); omega⟩
    | true =>
      rw [hb2] at h
      cases h
      simp only [Bool.and_eq_true, decide_eq_true_eq] at hb2
      have h0 := x_n64 x (by omega)
      have hm : x.toBitVec.toNat % 2 ^ 30 = x.toBitVec.toNat := Nat.mod_eq_of_lt (by omega)
      rw [hm] at hi
      exact ⟨_, rfl, by show a.1 ≤ _; omega, by show _ ≤ a.2; omega⟩⟩)
def xF_divL (a b : Int × Int) : Option xV := bif decide (0 ≤ a.1) && (decide (1 ≤ b.1) && decide (b.1 = b.2)) then some (4, a.1 / b.1, a.2 / b.1) else none
theorem xr_ldiv (d : decode cc pc = .ok (.ldiv, 1)) : x_Snd cl K cc own nL nm MC MS pc (xi_binL xF_divL (pc + 1)) := xi_binL_ok (g := fun x y => x / y) (fun y => ¬ y = 0) (fun x y hy => (fun S => fun k => lv_ldiv S.1 S.2.1 d hy k)) (fun a b z x y h h1 h2 h3 h4 => by
  unfold xF_divL at h
  cases hb : (decide (0 ≤ a.1) && (decide (1 ≤ b.1) && decide (b.1 = b.2))) with
  | false => rw [hb] at h; cases h
  | true =>
    rw [hb] at h
    cases h
    simp only [Bool.and_eq_true, decide_eq_true_eq] at hb
    have hy : y.toInt = b.1 := by omega
    refine ⟨fun e => by rw [e] at hy; have : (0 : Int64).toInt = 0 := by decide
                        omega, fun ad V sc => ⟨_, rfl, ?_⟩⟩
    have hne : y ≠ -1 := fun e => by
      rw [e] at hy
      have : (-1 : Int64).toInt = -1 := by decide
      omega
    rw [Int64.toInt_div_of_ne_right x y hne, Int.tdiv_eq_ediv_of_nonneg (by omega), hy]
    exact ⟨Int.ediv_le_ediv (by omega) h1, Int.ediv_le_ediv (by omega) h2⟩)
/-- the script: its length is the token 15, the place k is the token k -/
def x_Scr (R : Room) (s : State) (A : Nat → Prop) (H : Heap) (V : List Int) (sc : Nat × Nat × List Nat) : Prop := ∃ (L : Nat) (xs : Nat → Int32), va_X sc.1 L xs s H ∧ sc.1 < H.size ∧ ¬ A sc.1 ∧ L ≤ 6 ∧ V[15]? = some (L : Int) ∧ V[16]? = some ((L : Int) - 6) ∧ ∀ j : Nat, j < L → V[j]? = some (xs j).toInt
def xi_slen (nx : Nat) : xS → Option (List xS) := fun t => match t.2.2.1 with
  | (10, _, _) :: r => some [(nx, t.2.1, (3, 15, 0) :: r, t.2.2.2)]
  | _ => none
def xi_sld (nx : Nat) : xS → Option (List xS) := fun t => match t.2.2.1 with
  | i :: (10, _, _) :: r => match x_bi t.2.2.2.2.1 i, t.2.2.2.2.1[16]? with
    | some b, some q => bif decide (b.1 = b.2) && (decide (0 ≤ b.1) && (decide (b.1 ≤ 5) && decide (0 ≤ q.1))) then some [(nx, t.2.1, (3, b.1, 0) :: r, t.2.2.2)] else none
    | _, _ => none
  | _ => none
theorem xr_slen (hS : ∀ R s A H V sc, K R s A H V sc → x_Scr R s A H V sc) (d : decode cc pc = .ok (.arraylength, 1)) : x_Snd cl K cc own nL nm MC MS pc (xi_slen (pc + 1)) := by
  intro V sc p l e R s m args below meth c D A H0 Q C hA hK t ts hpc hf hg
  unfold xi_slen at hf
  split at hf
  · rename_i a b r hst
    cases hf
    subst hpc
    intro ls stk H locs ⟨lv, ws, tys, h1, h2, h3, h4, h5, h6, h7, h8, h9⟩
    rw [hst] at h3
    match stk, h3 with
    | v :: rest, h3 =>
      obtain ⟨rfl, -⟩ := h3.1
      obtain ⟨L, xs, g1, g2, g3, g4, g5, g6, g7⟩ := hS _ _ _ _ _ _ hK
      refine va_slen C.1.1 C.1.2.1 g1 g2 g3 h8 d (hg _ List.mem_cons_self ls (.int (Int32.ofNat L) :: rest) H locs ⟨lv, ws, tys, h1, h2, ⟨⟨_, rfl, ?_⟩, h3.2⟩, h4, h5, h6, h7, h8, h9⟩)
      show V[15]? = _
      rw [g5]
      have : (Int32.ofNat L).toInt = (L : Int) := nI_toInt (by omega)
      rw [this]
  · cases hf
theorem xr_sld (hS : ∀ R s A H V sc, K R s A H V sc → x_Scr R s A H V sc) (d : decode cc pc = .ok (.iaload, 1)) : x_Snd cl K cc own nL nm MC MS pc (xi_sld (pc + 1)) := by
  intro V sc p l e R s m args below meth c D A H0 Q C hA hK t ts hpc hf hg
  unfold xi_sld at hf
  split at hf
  · rename_i i a b r hst
    split at hf
    · rename_i ib q hib hq
      cases hb : (decide (ib.1 = ib.2) && (decide (0 ≤ ib.1) && (decide (ib.1 ≤ 5) && decide (0 ≤ q.1)))) with
      | false => rw [hb] at hf; cases hf
      | true =>
        rw [hb] at hf
        cases hf
        subst hpc
        simp only [Bool.and_eq_true, decide_eq_true_eq] at hb
        intro ls stk H locs ⟨lv, ws, tys, h1, h2, h3, h4, h5, h6, h7, h8, h9⟩
        rw [hst] at h3
        match stk, h3 with
        | v :: v' :: rest, h3 =>
          obtain ⟨ni, rfl, i1, i2⟩ := x_bi_ok h9 hib h3.1
          obtain ⟨rfl, -⟩ := h3.2.1
          obtain ⟨L, xs, g1, g2, g3, g4, g5, g6, g7⟩ := hS _ _ _ _ _ _ hK
          obtain ⟨z, z1, z2, z3⟩ := h9 16 q hq
          rw [g6] at z1
          cases z1
          have e : ni.toNatClampNeg = ib.1.toNat := by
            show ni.toInt.toNat = _
            omega
          refine va_sld C.1.1 C.1.2.1 g1 g2 g3 h8 (i := ni) (vp_in_iff.mpr ⟨by omega, by omega⟩) d (hg _ List.mem_cons_self ls (.int (xs ni.toNatClampNeg) :: rest) H locs ⟨lv, ws, tys, h1, h2, ⟨⟨_, rfl, ?_⟩, h3.2.2⟩, h4, h5, h6, h7, h8, h9⟩)
          rw [e]
          have h5' : ib.1.toNat < L := by
            have := hb.2.2.2
            omega
          exact g7 _ h5'
    · cases hf
  · cases hf
/-- two ints of which the tables of tokens know the result -/
def x_mt (tk : xT) (c : Nat) (q : Int × Int) : xT := match tk[c]? with
  | some z => tk.set c (x_max z.1 q.1, x_min z.2 q.2)
  | none => tk
theorem x_mt_ok {tk : xT} {V : List Int} {c : Nat} {q : Int × Int} {z : Int} (h : x_tk tk V) (hv : V[c]? = some z) (h1 : q.1 ≤ z) (h2 : z ≤ q.2) : x_tk (x_mt tk c q) V := by
  unfold x_mt
  split
  · rename_i w hw
    obtain ⟨n, n1, n2, n3⟩ := h c w hw
    rw [hv] at n1
    cases n1
    exact x_tk_set h hv (x_max_le n2 h1) (x_le_min n3 h2)
  · exact h
def x_r32 (q : Int × Int) : Bool := decide (-2147483648 ≤ q.1) && decide (q.2 ≤ 2147483647)
def xi_bT (px py : xV) (c : Nat) (F : Int × Int → Int × Int → Int × Int) (nx : Nat) : xS → Option (List xS) := fun t => match t.2.2.1 with
  | y :: x :: r => match x_bi t.2.2.2.2.1 x, x_bi t.2.2.2.2.1 y with
    | some a, some b => bif x_eqv x px && (x_eqv y py && x_r32 (F a b)) then some [(nx, t.2.1, (3, (c : Int), 0) :: r, t.2.2.2.1, x_mt t.2.2.2.2.1 c (F a b), t.2.2.2.2.2)] else none
    | _, _ => none
  | _ => none
theorem xi_bT_ok {px py : xV} {c : Nat} {F : Int × Int → Int × Int → Int × Int} {g : Int32 → Int32 → Int32} {G : Int → Int → Int} (hw : ∀ x y, x_Stk cc own nL pc nx [.int y, .int x] [.int (g x y)]) (hgG : ∀ x y : Int32, (g x y).toInt = (G x.toInt y.toInt).bmod 4294967296)
    (hF : ∀ (a b : Int × Int) (x y : Int), a.1 ≤ x → x ≤ a.2 → b.1 ≤ y → y ≤ b.2 → (F a b).1 ≤ G x y ∧ G x y ≤ (F a b).2) (hV : ∀ R s A H V sc, K R s A H V sc → ∀ ad (x y : Int32), x_rel ad V sc px (.int x) → x_rel ad V sc py (.int y) → V[c]? = some (G x.toInt y.toInt)) : x_Snd cl K cc own nL nm MC MS pc (xi_bT px py c F nx) := by
  intro V sc p l e R s m args below meth c D A H0 Q C hA hK t ts hpc hf hg
  unfold xi_bT at hf
  split at hf
  · rename_i y x r hst
    split at hf
    · rename_i a b ha hb
      cases hbb : (x_eqv x px && (x_eqv y py && x_r32 (F a b))) with
      | false => rw [hbb] at hf; cases hf
      | true =>
        rw [hbb] at hf
        cases hf
        simp only [Bool.and_eq_true] at hbb
        obtain ⟨q1, q2, q3⟩ := hbb
        have e1 := x_eqv_ok q1
        have e2 := x_eqv_ok q2
        subst e1
        subst e2
        unfold x_r32 at q3
        simp only [Bool.and_eq_true, decide_eq_true_eq] at q3
        subst hpc
        intro ls stk H locs ⟨lv, ws, tys, h1, h2, h3, h4, h5, h6, h7, h8, h9⟩
        rw [hst] at h3
        match stk, h3 with
        | v1 :: v2 :: rest, h3 =>
          obtain ⟨ny, rfl, y1, y2⟩ := x_bi_ok h9 hb h3.1
          obtain ⟨nx', rfl, x1, x2⟩ := x_bi_ok h9 ha h3.2.1
          obtain ⟨f1, f2⟩ := hF a b nx'.toInt ny.toInt x1 x2 y1 y2
          have hv := hV _ _ _ _ _ _ hK _ nx' ny h3.2.1 h3.1
          have eg : (g nx' ny).toInt = G nx'.toInt ny.toInt := by rw [hgG, x_bmod (by omega) (by omega)]
          exact hw nx' ny C.1 (hg _ List.mem_cons_self ls (.int (g nx' ny) :: rest) H locs ⟨lv, ws, tys, h1, h2, ⟨⟨_, rfl, by simp only [Int.toNat_natCast]; rw [eg]; exact hv⟩, h3.2.2⟩, h4, h5, h6, h7, h8, x_mt_ok h9 hv f1 f2⟩)
    · cases hf
  · cases hf
def xG_add (a b : Int × Int) : Int × Int := (a.1 + b.1, a.2 + b.2)
def xG_sub (a b : Int × Int) : Int × Int := (a.1 - b.2, a.2 - b.1)
def xG_mul (a b : Int × Int) : Int × Int := (x_min (x_min (a.1 * b.1) (a.2 * b.1)) (x_min (a.1 * b.2) (a.2 * b.2)), x_max (x_max (a.1 * b.1) (a.2 * b.1)) (x_max (a.1 * b.2) (a.2 * b.2)))
theorem xr_taddI {px py : xV} {c : Nat} (d : decode cc pc = .ok (.iadd, 1)) (hV : ∀ R s A H V sc, K R s A H V sc → ∀ ad (x y : Int32), x_rel ad V sc px (.int x) → x_rel ad V sc py (.int y) → V[c]? = some (x.toInt + y.toInt)) : x_Snd cl K cc own nL nm MC MS pc (xi_bT px py c xG_add (pc + 1)) := xi_bT_ok (g := fun x y => x + y) (G := fun x y => x + y) (fun x y => (fun S => fun k => lv_iadd S.1 S.2.1 d k)) (fun x y => Int32.toInt_add x y) (fun a b x y h1 h2 h3 h4 => ⟨by show a.1 + b.1 ≤ _; omega, by show _ ≤ a.2 + b.2; omega⟩) hV
theorem xr_tsubI {px py : xV} {c : Nat} (d : decode cc pc = .ok (.isub, 1)) (hV : ∀ R s A H V sc, K R s A H V sc → ∀ ad (x y : Int32), x_rel ad V sc px (.int x) → x_rel ad V sc py (.int y) → V[c]? = some (x.toInt - y.toInt)) : x_Snd cl K cc own nL nm MC MS pc (xi_bT px py c xG_sub (pc + 1)) := xi_bT_ok (g := fun x y => x - y) (G := fun x y => x - y) (fun x y => (fun S => fun k => lv_isub S.1 S.2.1 d k)) (fun x y => Int32.toInt_sub x y) (fun a b x y h1 h2 h3 h4 => ⟨by show a.1 - b.2 ≤ _; omega, by show _ ≤ a.2 - b.1; omega⟩) hV
theorem xr_tmulI {px py : xV} {c : Nat} (d : decode cc pc = .ok (.imul, 1)) (hV : ∀ R s A H V sc, K R s A H V sc → ∀ ad (x y : Int32), x_rel ad V sc px (.int x) → x_rel ad V sc py (.int y) → V[c]? = some (x.toInt * y.toInt)) : x_Snd cl K cc own nL nm MC MS pc (xi_bT px py c xG_mul (pc + 1)) := xi_bT_ok (g := fun x y => x * y) (G := fun x y => x * y) (fun x y => (fun S => fun k => lv_imul S.1 S.2.1 d k)) (fun x y => Int32.toInt_mul x y) (fun a b x y h1 h2 h3 h4 => x_corner h1 h2 h3 h4) hV
def xi_nT (px : xV) (c : Nat) (nx : Nat) : xS → Option (List xS) := fun t => match t.2.2.1 with
  | x :: r => match x_bi t.2.2.2.2.1 x with
    | some a => bif x_eqv x px && x_r32 (-a.2, -a.1) then some [(nx, t.2.1, (3, (c : Int), 0) :: r, t.2.2.2.1, x_mt t.2.2.2.2.1 c (-a.2, -a.1), t.2.2.2.2.2)] else none
    | _ => none
  | _ => none
theorem xr_tnegI {px : xV} {c : Nat} (d : decode cc pc = .ok (.ineg, 1)) (hV : ∀ R s A H V sc, K R s A H V sc → ∀ ad (x : Int32), x_rel ad V sc px (.int x) → V[c]? = some (-x.toInt)) : x_Snd cl K cc own nL nm MC MS pc (xi_nT px c (pc + 1)) := by
  have hw : ∀ x, x_Stk cc own nL pc (pc + 1) [.int x] [.int (-x)] := fun x => (fun S => fun k => lv_ineg S.1 S.2.1 d k)
  intro V sc p l e R s m args below meth c D A H0 Q C hA hK t ts hpc hf hg
  unfold xi_nT at hf
  split at hf
  · rename_i x r hst
    split at hf
    · rename_i a ha
      cases hbb : (x_eqv x px && x_r32 (-a.2, -a.1)) with
      | false => rw [hbb] at hf; cases hf
      | true =>
        rw [hbb] at hf
        cases hf
        simp only [Bool.and_eq_true] at hbb
        obtain ⟨q1, q3⟩ := hbb
        have e1 := x_eqv_ok q1
        subst e1
        unfold x_r32 at q3
        simp only [Bool.and_eq_true, decide_eq_true_eq] at q3
        subst hpc
        intro ls stk H locs ⟨lv, ws, tys, h1, h2, h3, h4, h5, h6, h7, h8, h9⟩
        rw [hst] at h3
        match stk, h3 with
        | v2 :: rest, h3 =>
          obtain ⟨nx', rfl, x1, x2⟩ := x_bi_ok h9 ha h3.1
          have hv := hV _ _ _ _ _ _ hK _ nx' h3.1
          have eg : (-nx').toInt = -nx'.toInt := by rw [Int32.toInt_neg, x_bmod (by omega) (by omega)]
          exact hw nx' C.1 (hg _ List.mem_cons_self ls (.int (-nx') :: rest) H locs ⟨lv, ws, tys, h1, h2, ⟨⟨_, rfl, by simp only [Int.toNat_natCast]; rw [eg]; exact hv⟩, h3.2⟩, h4, h5, h6, h7, h8, x_mt_ok h9 hv (by show -a.2 ≤ _; omega) (by show _ ≤ -a.1; omega)⟩)
    · cases hf
  · cases hf
def xi_aTL (px py : xV) (c : Nat) (nx : Nat) : xS → Option (List xS) := fun t => match t.2.2.1 with
  | y :: x :: r => match x_bl t.2.2.2.2.1 x, x_bl t.2.2.2.2.1 y with
    | some a, some b => bif x_eqv x px && (x_eqv y py && x_r32 (-2147483648 + (a.1 + b.1) / 2147483648, (a.2 + b.2) / 2147483648)) then some [(nx, t.2.1, (6, (c : Int), 0) :: r, t.2.2.2.1, x_mt t.2.2.2.2.1 c (xG_add a b), t.2.2.2.2.2)] else none
    | _, _ => none
  | _ => none
theorem xr_taddL {px py : xV} {c : Nat} (d : decode cc pc = .ok (.ladd, 1)) (hV : ∀ R s A H V sc, K R s A H V sc → ∀ ad (x y : Int64), x_rel ad V sc px (.long x) → x_rel ad V sc py (.long y) → V[c]? = some (x.toInt + y.toInt)) : x_Snd cl K cc own nL nm MC MS pc (xi_aTL px py c (pc + 1)) := by
  have hw : ∀ x y, x_Stk cc own nL pc (pc + 1) [.long y, .long x] [.long (x + y)] := fun x y => (fun S => fun k => lv_ladd S.1 S.2.1 d k)
  intro V sc p l e R s m args below meth c D A H0 Q C hA hK t ts hpc hf hg
  unfold xi_aTL at hf
  split at hf
  · rename_i y x r hst
    split at hf
    · rename_i a b ha hb
      cases hbb : (x_eqv x px && (x_eqv y py && x_r32 (-2147483648 + (a.1 + b.1) / 2147483648, (a.2 + b.2) / 2147483648))) with
      | false => rw [hbb] at hf; cases hf
      | true =>
        rw [hbb] at hf
        cases hf
        simp only [Bool.and_eq_true] at hbb
        obtain ⟨q1, q2, q3⟩ := hbb
        have e1 := x_eqv_ok q1
        have e2 := x_eqv_ok q2
        subst e1
        subst e2
        unfold x_r32 at q3
        simp only [Bool.and_eq_true, decide_eq_true_eq] at q3
        subst hpc
        intro ls stk H locs ⟨lv, ws, tys, h1, h2, h3, h4, h5, h6, h7, h8, h9⟩
        rw [hst] at h3
        match stk, h3 with
        | v1 :: v2 :: rest, h3 =>
          obtain ⟨ny, rfl, y1, y2⟩ := x_bl_ok h9 hb h3.1
          obtain ⟨nx', rfl, x1, x2⟩ := x_bl_ok h9 ha h3.2.1
          have hv := hV _ _ _ _ _ _ hK _ nx' ny h3.2.1 h3.1
          have eg : (nx' + ny).toInt = nx'.toInt + ny.toInt := by rw [Int64.toInt_add]; exact x_bmodL (by omega) (by omega)
          exact hw nx' ny C.1 (hg _ List.mem_cons_self ls (.long (nx' + ny) :: rest) H locs ⟨lv, ws, tys, h1, h2, ⟨⟨_, rfl, by simp only [Int.toNat_natCast]; rw [eg]; exact hv⟩, h3.2.2⟩, h4, h5, h6, h7, h8, x_mt_ok h9 hv (by show a.1 + b.1 ≤ _; omega) (by show _ ≤ a.2 + b.2; omega)⟩)
    · cases hf
  · cases hf
/-- a comparison of two, as one of a third and a number -/
def xi_if2R (k : Nat) (px py : xV) (c : Nat) (z : Int) (tg nx : Nat) : xS → Option (List xS) := fun t => match t.2.2.1 with
  | y :: x :: r => bif x_eqv x px && x_eqv y py then match t.2.2.2.2.1[c]? with
      | some a => some (x_way k a (z, z) t (3, (c : Int), 0) (0, z, z) r tg ++ x_way (x_neg k) a (z, z) t (3, (c : Int), 0) (0, z, z) r nx)
      | none => none
    else xi_if2 k tg nx t
  | _ => none
theorem xi_if2R_ok {k : Nat} {px py : xV} {c : Nat} {z : Int} (hw : x_If2 cc own nL pc tg nx k) (hV : ∀ R s A H V sc, K R s A H V sc → ∀ ad (x y : Int32), x_rel ad V sc px (.int x) → x_rel ad V sc py (.int y) → ∃ n, V[c]? = some n ∧ n - z = x.toInt - y.toInt) (hpx : px.1 = 0 ∨ px.1 = 3) (hpy : py.1 = 0 ∨ py.1 = 3) : x_Snd cl K cc own nL nm MC MS pc (xi_if2R k px py c z tg nx) := by
  intro V sc p l e R s m args below meth c D A H0 Q C hA hK t ts hpc hf hg
  unfold xi_if2R at hf
  split at hf
  · rename_i y x r hst
    cases hbb : (x_eqv x px && x_eqv y py) with
    | false => rw [hbb] at hf; exact xi_if2_ok hw C hA hK t ts hpc hf hg
    | true =>
      rw [hbb] at hf
      simp only [cond_true] at hf
      simp only [Bool.and_eq_true] at hbb
      have e1 := x_eqv_ok hbb.1
      have e2 := x_eqv_ok hbb.2
      subst e1
      subst e2
      split at hf
      · rename_i a ha
        cases hf
        subst hpc
        intro ls stk H locs ⟨lv, ws, tys, h1, h2, h3, h4, h5, h6, h7, h8, h9⟩
        rw [hst] at h3
        match stk, h3 with
        | v1 :: v2 :: rest, h3 =>
          have hi : ∀ {q : xV} {v : Value} {ad : List Nat}, (q.1 = 0 ∨ q.1 = 3) → x_rel ad V sc q v → ∃ n, v = .int n := fun {q v ad} hq hr => by
            obtain ⟨q1, q2, q3⟩ := q
            rcases hq with h0 | h0
            · simp only at h0; subst h0; exact ⟨_, hr.choose_spec.1⟩
            · simp only at h0; subst h0; exact ⟨_, hr.choose_spec.1⟩
          obtain ⟨ny, rfl⟩ := hi hpy h3.1
          obtain ⟨nx', rfl⟩ := hi hpx h3.2.1
          obtain ⟨n, n1, n2⟩ := hV _ _ _ _ _ _ hK _ nx' ny h3.2.1 h3.1
          obtain ⟨n', m1, m2, m3⟩ := h9 _ _ ha
          rw [n1] at m1
          cases m1
          have hzz : (z, z).1 ≤ z ∧ z ≤ (z, z).2 := ⟨Int.le_refl z, Int.le_refl z⟩
          have hcc : ∀ k, x_cnd k nx'.toInt ny.toInt → x_cnd k n z := fun k h => by
            unfold x_cnd at h ⊢
            split <;> simp only at h <;> omega
          refine hw C.1 (fun hc => ?_) (fun hc => ?_)
          · have hc := hcc _ hc
            obtain ⟨⟨g1, g2⟩, g3, g4⟩ := x_nar_ok ⟨m2, m3⟩ hzz hc
            exact hg _ (List.mem_append_left _ (x_way_in (x_may_ok ⟨m2, m3⟩ hzz hc))) ls rest H locs ⟨lv, ws, tys, h1, h2, h3.2.2, h4, h5, h6, h7, h8, x_tk_set h9 (by simp only [Int.toNat_natCast]; exact n1) g1 g2⟩
          · have hc := hcc _ (x_neg_ok hc)
            obtain ⟨⟨g1, g2⟩, g3, g4⟩ := x_nar_ok ⟨m2, m3⟩ hzz hc
            exact hg _ (List.mem_append_right _ (x_way_in (x_may_ok ⟨m2, m3⟩ hzz hc))) ls rest H locs ⟨lv, ws, tys, h1, h2, h3.2.2, h4, h5, h6, h7, h8, x_tk_set h9 (by simp only [Int.toNat_natCast]; exact n1) g1 g2⟩
      · cases hf
  · cases hf
/-- a comparison of two tokens that is known -/
def xi_if2K (k : Nat) (px py : xV) (b : Bool) (tg nx : Nat) : xS → Option (List xS) := fun t => match t.2.2.1 with
  | y :: x :: r => bif x_eqv x px && x_eqv y py then some [(bif b then tg else nx, t.2.1, r, t.2.2.2)] else xi_if2 k tg nx t
  | _ => none
theorem xi_if2K_ok {k : Nat} {px py : xV} {b : Bool} (hw : x_If2 cc own nL pc tg nx k) (hV : ∀ R s A H V sc, K R s A H V sc → ∀ ad (x y : Int32), x_rel ad V sc px (.int x) → x_rel ad V sc py (.int y) → (b = true ↔ x_cnd k x.toInt y.toInt)) (hpx : px.1 = 0 ∨ px.1 = 3) (hpy : py.1 = 0 ∨ py.1 = 3) : x_Snd cl K cc own nL nm MC MS pc (xi_if2K k px py b tg nx) := by
  intro V sc p l e R s m args below meth c D A H0 Q C hA hK t ts hpc hf hg
  unfold xi_if2K at hf
  split at hf
  · rename_i y x r hst
    cases hbb : (x_eqv x px && x_eqv y py) with
    | false => rw [hbb] at hf; exact xi_if2_ok hw C hA hK t ts hpc hf hg
    | true =>
      rw [hbb] at hf
      simp only [cond_true] at hf
      simp only [Bool.and_eq_true] at hbb
      have e1 := x_eqv_ok hbb.1
      have e2 := x_eqv_ok hbb.2
      subst e1
      subst e2
      cases hf
      subst hpc
      intro ls stk H locs ⟨lv, ws, tys, h1, h2, h3, h4⟩
      rw [hst] at h3
      match stk, h3 with
      | v1 :: v2 :: rest, h3 =>
        have hi : ∀ {q : xV} {v : Value} {ad : List Nat}, (q.1 = 0 ∨ q.1 = 3) → x_rel ad V sc q v → ∃ n, v = .int n := fun {q v ad} hq hr => by
          obtain ⟨q1, q2, q3⟩ := q
          rcases hq with h0 | h0
          · simp only at h0; subst h0; exact ⟨_, hr.choose_spec.1⟩
          · simp only at h0; subst h0; exact ⟨_, hr.choose_spec.1⟩
        obtain ⟨ny, rfl⟩ := hi hpy h3.1
        obtain ⟨nx', rfl⟩ := hi hpx h3.2.1
        have hv := hV _ _ _ _ _ _ hK _ nx' ny h3.2.1 h3.1
        have hgo := hg _ List.mem_cons_self ls rest H locs ⟨lv, ws, tys, h1, h2, h3.2.2, h4⟩
        refine hw C.1 (fun hc => ?_) (fun hc => ?_)
        · rw [hv.mpr hc] at hgo
          exact hgo
        · have hb : b = false := by
            cases b with
            | false => rfl
            | true => exact absurd (hv.mp rfl) hc
          rw [hb] at hgo
          exact hgo
  · cases hf
/-- one of an array's elements, by the bounds of all -/
def xi_aldH (b : Bool) (nx : Nat) : xS → Option (List xS) := fun t => match t.2.2.1 with
  | i :: (1, j, _) :: r => match x_bi t.2.2.2.2.1 i, x_at t.2.2.2.1 j.toNat with
    | some ib, some (kd, _, n, d, o) => bif x_akd b kd && (decide (0 ≤ ib.1) && decide (ib.2 < n)) then match x_hul d o with
      | some x => some [(nx, t.2.1, x :: r, t.2.2.2)]
      | none => none
      else none
    | _, _ => none
  | _ => none
theorem xi_aldH_ok {b : Bool} (hw : ∀ kd, x_akd b kd = true → x_Al cl cc own nL nm MC MS pc nx (x_aty kd)) : x_Snd cl K cc own nL nm MC MS pc (xi_aldH b nx) := by
  intro V sc p l e R s m args below meth c D A H0 Q C hA hK t ts hpc hf hg
  unfold xi_aldH at hf
  split at hf
  · rename_i i j jb r hst
    split at hf
    · rename_i ib kd cN n d o hib hcell
      cases hb : (x_akd b kd && (decide (0 ≤ ib.1) && decide (ib.2 < n))) with
      | false => rw [hb] at hf; cases hf
      | true =>
        rw [hb] at hf
        simp only [cond_true] at hf
        split at hf
        · rename_i x hx
          cases hf
          subst hpc
          simp only [Bool.and_eq_true, decide_eq_true_eq] at hb
          intro ls stk H locs ⟨lv, ws, tys, h1, h2, h3, h4, h5, h6, h7, h8, h9⟩
          rw [hst] at h3
          match stk, h3 with
          | v1 :: v2 :: rest, h3 =>
            obtain ⟨ni, rfl, i1, i2⟩ := x_bi_ok h9 hib h3.1
            obtain ⟨a, ee, hq, rfl, hc⟩ := x_ref h4 h3.2.1 hcell
            obtain ⟨t0, cA, f, g1, rfl, g2, g3⟩ := x_arr hb.1 hc
            obtain ⟨k1, k2, k3, k4⟩ := x_ix hb.2.1 hb.2.2 i1 i2
            exact hw kd hb.1 C h5 h6 hq g1 k1 (hg _ List.mem_cons_self ls (.int (f ni.toNatClampNeg) :: rest) H locs ⟨lv, ws, tys, h1, h2, ⟨x_hul_ok hx (fun _ h => h) _ (g3 _ k2), h3.2.2⟩, h4, h5, h6, h7, h8, h9⟩)
        · cases hf
    · cases hf
  · cases hf
theorem xr_ialdH (d : decode cc pc = .ok (.iaload, 1)) : x_Snd cl K cc own nL nm MC MS pc (xi_aldH false (pc + 1)) := xi_aldH_ok (fun kd hk => by
  have e := Nat.eq_of_beq_eq_true hk
  subst e
  intro p l e R s m args below meth c C H locs cells slots Q ls rest D tys ws a q0 t0 n cA f i h1 h2 h3 h4 h5 k
  exact va_iald C.1.1 C.1.2.1 h1 h2 _ _ h3 h4 h5 d k)
/-- counting up by one: a token's next -/
def x_even (j : Int) : Bool := decide (j = 20) || (decide (j = 22) || (decide (j = 24) || (decide (j = 26) || (decide (j = 28) || decide (j = 30)))))
def xi_incT (i nx : Nat) : xS → Option (List xS) := fun t => match x_find t.2.1 i with
  | some (3, j, z) => match t.2.2.2.2.1[j.toNat]? with
    | some a => bif x_even j && decide (a.2 < 2147483647) then some [(nx, (i, (3, j + 1, 0)) :: t.2.1.filter (x_flt 0 i), t.2.2.1, t.2.2.2.1, t.2.2.2.2.1.set (j.toNat + 1) (a.1 + 1, a.2 + 1), t.2.2.2.2.2)] else xi_inc i 1 nx t
    | none => none
  | _ => xi_inc i 1 nx t
theorem xr_iincT {i : Nat} (hV : ∀ R s A H V sc, K R s A H V sc → ∀ j : Int, x_even j = true → V[j.toNat + 1]? = V[j.toNat]?.map (· + 1)) (d : decode cc pc = .ok (.iinc i 1, 3)) (hn : i < nL) : x_Snd cl K cc own nL nm MC MS pc (xi_incT i (pc + 3)) := by
  have hw : x_Inc cc own nL pc (pc + 3) i 1 := (fun S => fun hl hk k => lv_iinc S.1 S.2.1 d hl hk rfl hn rfl k)
  intro V sc p l e R s m args below meth c D A H0 Q C hA hK t ts hpc hf hg
  unfold xi_incT at hf
  split at hf
  · rename_i j z hx
    split at hf
    · rename_i a ha
      cases hbb : (x_even j && decide (a.2 < 2147483647)) with
      | false => rw [hbb] at hf; exact xi_inc_ok (by decide) hw C hA hK t ts hpc hf hg
      | true =>
        rw [hbb] at hf
        cases hf
        simp only [Bool.and_eq_true, decide_eq_true_eq] at hbb
        subst hpc
        intro ls stk H locs ⟨lv, ws, tys, h1, h2, h3, h4, h5, h6, h7, h8, h9⟩
        obtain ⟨k, v, hk, hr⟩ := x_find_ok h2 hx
        obtain ⟨n, rfl, hn2⟩ := hr
        simp only at hn2
        obtain ⟨n', m1, m2, m3⟩ := h9 _ _ ha
        rw [hn2] at m1
        cases m1
        have hv := hV _ _ _ _ _ _ hK j hbb.1
        rw [hn2] at hv
        have hv : V[j.toNat + 1]? = some (n.toInt + 1) := hv
        have hr := x_rng n
        have en : (n + Int32.ofInt 1).toInt = n.toInt + 1 := by
          rw [Int32.toInt_add, show (Int32.ofInt 1).toInt = 1 from by decide]
          exact x_bmod (by omega) (by omega)
        have hj : 0 ≤ j := by
          have := hbb.1
          unfold x_even at this
          simp only [Bool.or_eq_true, decide_eq_true_eq] at this
          omega
        have ej : (j + 1).toNat = j.toNat + 1 := by omega
        refine hw C.1 h1 hk (fun ls' hl' => hg _ List.mem_cons_self ls' stk H locs ⟨_, ws, tys, hl', ⟨⟨rfl, ⟨_, rfl, ?_⟩⟩, x_all2_filter h2 x_flt_eq⟩, h3, h4, h5, h6, h7, h8, x_tk_set h9 hv (by show a.1 + 1 ≤ _; omega) (by show _ ≤ a.2 + 1; omega)⟩)
        simp only [ej]
        rw [hv, en]
    · cases hf
  · exact xi_inc_ok (by decide) hw C hA hK t ts hpc hf hg
/-- the token 22 is not above the token 20 -/
def xi_rel (f : xS → Option (List xS)) : xS → Option (List xS) := fun t => match t.2.2.2.2.1[20]?, t.2.2.2.2.1[22]? with
  | some a, some b => f (x_tks t 22 (b.1, x_min b.2 a.2))
  | _, _ => f t
theorem xi_rel_ok {f : xS → Option (List xS)} (hV : ∀ R s A H V sc, K R s A H V sc → ∀ x y, V[20]? = some x → V[22]? = some y → y ≤ x) (hw : x_Snd cl K cc own nL nm MC MS pc f) : x_Snd cl K cc own nL nm MC MS pc (xi_rel f) := by
  intro V sc p l e R s m args below meth c D A H0 Q C hA hK t ts hpc hf hg
  unfold xi_rel at hf
  split at hf
  · rename_i a b ha hb
    intro ls stk H locs hI
    obtain ⟨x, x1, x2, x3⟩ := x_In_tk hI 20 a ha
    obtain ⟨y, y1, y2, y3⟩ := x_In_tk hI 22 b hb
    have := hV _ _ _ _ _ _ hK x y x1 y1
    exact hw C hA hK (x_tks t 22 (b.1, x_min b.2 a.2)) ts hpc hf hg ls stk H locs (x_tks_in hI y1 y2 (x_le_min y3 (by omega)))
  · exact hw C hA hK t ts hpc hf hg
theorem xw_getf {ci k ix N : Nat} {C : String} {T : u_T} (hc : cl[ci]? = some (C, T, N)) (hin : ∀ w ∈ u_ws C T N, w ∈ x_tbl) (hk : k < N) (hw : Cond.fieldLink own ix (T k).1 (T k).2.1 (T k).2.2.1 ∈ x_tbl) (d : decode cc pc = .ok (.getfield ix, 3)) : x_Gf cl cc own nL nm MC MS pc (pc + 3) ci k := by
  intro p l e R s m args below meth c C1 H locs cells slots Q ls rest D tys ws a q0 fs v h1 h2 h3 h4 kk
  exact va_get C1.1.1 C1.1.2.1 C1.1.2.2.2.2 hin C1.1.2.2.2.1 h1 h2 q0 h3 hc k hk (C1.1.2.2.2.2 _ hw) (fun _ h => h) h4 d kk
theorem xw_iald (d : decode cc pc = .ok (.iaload, 1)) : x_Al cl cc own nL nm MC MS pc (pc + 1) .int := by
  intro p l e R s m args below meth c C H locs cells slots Q ls rest D tys ws a q0 t0 n cA f i h1 h2 h3 h4 h5 k
  exact va_iald C.1.1 C.1.2.1 h1 h2 _ _ h3 h4 h5 d k
/-- a point's own wire, looked at twice (16 .. 42): none, or what the point there has -/
def xi_reck (ci ks kv p1 p2 : Nat) : xS → Option (List xS) := fun t => match x_find t.2.1 0, x_find t.2.1 1 with
  | some (1, j, _), some x => match x_bi t.2.2.2.2.1 x, x_at t.2.2.2.1 j.toNat with
    | some b, some (0, c, n, d, o) => bif Nat.beq c ci && (Nat.ble (ks + 1) n && Nat.ble (kv + 1) n) then match x_get d o ks, x_get d o kv with
      | (1, js, _), (1, jv, _) => match x_at t.2.2.2.1 js.toNat, x_at t.2.2.2.1 jv.toNat with
        | some (1, _, n1, d1, o1), some (1, _, n2, d2, o2) => match x_hul d1 o1, x_hul d2 o2 with
          | some (0, _, hi), some z => bif decide (0 ≤ b.1) && (decide (b.2 < n1) && decide (hi < n2)) then some [(p1, t.2.1, t.2.2.1, t.2.2.2), (p2, t.2.1, z :: t.2.2.1, t.2.2.2)] else none
          | _, _ => none
        | _, _ => none
      | _, _ => none
      else none
    | _, _ => none
  | _, _ => none
theorem xi_reck_ok {ci ks kv p1 p2 c16 c17 c20 c21 c22 c32 c33 c36 c37 c40 c41 c42 : Nat} (w16 : x_Ld cc own nL c16 c17 0 2) (w17 : x_Gf cl cc own nL nm MC MS c17 c20 ci ks) (w20 : x_Ld cc own nL c20 c21 1 0) (w21 : x_Al cl cc own nL nm MC MS c21 c22 .int) (w22 : x_If1 cc own nL c22 c32 p1 3)
    (w32 : x_Ld cc own nL c32 c33 0 2) (w33 : x_Gf cl cc own nL nm MC MS c33 c36 ci kv) (w36 : x_Ld cc own nL c36 c37 0 2) (w37 : x_Gf cl cc own nL nm MC MS c37 c40 ci ks) (w40 : x_Ld cc own nL c40 c41 1 0) (w41 : x_Al cl cc own nL nm MC MS c41 c42 .int) (w42 : x_Al cl cc own nL nm MC MS c42 p2 .int) : x_Snd cl K cc own nL nm MC MS c16 (xi_reck ci ks kv p1 p2) := by
  intro V sc p l e R s m args below meth c D A H0 Q C hA hK t ts hpc hf hg
  unfold xi_reck at hf
  split at hf
  · rename_i j jb x hx0 hx1
    split at hf
    · rename_i b c9 n d o hb hcell
      cases hbb : (Nat.beq c9 ci && (Nat.ble (ks + 1) n && Nat.ble (kv + 1) n)) with
      | false => rw [hbb] at hf; cases hf
      | true =>
        rw [hbb] at hf
        simp only [cond_true] at hf
        split at hf
        · rename_i js jsb jv jvb hs hv
          split at hf
          · rename_i cs n1 d1 o1 cv n2 d2 o2 hcs hcv
            split at hf
            · rename_i lo hi z hh1 hh2
              cases hb2 : (decide (0 ≤ b.1) && (decide (b.2 < n1) && decide (hi < n2))) with
              | false => rw [hb2] at hf; cases hf
              | true =>
                rw [hb2] at hf
                cases hf
                simp only [Bool.and_eq_true, decide_eq_true_eq] at hb2
                simp only [Bool.and_eq_true] at hbb
                obtain ⟨e1, e2, e3⟩ := hbb
                have e1 := Nat.eq_of_beq_eq_true e1
                have e2 := Nat.le_of_ble_eq_true e2
                have e3 := Nat.le_of_ble_eq_true e3
                subst e1
                subst hpc
                intro ls stk H locs ⟨lv, ws, tys, h1, h2, h3, h4, h5, h6, h7, h8, h9⟩
                obtain ⟨k0, v0, hk0, hr0⟩ := x_find_ok h2 hx0
                obtain ⟨k1, v1, hk1, hr1⟩ := x_find_ok h2 hx1
                have hl0 := lv_at h1 k0 hk0
                have hl1 := lv_at h1 k1 hk1
                obtain ⟨a, ee, hq, rfl, hc⟩ := x_ref h4 hr0 hcell
                obtain ⟨fs, rfl, hfl, hff⟩ := hc
                obtain ⟨vs, hvs, hrs⟩ := hff ks (by show ks < n; omega)
                obtain ⟨vv, hvv, hrv⟩ := hff kv (by show kv < n; omega)
                have hrs : x_rel (ws.map Prod.fst) V sc (x_get d o ks) vs := hrs
                have hrv : x_rel (ws.map Prod.fst) V sc (x_get d o kv) vv := hrv
                rw [hs] at hrs
                rw [hv] at hrv
                obtain ⟨as, es, hqs, rfl, hcS⟩ := x_ref h4 hrs hcs
                obtain ⟨av, ev, hqv, rfl, hcV⟩ := x_ref h4 hrv hcv
                obtain ⟨ts0, cAs, fS, gs1, rfl, gs2, gs3⟩ := hcS
                obtain ⟨tv0, cAv, fV, gv1, rfl, gv2, gv3⟩ := hcV
                obtain ⟨np, rfl, p1', p2'⟩ := x_bi_ok h9 hb hr1
                obtain ⟨i1, i2, i3, i4⟩ := x_ix hb2.1 hb2.2.1 p1' p2'
                have hkd : x_kd 2 (.ref a) := Or.inr ⟨a, rfl⟩
                have hki : x_kd 0 (.int np) := ⟨np, rfl⟩
                refine w16 C.1 hl0 hkd (w17 C h5 h6 hq hvs (w20 C.1 hl1 hki (w21 C h5 h6 hqs gs1 i1 (w22 C.1 (fun hge => ?_) (fun hlt => ?_)))))
                · have hh : x_rel (ws.map Prod.fst) V sc (0, lo, hi) (.int (fS np.toNatClampNeg)) := x_hul_ok hh1 (fun _ h => h) _ (gs3 _ i2)
                  obtain ⟨m0, me, m1, m2⟩ := hh
                  cases me
                  have hge : (0 : Int) ≤ (fS np.toNatClampNeg).toInt := hge
                  simp only at m2
                  obtain ⟨j1, j2, j3, j4⟩ := x_ix (lo := 0) (hi := hi) (n := n2) (Int.le_refl 0) hb2.2.2 hge m2
                  refine w32 C.1 hl0 hkd (w33 C h5 h6 hq hvv (w36 C.1 hl0 hkd (w37 C h5 h6 hq hvs (w40 C.1 hl1 hki (w41 C h5 h6 hqs gs1 i1 (w42 C h5 h6 hqv gv1 j1 ?_))))))
                  exact hg _ (List.mem_cons_of_mem _ List.mem_cons_self) ls (.int (fV (fS np.toNatClampNeg).toNatClampNeg) :: stk) H locs ⟨lv, ws, tys, h1, h2, ⟨x_hul_ok hh2 (fun _ h => h) _ (gv3 _ j2), h3⟩, h4, h5, h6, h7, h8, h9⟩
                · exact hg _ List.mem_cons_self ls stk H locs ⟨lv, ws, tys, h1, h2, h3, h4, h5, h6, h7, h8, h9⟩
            · cases hf
          · cases hf
        · cases hf
    · cases hf
  · cases hf
theorem xw_aload0 (d : decode cc pc = .ok (.aload_n 0, 1)) : x_Ld cc own nL pc (pc + 1) 0 2 := (fun S => fun hl hk k => by rcases hk with rfl | ⟨a, rfl⟩; exact lv_aload_nN S.1 S.2.1 d rfl hl k; exact lv_aload_n S.1 S.2.1 d rfl hl k)
theorem xw_iload1 (d : decode cc pc = .ok (.iload_n 1, 1)) : x_Ld cc own nL pc (pc + 1) 1 0 := (fun S => fun hl hk k => by obtain ⟨n, rfl⟩ := hk; exact lv_iload_n S.1 S.2.1 d rfl hl k)
theorem xw_ifge {off : Int} (d : decode cc pc = .ok (.ifCond .ge off, 3)) (ht : (pc : Int) + off = (tg : Int)) : x_If1 cc own nL pc tg (pc + 3) 3 := (fun S => fun kt kf => lv_if_ge S.1 S.2.1 d ht (fun h => kt (x_ge0.mp h)) (fun h => kf (fun q => h (x_ge0.mpr q))))
end X12c
end
end
-- part 12d
section
noncomputable section
/-! two longs compared and the branch behind it in one; pictures at the heads of loops; what the tokens say of each other -/
section X12d
variable {cl : List vw_C} {K : xKx} {cc : ByteArray} {own : String} {nL : Nat} {nm : String} {MC MS pc nx tg : Nat}
def xi_lif (k tg nx : Nat) : xS → Option (List xS) := fun t => match t.2.2.1 with
  | y :: x :: r => match x_bl t.2.2.2.2.1 x, x_bl t.2.2.2.2.1 y with
    | some a, some b => some (x_way k a b t x y r tg ++ x_way (x_neg k) a b t x y r nx)
    | _, _ => none
  | _ => none
theorem x_lgc (k : Nat) (x y : Int64) : x_cnd k (lg_cmp x y).toInt 0 ↔ x_cnd k x.toInt y.toInt := by
  obtain ⟨h1, h2, h3⟩ := x_lg_cmp x y
  have z0 : (0 : Int32).toInt = 0 := by decide
  have z1 : (1 : Int32).toInt = 1 := by decide
  have z2 : (-1 : Int32).toInt = -1 := by decide
  rcases Int.lt_trichotomy x.toInt y.toInt with h | h | h
  · rw [h1 h, z2]
    unfold x_cnd
    split <;> omega
  · rw [h2 h, z0]
    unfold x_cnd
    split <;> omega
  · rw [h3 h, z1]
    unfold x_cnd
    split <;> omega
theorem xi_lif_ok {k p1 : Nat} (hw1 : ∀ x y : Int64, x_Stk cc own nL pc p1 [.long y, .long x] [.int (lg_cmp x y)]) (hw2 : x_If1 cc own nL p1 tg nx k) : x_Snd cl K cc own nL nm MC MS pc (xi_lif k tg nx) := by
  intro V sc p l e R s m args below meth c D A H0 Q C hA hK t ts hpc hf hg
  unfold xi_lif at hf
  split at hf
  · rename_i y x r hst
    split at hf
    · rename_i a b ha hb
      cases hf
      subst hpc
      intro ls stk H locs ⟨lv, ws, tys, h1, h2, h3, h4, h5, h6, h7, h8, h9⟩
      rw [hst] at h3
      match stk, h3 with
      | v1 :: v2 :: rest, h3 =>
        obtain ⟨ny, rfl, y1, y2⟩ := x_bl_ok h9 hb h3.1
        obtain ⟨nx', rfl, x1, x2⟩ := x_bl_ok h9 ha h3.2.1
        refine hw1 nx' ny C.1 (hw2 C.1 (fun hc => ?_) (fun hc => ?_))
        · have hc := (x_lgc k nx' ny).mp hc
          obtain ⟨⟨g1, g2⟩, g3, g4⟩ := x_nar_ok ⟨x1, x2⟩ ⟨y1, y2⟩ hc
          exact hg _ (List.mem_append_left _ (x_way_in (x_may_ok ⟨x1, x2⟩ ⟨y1, y2⟩ hc))) ls rest H locs ⟨lv, ws, tys, h1, h2, h3.2.2, h4, h5, h6, h7, h8, x_setb_l (x_setb_l h9 h3.2.1 g1 g2) h3.1 g3 g4⟩
        · have hc := x_neg_ok (fun q => hc ((x_lgc k nx' ny).mpr q))
          obtain ⟨⟨g1, g2⟩, g3, g4⟩ := x_nar_ok ⟨x1, x2⟩ ⟨y1, y2⟩ hc
          exact hg _ (List.mem_append_right _ (x_way_in (x_may_ok ⟨x1, x2⟩ ⟨y1, y2⟩ hc))) ls rest H locs ⟨lv, ws, tys, h1, h2, h3.2.2, h4, h5, h6, h7, h8, x_setb_l (x_setb_l h9 h3.2.1 g1 g2) h3.1 g3 g4⟩
    · cases hf
  · cases hf
theorem xr_liflt {off : Int} (d : decode cc pc = .ok (.lcmp, 1)) (d2 : decode cc (pc + 1) = .ok (.ifCond .lt off, 3)) (ht : ((pc + 1 : Nat) : Int) + off = (tg : Int)) : x_Snd cl K cc own nL nm MC MS pc (xi_lif 2 tg (pc + 1 + 3)) := xi_lif_ok (k := 2) (fun x y => (fun S => fun k => W.lcmp S.1 S.2.1 d k)) (fun S => fun kt kf => lv_if_lt S.1 S.2.1 d2 ht (fun h => kt (x_lt0.mp h)) (fun h => kf (fun q => h (x_lt0.mpr q))))
theorem xr_lifgt {off : Int} (d : decode cc pc = .ok (.lcmp, 1)) (d2 : decode cc (pc + 1) = .ok (.ifCond .gt off, 3)) (ht : ((pc + 1 : Nat) : Int) + off = (tg : Int)) : x_Snd cl K cc own nL nm MC MS pc (xi_lif 4 tg (pc + 1 + 3)) := xi_lif_ok (k := 4) (fun x y => (fun S => fun k => W.lcmp S.1 S.2.1 d k)) (fun S => fun kt kf => lv_if_gt S.1 S.2.1 d2 ht (fun h => kt (x_gt0.mp h)) (fun h => kf (fun q => h (x_gt0.mpr q))))
theorem xr_lifle {off : Int} (d : decode cc pc = .ok (.lcmp, 1)) (d2 : decode cc (pc + 1) = .ok (.ifCond .le off, 3)) (ht : ((pc + 1 : Nat) : Int) + off = (tg : Int)) : x_Snd cl K cc own nL nm MC MS pc (xi_lif 5 tg (pc + 1 + 3)) := xi_lif_ok (k := 5) (fun x y => (fun S => fun k => W.lcmp S.1 S.2.1 d k)) (fun S => fun kt kf => lv_if_le S.1 S.2.1 d2 ht (fun h => kt (x_le0.mp h)) (fun h => kf (fun q => h (x_le0.mpr q))))
end X12d
/-! pictures at the heads of loops (they are checked, so nothing is to be proved of them) -/
def x_wkL (l : xL) : List (Nat × xV) → Option xL
  | [] => some []
  | q :: r => match x_wkL l r with
    | some b => bif Nat.beq q.2.1 99 then match x_find l q.1 with
        | some x => some ((q.1, x) :: b)
        | none => none
      else some (q :: b)
    | none => none
def x_wkc (w : List xC) (j : Nat) (v : xV) : Option (List xC) := match x_at w j with
  | some (kd, c, n, d, o) => match x_join d v with
    | some z => match x_hul z o with
      | some y => some (x_up w j (kd, c, n, y, []))
      | none => none
    | none => none
  | none => none
def x_wkC (l : xL) : List (Nat × xV) → List xC → Option (List xC)
  | [], w => some w
  | (k, v) :: r, w => match x_find l 0 with
    | some (1, j, _) => match x_at w j.toNat with
      | some (0, _, _, d, o) => match x_get d o k with
        | (1, jj, _) => match x_wkc w jj.toNat v with
          | some w' => x_wkC l r w'
          | none => none
        | _ => none
      | _ => none
    | _ => none
def x_wkT (tk : xT) (a : Nat) (b b2 : Int × Int) : xT := (((tk.set a b).set (a + 1) (b.1, b.2 + 1)).set (a + 2) b2).set (a + 3) (b2.1, b2.2 + 1)
def x_wk (a : Nat) (b b2 : Int × Int) (keep cells : List (Nat × xV)) : xS → Option xS := fun t => match x_wkL t.2.1 keep, x_wkC t.2.1 cells t.2.2.2.1 with
  | some l, some w => some (t.1, l, t.2.2.1, w, x_wkT t.2.2.2.2.1 a b b2, t.2.2.2.2.2)
  | _, _ => none
/-- filling an array with what it holds already -/
def x_wkF (a : Nat) : xS → Option xS := fun t => match x_find t.2.1 0, x_find t.2.1 1 with
  | some (1, j, _), some (0, z, z') => match x_at t.2.2.2.1 j.toNat with
    | some (kd, c, n, d, o) => match x_join d (0, z, z') with
      | some y0 => match x_hul y0 o with
        | some y => bif decide (y.2.1 = y.2.2) then match x_wkL t.2.1 [(2, (3, (a : Int), 0)), (0, (99, 0, 0)), (1, (99, 0, 0)), (3, (99, 0, 0))] with
            | some l => some (t.1, l, t.2.2.1, x_up t.2.2.2.1 j.toNat (kd, c, n, y, []), x_wkT t.2.2.2.2.1 a (0, (n : Int)) (0, (n : Int)), t.2.2.2.2.2)
            | none => none
          else none
        | none => none
      | none => none
    | none => none
  | _, _ => none
/-! what the tokens say of each other -/
def x_fR (f : Nat → Int) : Prop := ((f 6 = f 1 + f 3 ∧ f 7 = f 2 + f 4 ∧ f 8 = -f 4 ∧ f 9 = 16000 - f 1) ∧ (f 10 = f 1 + f 4 ∧ f 11 = f 1 - f 4 ∧ f 12 = f 2 + f 4 ∧ f 13 = f 2 - f 4) ∧ f 14 = 16000 - f 2 ∧ f 16 = f 15 - 6) ∧
  (f 21 = f 20 + 1 ∧ f 23 = f 22 + 1 ∧ f 25 = f 24 + 1 ∧ f 27 = f 26 + 1 ∧ f 29 = f 28 + 1 ∧ f 31 = f 30 + 1) ∧ f 22 ≤ f 20
def x_PV (P : (Nat → Int) → Prop) (V : List Int) : Prop := ∃ f : Nat → Int, V.length = 32 ∧ (∀ j, j < 32 → V[j]? = some (f j)) ∧ x_fR f ∧ P f
theorem x_PV_all {V : List Int} {P : (Nat → Int) → Prop} (h : x_PV P V) : x_PV (fun _ => True) V := by
  obtain ⟨f, h1, h2, h3, -⟩ := h
  exact ⟨f, h1, h2, h3, trivial⟩
def x_upf (f : Nat → Int) (a : Nat) (k i : Int) : Nat → Int := fun j => if j = a then k else if j = a + 1 then k + 1 else if j = a + 2 then i else if j = a + 3 then i + 1 else f j
theorem x_PV_up {P : (Nat → Int) → Prop} (hP : ∀ f a k i, 20 ≤ a → P f → P (x_upf f a k i)) : ∀ V a k i, x_tok a = true → x_PV P V → a + 3 < V.length ∧ V[a + 1]? = V[a]?.map (· + 1) ∧ V[a + 3]? = V[a + 2]?.map (· + 1) ∧ (a = 20 → ∀ x y, V[20]? = some x → V[22]? = some y → y ≤ x) ∧ ((a = 20 → i ≤ k) → x_PV P (x_vup V a k i)) := by
  intro V a k i ht ⟨f, h1, h2, h3, h4⟩
  have ha : a = 20 ∨ a = 24 ∨ a = 28 := by
    unfold x_tok at ht
    simp only [Bool.or_eq_true] at ht
    rcases ht with h | h | h
    · exact Or.inl (Nat.eq_of_beq_eq_true h)
    · exact Or.inr (Or.inl (Nat.eq_of_beq_eq_true h))
    · exact Or.inr (Or.inr (Nat.eq_of_beq_eq_true h))
  have hlen : a + 3 < V.length := by omega
  obtain ⟨q1, ⟨r1, r2, r3, r4, r5, r6⟩, q3⟩ := h3
  refine ⟨hlen, ?_, ?_, fun ea x y hx hy => ?_, fun hik => ⟨x_upf f a k i, ?_, fun j hj => ?_, ⟨?_, ?_, ?_⟩, hP f a k i (by omega) h4⟩⟩
  · rw [h2 _ (by omega), h2 _ (by omega)]
    show some _ = some _
    congr 1
    rcases ha with rfl | rfl | rfl
    · exact r1
    · exact r3
    · exact r5
  · rw [h2 _ (by omega), h2 _ (by omega)]
    show some _ = some _
    congr 1
    rcases ha with rfl | rfl | rfl
    · exact r2
    · exact r4
    · exact r6
  · rw [h2 _ (by omega)] at hx hy
    cases hx
    cases hy
    exact q3
  · rw [← (x_vup_off V a k i).1]; exact h1
  · unfold x_upf
    by_cases e1 : j = a
    · subst e1; rw [if_pos rfl]; exact x_vup_a hlen
    · rw [if_neg e1]
      by_cases e2 : j = a + 1
      · subst e2; rw [if_pos rfl]; exact x_vup_s hlen
      · rw [if_neg e2]
        by_cases e3 : j = a + 2
        · subst e3; rw [if_pos rfl]; exact x_vup_b hlen
        · rw [if_neg e3]
          by_cases e4 : j = a + 3
          · subst e4; rw [if_pos rfl]; exact x_vup_t hlen
          · rw [if_neg e4, ← (x_vup_off V a k i).2 j (by omega)]
            exact h2 j hj
  · have e : ∀ j, j < 20 → x_upf f a k i j = f j := fun j hj => by
      unfold x_upf
      rw [if_neg (by omega), if_neg (by omega), if_neg (by omega), if_neg (by omega)]
    rw [e 1 (by omega), e 2 (by omega), e 3 (by omega), e 4 (by omega), e 6 (by omega), e 7 (by omega), e 8 (by omega), e 9 (by omega), e 10 (by omega), e 11 (by omega), e 12 (by omega), e 13 (by omega), e 14 (by omega), e 15 (by omega), e 16 (by omega)]
    exact q1
  · rcases ha with rfl | rfl | rfl <;> simp [x_upf] <;> omega
  · rcases ha with rfl | rfl | rfl
    · simpa [x_upf] using hik rfl
    · simpa [x_upf] using q3
    · simpa [x_upf] using q3
/-- a token's number -/
theorem x_tI {V : List Int} {sc : Nat × Nat × List Nat} {ad : List Nat} {f : Nat → Int} (h2 : ∀ j, j < 32 → V[j]? = some (f j)) {j : Nat} {b : Int} {n : Int32} (hj : j < 32) (h : x_rel ad V sc (3, (j : Int), b) (.int n)) : n.toInt = f j := by
  obtain ⟨z, e, hz⟩ := h
  cases e
  simp only [Int.toNat_natCast] at hz
  rw [h2 j hj] at hz
  exact (Option.some.inj hz).symm
theorem x_tL {V : List Int} {sc : Nat × Nat × List Nat} {ad : List Nat} {f : Nat → Int} (h2 : ∀ j, j < 32 → V[j]? = some (f j)) {j : Nat} {b : Int} {n : Int64} (hj : j < 32) (h : x_rel ad V sc (6, (j : Int), b) (.long n)) : n.toInt = f j := by
  obtain ⟨z, e, hz⟩ := h
  cases e
  simp only [Int.toNat_natCast] at hz
  rw [h2 j hj] at hz
  exact (Option.some.inj hz).symm
theorem x_tC {V : List Int} {sc : Nat × Nat × List Nat} {ad : List Nat} {z : Int} {n : Int32} (h : x_rel ad V sc (0, z, z) (.int n)) : n.toInt = z := by
  obtain ⟨m, e, h1, h2⟩ := h
  cases e
  simp only at h1 h2
  omega
abbrev x_KP (K : xKx) : Prop := ∀ R s A H V sc, K R s A H V sc → x_PV (fun _ => True) V
theorem x_hev {K : xKx} (hK : x_KP K) : ∀ R s A H V sc, K R s A H V sc → ∀ j : Int, x_even j = true → V[j.toNat + 1]? = V[j.toNat]?.map (· + 1) := by
  intro R s A H V sc h j hj
  obtain ⟨f, h1, h2, h3, -⟩ := hK R s A H V sc h
  unfold x_even at hj
  simp only [Bool.or_eq_true, decide_eq_true_eq] at hj
  obtain ⟨q1, ⟨r1, r2, r3, r4, r5, r6⟩, q3⟩ := h3
  rcases hj with rfl | rfl | rfl | rfl | rfl | rfl
  · show V[21]? = V[20]?.map _; rw [h2 _ (by omega), h2 _ (by omega), r1]; rfl
  · show V[23]? = V[22]?.map _; rw [h2 _ (by omega), h2 _ (by omega), r2]; rfl
  · show V[25]? = V[24]?.map _; rw [h2 _ (by omega), h2 _ (by omega), r3]; rfl
  · show V[27]? = V[26]?.map _; rw [h2 _ (by omega), h2 _ (by omega), r4]; rfl
  · show V[29]? = V[28]?.map _; rw [h2 _ (by omega), h2 _ (by omega), r5]; rfl
  · show V[31]? = V[30]?.map _; rw [h2 _ (by omega), h2 _ (by omega), r6]; rfl
theorem x_hrel {K : xKx} (hK : x_KP K) : ∀ R s A H V sc, K R s A H V sc → ∀ x y, V[20]? = some x → V[22]? = some y → y ≤ x := by
  intro R s A H V sc h x y hx hy
  obtain ⟨f, h1, h2, h3, -⟩ := hK R s A H V sc h
  rw [h2 _ (by omega)] at hx hy
  cases hx
  cases hy
  exact h3.2.2
end
end
-- part 13
section
noncomputable section
/-! tables as trees -/
def x_nof : xS → Option (List xS) := fun _ => none
def x_e7 : xE := (7, x_nof, 0, 0)
def x_T (k : Nat) (a b : Nat → xE) : Nat → xE := fun pc => bif Nat.ble pc k then a pc else b pc
def x_L (k : Nat) (e : xE) : Nat → xE := fun pc => bif Nat.beq pc k then e else x_e7
theorem x_Tok {P : Nat → xE → Prop} {k : Nat} {a b : Nat → xE} (ha : ∀ pc, P pc (a pc)) (hb : ∀ pc, P pc (b pc)) : ∀ pc, P pc (x_T k a b pc) := fun pc => by
  unfold x_T
  cases Nat.ble pc k with
  | true => exact ha pc
  | false => exact hb pc
theorem x_Lok {cl : List vw_C} {K : xKx} {I : Nat → xM} {q : xM} {k : Nat} {e : xE} (h : x_EOq cl K I q k e) : ∀ pc, x_EOq cl K I q pc (x_L k e pc) := fun pc => by
  unfold x_L
  cases hb : Nat.beq pc k with
  | true =>
    have := Nat.eq_of_beq_eq_true hb
    subst this
    exact h
  | false => exact trivial
theorem x_Tok2 {cl : List vw_C} {K : xKx} {I : Nat → xM} {q : xM} {k : Nat} {a b : Nat → xE} (ha : ∀ pc, x_EOq cl K I q pc (a pc)) (hb : ∀ pc, x_EOq cl K I q pc (b pc)) : ∀ pc, x_EOq cl K I q pc (x_T k a b pc) := x_Tok (P := fun pc e => x_EOq cl K I q pc e) ha hb
/-- words by their places, in one walk -/
def x_walk : List Nat → List Cond → List Cond
  | [], _ => []
  | g :: gs, l => match l.drop g with
    | w :: r => w :: x_walk gs r
    | [] => []
theorem x_walk_in : ∀ (gs : List Nat) (l : List Cond), ∀ w ∈ x_walk gs l, w ∈ l
  | [], _, w, h => absurd h List.not_mem_nil
  | g :: gs, l, w, h => by
    unfold x_walk at h
    split at h
    · rename_i w0 r hd
      have hr : ∀ x, x ∈ w0 :: r → x ∈ l := fun x hx => List.mem_of_mem_drop (hd ▸ hx)
      rcases List.mem_cons.mp h with rfl | h
      · exact hr _ List.mem_cons_self
      · exact hr _ (List.mem_cons_of_mem _ (x_walk_in gs r w h))
    · exact absurd h List.not_mem_nil
theorem x_words {gs : List Nat} {ws big : List Cond} (h : x_walk gs big = ws) : ∀ w ∈ ws, w ∈ big := fun w hw => x_walk_in gs big w (h ▸ hw)
theorem x_pick {ws big : List Cond} {w : Cond} (hin : ∀ w ∈ ws, w ∈ big) (i : Nat) (h : ws[i]? = some w) : w ∈ big := hin w (List.mem_of_getElem? h)
theorem x_all_pieces {f : Cond → Bool} {a b : List Cond} (ha : a.all f = true) (hb : b.all f = true) : (a ++ b).all f = true := by rw [List.all_append, ha, hb]; rfl
theorem x_places {big ws : List Cond} (ps : List Nat) (hp : ws = ps.filterMap (fun i => big[i]?)) : ∀ w ∈ ws, w ∈ big := fun w hw => by
  rw [hp] at hw
  obtain ⟨i, -, hi⟩ := List.mem_filterMap.mp hw
  exact List.mem_of_getElem? hi
/-- many decodings in one check -/
theorem x_dk {c : ByteArray} {L : List (Nat × Instr × Nat)} (h : L.all (fun q => decide (decode c q.1 = .ok (q.2.1, q.2.2))) = true) (i : Nat) {pc len : Nat} {ins : Instr} (hi : L[i]? = some (pc, ins, len)) : decode c pc = .ok (ins, len) := by
  have := List.all_eq_true.mp h _ (List.mem_of_getElem? hi)
  simpa using this
def x_TI (k : Nat) (a b : Nat → xM) : Nat → xM := fun M => bif Nat.ble M k then a M else b M
def x_TC (k : Nat) (a b : Nat → Nat → xE) : Nat → Nat → xE := fun M => bif Nat.ble M k then a M else b M
theorem x_st {cl : List vw_C} {K : xKx} {I : Nat → xM} {q : xM} {pc : Nat} {f : xS → Option (List xS)} (h : x_Snd cl K (xm_b q) (xm_y q).cls (xm_l q) (xm_y q).name (xm_c q) (xm_s q) pc f) : x_EOq cl K I q pc (0, f, 0, 0) := h
theorem x_rt {cl : List vw_C} {K : xKx} {I : Nat → xM} {q : xM} {pc k : Nat} (h : x_Rt (xm_b q) (xm_r q) pc k) : x_EOq cl K I q pc (1, x_nof, k, 0) := h
theorem x_ca {cl : List vw_C} {K : xKx} {I : Nat → xM} {q q' : xM} {pc M' na : Nat} (e : I M' = q') (h : x_Cl (xm_b q) (xm_y q).cls (xm_l q) (xm_y q).name (xm_c q) (xm_s q) pc q' na) : x_EOq cl K I q pc (2, x_nof, M', na) := by
  show x_Cl _ _ _ _ _ _ _ (I M') na
  rw [e]
  exact h
/-- a tableswitch's ranges, checked -/
def x_tswB (pc : Nat) (dflt lo : Int) (n : Nat) (offs : Array Int) (l : List (Int × Int × Nat)) : Bool :=
  l.any (fun q => decide (q.1 = -2147483648) && (decide (q.2.1 = lo - 1) && decide ((pc : Int) + dflt = (q.2.2 : Int)))) &&
  (l.any (fun q => decide (q.1 = lo + n) && (decide (q.2.1 = 2147483647) && decide ((pc : Int) + dflt = (q.2.2 : Int)))) &&
  (List.range n).all (fun j => l.any (fun q => decide (q.1 = lo + j) && (decide (q.2.1 = lo + j) && decide (offs[j]?.map (fun o => (pc : Int) + o) = some (q.2.2 : Int))))))
theorem xr_tswB {cl : List vw_C} {K : xKx} {cc : ByteArray} {own : String} {nL : Nat} {nm : String} {MC MS pc : Nat} {dflt lo hi : Int} {offs : Array Int} {len n : Nat} {l : List (Int × Int × Nat)} (d : decode cc pc = .ok (.tableswitch dflt lo hi offs, len)) (hn : hi + 1 = lo + n) (h : x_tswB pc dflt lo n offs l = true) : x_Snd cl K cc own nL nm MC MS pc (xi_sw l) := by
  unfold x_tswB at h
  simp only [Bool.and_eq_true, List.any_eq_true, List.all_eq_true, decide_eq_true_eq] at h
  obtain ⟨⟨q1, h1, a1, a2, a3⟩, ⟨q2, h2, b1, b2, b3⟩, h3⟩ := h
  refine xr_tsw d ⟨q1, h1, a1, a2, a3⟩ ⟨q2, h2, by omega, b2, b3⟩ (fun j hj => ?_)
  obtain ⟨q, hq, c1, c2, c3⟩ := h3 j (List.mem_range.mpr (by omega))
  cases ho : offs[j]? with
  | none => rw [ho] at c3; cases c3
  | some off =>
    rw [ho] at c3
    exact ⟨q, hq, c1, c2, off, rfl, Option.some.inj c3⟩
end
end
-- part 13b
section
noncomputable section
/-! entries for loops and for calls on numbers alone; what the tokens' relations give -/
theorem x_lo {cl : List vw_C} {K : xKx} {I : Nat → xM} {q : xM} {pc L : Nat} {f : xS → Option (List xS)} (h : x_Snd cl K (xm_b q) (xm_y q).cls (xm_l q) (xm_y q).name (xm_c q) (xm_s q) pc f) : x_EOq cl K I q pc (3, f, L, 0) := h
theorem x_cp {cl : List vw_C} {K : xKx} {I : Nat → xM} {q q' : xM} {pc M' na : Nat} (e : I M' = q') (h : x_Cl (xm_b q) (xm_y q).cls (xm_l q) (xm_y q).name (xm_c q) (xm_s q) pc q' na) : x_EOq cl K I q pc (4, x_nof, M', na) := by
  show x_Cl _ _ _ _ _ _ _ (I M') na
  rw [e]
  exact h
def x_top2 (px py : xV) : xS → Bool := fun t => match t.2.2.1 with
  | y :: x :: _ => x_eqv x px && x_eqv y py
  | _ => false
/-- what a token or a number is worth -/
def x_pv (f : Nat → Int) (q : xV) : Int := match q.1 with
  | 0 => q.2.1
  | _ => f q.2.1.toNat
def x_okv (q : xV) : Bool := match q.1 with
  | 0 => decide (q.2.1 = q.2.2)
  | 3 => decide (0 ≤ q.2.1) && decide (q.2.1 < 32)
  | _ => false
def x_okL (q : xV) : Bool := match q.1 with
  | 6 => decide (0 ≤ q.2.1) && decide (q.2.1 < 32)
  | _ => false
theorem x_pv_ok {V : List Int} {sc : Nat × Nat × List Nat} {ad : List Nat} {f : Nat → Int} (h2 : ∀ j, j < 32 → V[j]? = some (f j)) {q : xV} {n : Int32} (hq : x_okv q = true) (h : x_rel ad V sc q (.int n)) : n.toInt = x_pv f q := by
  obtain ⟨t, a, b⟩ := q
  unfold x_okv at hq
  split at hq
  · rename_i h0
    simp only at h0
    subst h0
    simp only [decide_eq_true_eq] at hq
    subst hq
    exact x_tC h
  · rename_i h0
    simp only at h0
    subst h0
    simp only [Bool.and_eq_true, decide_eq_true_eq] at hq
    have e : a = (a.toNat : Int) := by omega
    rw [e] at h
    have := x_tI h2 (j := a.toNat) (by omega) h
    rw [this]
    rfl
  · cases hq
theorem x_pvL_ok {V : List Int} {sc : Nat × Nat × List Nat} {ad : List Nat} {f : Nat → Int} (h2 : ∀ j, j < 32 → V[j]? = some (f j)) {q : xV} {n : Int64} (hq : x_okL q = true) (h : x_rel ad V sc q (.long n)) : n.toInt = x_pv f q := by
  obtain ⟨t, a, b⟩ := q
  unfold x_okL at hq
  split at hq
  · rename_i h0
    simp only at h0
    subst h0
    simp only [Bool.and_eq_true, decide_eq_true_eq] at hq
    have e : a = (a.toNat : Int) := by omega
    rw [e] at h
    have := x_tL h2 (j := a.toNat) (by omega) h
    rw [this]
    rfl
  · cases hq
section X13b
variable {K : xKx} {px py : xV} {c : Nat}
theorem x_hV2 (G : Int → Int → Int) (hK : x_KP K) (hx : x_okv px = true) (hy : x_okv py = true) (hc : c < 32) (hG : ∀ f, x_fR f → f c = G (x_pv f px) (x_pv f py)) : ∀ R s A H V sc, K R s A H V sc → ∀ ad (x y : Int32), x_rel ad V sc px (.int x) → x_rel ad V sc py (.int y) → V[c]? = some (G x.toInt y.toInt) := by
  intro R s A H V sc h ad x y h1 h2
  obtain ⟨f, -, g2, g3, -⟩ := hK R s A H V sc h
  rw [x_pv_ok g2 hx h1, x_pv_ok g2 hy h2, ← hG f g3]
  exact g2 c hc
theorem x_hV2L (hK : x_KP K) (hx : x_okL px = true) (hy : x_okL py = true) (hc : c < 32) (hG : ∀ f, x_fR f → f c = x_pv f px + x_pv f py) : ∀ R s A H V sc, K R s A H V sc → ∀ ad (x y : Int64), x_rel ad V sc px (.long x) → x_rel ad V sc py (.long y) → V[c]? = some (x.toInt + y.toInt) := by
  intro R s A H V sc h ad x y h1 h2
  obtain ⟨f, -, g2, g3, -⟩ := hK R s A H V sc h
  rw [x_pvL_ok g2 hx h1, x_pvL_ok g2 hy h2, ← hG f g3]
  exact g2 c hc
theorem x_hV1 (hK : x_KP K) (hx : x_okv px = true) (hc : c < 32) (hG : ∀ f, x_fR f → f c = -x_pv f px) : ∀ R s A H V sc, K R s A H V sc → ∀ ad (x : Int32), x_rel ad V sc px (.int x) → V[c]? = some (-x.toInt) := by
  intro R s A H V sc h ad x h1
  obtain ⟨f, -, g2, g3, -⟩ := hK R s A H V sc h
  rw [x_pv_ok g2 hx h1, ← hG f g3]
  exact g2 c hc
theorem x_hVR {z : Int} (hK : x_KP K) (hx : x_okv px = true) (hy : x_okv py = true) (hc : c < 32) (hG : ∀ f, x_fR f → f c - z = x_pv f px - x_pv f py) : ∀ R s A H V sc, K R s A H V sc → ∀ ad (x y : Int32), x_rel ad V sc px (.int x) → x_rel ad V sc py (.int y) → ∃ n, V[c]? = some n ∧ n - z = x.toInt - y.toInt := by
  intro R s A H V sc h ad x y h1 h2
  obtain ⟨f, -, g2, g3, -⟩ := hK R s A H V sc h
  rw [x_pv_ok g2 hx h1, x_pv_ok g2 hy h2]
  exact ⟨f c, g2 c hc, hG f g3⟩
end X13b
section X13c
variable {cc : ByteArray} {own : String} {nL pc tg : Nat}
theorem xw_icmpgt {off : Int} (d : decode cc pc = .ok (.if_icmp .gt off, 3)) (ht : (pc : Int) + off = (tg : Int)) : x_If2 cc own nL pc tg (pc + 3) 4 := (fun S => fun kt kf => lv_icmp_gt S.1 S.2.1 d ht (fun h => kt (x_lt32.mp h)) (fun h => kf (fun q => h (x_lt32.mpr q))))
theorem xw_icmpne {off : Int} (d : decode cc pc = .ok (.if_icmp .ne off, 3)) (ht : (pc : Int) + off = (tg : Int)) : x_If2 cc own nL pc tg (pc + 3) 1 := (fun S => fun kt kf => lv_icmp_ne S.1 S.2.1 d ht (fun h => kt (fun q => h (x_eq32.mpr q))) (fun h => kf (fun q => q (x_eq32.mp h))))
end X13c
/-- the tokens 1 and 2 are equal, or not: what a comparison 'not equal' of them says -/
def x_KE (b : Bool) (K : xKx) : Prop := ∀ R s A H V sc, K R s A H V sc → ∀ ad (x y : Int32), x_rel ad V sc (3, 1, 0) (.int x) → x_rel ad V sc (3, 2, 0) (.int y) → (b = true ↔ x_cnd 1 x.toInt y.toInt)
/-- all ways end with 1 -/
def x_one1 (rs : Option (List xS)) : Bool := match rs with
  | some l => l.all (fun t => Nat.beq t.1 2149 && match t.2.2.1 with
    | [v] => x_eqv v (0, 1, 1)
    | _ => false)
  | none => false
/-- one way, and there the picture u -/
def x_goes (rs : Option (List xS)) (u : xS) : Bool := match rs with
  | some [t] => x_le 100 (99999, 99999) t u
  | _ => false
end
end
-- part 13c
section
noncomputable section
/-! the lesser of two: a call that the machine knows -/
def xi_min (MC MS nx : Nat) : xS → Option (List xS) := fun t => match t.2.2.1 with
  | y :: x :: r => match x_bi t.2.2.2.2.1 x, x_bi t.2.2.2.2.1 y with
    | some a, some b => bif Nat.ble (x_cats r) 8 && (Nat.ble t.2.2.2.2.2.1 MC && Nat.ble t.2.2.2.2.2.2 MS) then some [(nx, t.2.1, (0, x_min a.1 b.1, x_min a.2 b.2) :: r, t.2.2.2)] else none
    | _, _ => none
  | _ => none
theorem xr_min {cl : List vw_C} {K : xKx} {cc : ByteArray} {own : String} {nL : Nat} {nm : String} {MC MS pc ix : Nat} (hl : Cond.methodLink own ix Lib.Math.min.name ∈ x_tbl) (hst : Cond.static Lib.Math.min.name ∈ x_tbl) (hi : Cond.initialized "java/lang/Math" ∈ x_tbl) (hc : Cond.code Lib.Math.min.name Lib.Math.min.code 2 (some .int) ∈ x_tbl) (d : decode cc pc = .ok (.invokestatic ix, 3)) : x_Snd cl K cc own nL nm MC MS pc (xi_min MC MS (pc + 3)) := by
  intro V sc p l e R s m args below meth c D A H0 Q C hA hK t ts hpc hf hg
  unfold xi_min at hf
  split at hf
  · rename_i y x r hst'
    split at hf
    · rename_i a b ha hb
      cases hbb : (Nat.ble (x_cats r) 8 && (Nat.ble t.2.2.2.2.2.1 MC && Nat.ble t.2.2.2.2.2.2 MS)) with
      | false => rw [hbb] at hf; cases hf
      | true =>
        rw [hbb] at hf
        cases hf
        simp only [Bool.and_eq_true] at hbb
        obtain ⟨b1, b2, b3⟩ := hbb
        have b1 := Nat.le_of_ble_eq_true b1
        have b2 := Nat.le_of_ble_eq_true b2
        have b3 := Nat.le_of_ble_eq_true b3
        subst hpc
        intro ls stk H locs ⟨lv, ws, tys, h1, h2, h3, h4, h5, h6, h7, h8, h9⟩
        rw [hst'] at h3
        match stk, h3 with
        | v1 :: v2 :: rest, h3 =>
          obtain ⟨ny, rfl, y1, y2⟩ := x_bi_ok h9 hb h3.1
          obtain ⟨nx', rfl, x1, x2⟩ := x_bi_ok h9 ha h3.2.1
          have hcat := (x_cats_ok h3.2.2).1
          have hts := C.1.2.2.2.2
          refine va_mmin C.1.1 C.1.2.1 (by rw [C.1.2.2.1, h1.1]) C.1.2.2.2.1 (hts _ hl) (hts _ hst) (hts _ hi) (hts _ hc) C.2.2.2.2.1 (by have := C.2.2.2.2.2.1; omega) (by rw [C.2.2.1]; exact b2) (by rw [C.2.2.2.1]; exact b3) d (hg _ List.mem_cons_self ls (.int (if ny < nx' then ny else nx') :: rest) H locs ⟨lv, ws, tys, h1, h2, ⟨⟨_, rfl, ?_⟩, h3.2.2⟩, h4, h5, h6, h7, h8, h9⟩)
          show x_min a.1 b.1 ≤ _ ∧ _ ≤ x_min a.2 b.2
          by_cases hlt : ny < nx'
          · rw [if_pos hlt]
            have := x_lt32.mp hlt
            exact ⟨x_min_r y1, x_le_min (by omega) y2⟩
          · rw [if_neg hlt]
            have : ¬ ny.toInt < nx'.toInt := fun q => hlt (x_lt32.mpr q)
            exact ⟨x_min_l x1, x_le_min x2 (by omega)⟩
    · cases hf
  · cases hf
end
end
-- part 13d
section
noncomputable section
/-! decoding by walking along the bytes once -/
abbrev xa_R (α : Type) := Jvm.ClassFile.Reader Jvm.ClassFile.DecodeError α
/-- the byte at a place -/
def xa_by (b : ByteArray) (p v : Nat) : Prop := ∃ h : p < b.size, b[p].toNat = v
theorem xa_bind {α β : Type} {r : xa_R α} {F : α → xa_R β} {b : ByteArray} {p n : Nat} {v : α} (h : r.runAt b p = .ok (v, n)) : (r >>= F).runAt b p = (F v).runAt b n := by
  unfold Jvm.ClassFile.Reader.runAt at h ⊢
  rw [ReaderT.run_bind, StateT.run_bind, h]
  rfl
theorem xa_u1 {b : ByteArray} {p v : Nat} (h : xa_by b p v) : (Jvm.ClassFile.Reader.u1 : xa_R Nat).runAt b p = .ok (v, p + 1) := by
  obtain ⟨h1, h2⟩ := h
  show (dite (p < b.size) _ _ : xa_R Nat) b p = _
  rw [dif_pos h1, ← h2]
  rfl
theorem xa_u2 {b : ByteArray} {p v u : Nat} (h : xa_by b p v) (h' : xa_by b (p + 1) u) : (Jvm.ClassFile.Reader.u2 : xa_R Nat).runAt b p = .ok (v * 256 + u, p + 2) :=
  by
  refine (xa_bind (xa_u1 h)).trans ?_
  exact xa_bind (xa_u1 h')
theorem xa_map {α β : Type} {r : xa_R α} {f : α → β} {b : ByteArray} {p n : Nat} {v : α} (h : r.runAt b p = .ok (v, n)) : (f <$> r).runAt b p = .ok (f v, n) := by
  unfold Jvm.ClassFile.Reader.runAt at h ⊢
  rw [ReaderT.run_map, StateT.run_map, h]
  rfl
theorem xa_dec {b : ByteArray} {pc n : Nat} {ins : Instr} (h : (Jvm.ClassFile.Decoder.instr pc).runAt b pc = .ok (ins, pc + n)) : decode b pc = .ok (ins, n) := by
  unfold decode
  rw [h]
  show Except.ok (ins, pc + n - pc) = _
  rw [Nat.add_sub_cancel_left]
theorem xa_aaload {b : ByteArray} {pc : Nat} (h : xa_by b pc 50) : decode b pc = .ok (.aaload, 1) := xa_dec (xa_bind (xa_u1 h))
theorem xa_aastore {b : ByteArray} {pc : Nat} (h : xa_by b pc 83) : decode b pc = .ok (.aastore, 1) := xa_dec (xa_bind (xa_u1 h))
theorem xa_aconst_null {b : ByteArray} {pc : Nat} (h : xa_by b pc 1) : decode b pc = .ok (.aconst_null, 1) := xa_dec (xa_bind (xa_u1 h))
theorem xa_areturn {b : ByteArray} {pc : Nat} (h : xa_by b pc 176) : decode b pc = .ok (.areturn, 1) := xa_dec (xa_bind (xa_u1 h))
theorem xa_arraylength {b : ByteArray} {pc : Nat} (h : xa_by b pc 190) : decode b pc = .ok (.arraylength, 1) := xa_dec (xa_bind (xa_u1 h))
theorem xa_athrow {b : ByteArray} {pc : Nat} (h : xa_by b pc 191) : decode b pc = .ok (.athrow, 1) := xa_dec (xa_bind (xa_u1 h))
theorem xa_baload {b : ByteArray} {pc : Nat} (h : xa_by b pc 51) : decode b pc = .ok (.baload, 1) := xa_dec (xa_bind (xa_u1 h))
theorem xa_bastore {b : ByteArray} {pc : Nat} (h : xa_by b pc 84) : decode b pc = .ok (.bastore, 1) := xa_dec (xa_bind (xa_u1 h))
theorem xa_caload {b : ByteArray} {pc : Nat} (h : xa_by b pc 52) : decode b pc = .ok (.caload, 1) := xa_dec (xa_bind (xa_u1 h))
theorem xa_castore {b : ByteArray} {pc : Nat} (h : xa_by b pc 85) : decode b pc = .ok (.castore, 1) := xa_dec (xa_bind (xa_u1 h))
theorem xa_dup {b : ByteArray} {pc : Nat} (h : xa_by b pc 89) : decode b pc = .ok (.dup, 1) := xa_dec (xa_bind (xa_u1 h))
theorem xa_dup2 {b : ByteArray} {pc : Nat} (h : xa_by b pc 92) : decode b pc = .ok (.dup2, 1) := xa_dec (xa_bind (xa_u1 h))
theorem xa_dup_x1 {b : ByteArray} {pc : Nat} (h : xa_by b pc 90) : decode b pc = .ok (.dup_x1, 1) := xa_dec (xa_bind (xa_u1 h))
theorem xa_i2b {b : ByteArray} {pc : Nat} (h : xa_by b pc 145) : decode b pc = .ok (.i2b, 1) := xa_dec (xa_bind (xa_u1 h))
theorem xa_i2c {b : ByteArray} {pc : Nat} (h : xa_by b pc 146) : decode b pc = .ok (.i2c, 1) := xa_dec (xa_bind (xa_u1 h))
theorem xa_i2l {b : ByteArray} {pc : Nat} (h : xa_by b pc 133) : decode b pc = .ok (.i2l, 1) := xa_dec (xa_bind (xa_u1 h))
theorem xa_i2s {b : ByteArray} {pc : Nat} (h : xa_by b pc 147) : decode b pc = .ok (.i2s, 1) := xa_dec (xa_bind (xa_u1 h))
theorem xa_iadd {b : ByteArray} {pc : Nat} (h : xa_by b pc 96) : decode b pc = .ok (.iadd, 1) := xa_dec (xa_bind (xa_u1 h))
theorem xa_iaload {b : ByteArray} {pc : Nat} (h : xa_by b pc 46) : decode b pc = .ok (.iaload, 1) := xa_dec (xa_bind (xa_u1 h))
theorem xa_iand {b : ByteArray} {pc : Nat} (h : xa_by b pc 126) : decode b pc = .ok (.iand, 1) := xa_dec (xa_bind (xa_u1 h))
theorem xa_iastore {b : ByteArray} {pc : Nat} (h : xa_by b pc 79) : decode b pc = .ok (.iastore, 1) := xa_dec (xa_bind (xa_u1 h))
theorem xa_idiv {b : ByteArray} {pc : Nat} (h : xa_by b pc 108) : decode b pc = .ok (.idiv, 1) := xa_dec (xa_bind (xa_u1 h))
theorem xa_imul {b : ByteArray} {pc : Nat} (h : xa_by b pc 104) : decode b pc = .ok (.imul, 1) := xa_dec (xa_bind (xa_u1 h))
theorem xa_ineg {b : ByteArray} {pc : Nat} (h : xa_by b pc 116) : decode b pc = .ok (.ineg, 1) := xa_dec (xa_bind (xa_u1 h))
theorem xa_ior {b : ByteArray} {pc : Nat} (h : xa_by b pc 128) : decode b pc = .ok (.ior, 1) := xa_dec (xa_bind (xa_u1 h))
theorem xa_irem {b : ByteArray} {pc : Nat} (h : xa_by b pc 112) : decode b pc = .ok (.irem, 1) := xa_dec (xa_bind (xa_u1 h))
theorem xa_ireturn {b : ByteArray} {pc : Nat} (h : xa_by b pc 172) : decode b pc = .ok (.ireturn, 1) := xa_dec (xa_bind (xa_u1 h))
theorem xa_ishl {b : ByteArray} {pc : Nat} (h : xa_by b pc 120) : decode b pc = .ok (.ishl, 1) := xa_dec (xa_bind (xa_u1 h))
theorem xa_ishr {b : ByteArray} {pc : Nat} (h : xa_by b pc 122) : decode b pc = .ok (.ishr, 1) := xa_dec (xa_bind (xa_u1 h))
theorem xa_isub {b : ByteArray} {pc : Nat} (h : xa_by b pc 100) : decode b pc = .ok (.isub, 1) := xa_dec (xa_bind (xa_u1 h))
theorem xa_iushr {b : ByteArray} {pc : Nat} (h : xa_by b pc 124) : decode b pc = .ok (.iushr, 1) := xa_dec (xa_bind (xa_u1 h))
theorem xa_ixor {b : ByteArray} {pc : Nat} (h : xa_by b pc 130) : decode b pc = .ok (.ixor, 1) := xa_dec (xa_bind (xa_u1 h))
theorem xa_l2i {b : ByteArray} {pc : Nat} (h : xa_by b pc 136) : decode b pc = .ok (.l2i, 1) := xa_dec (xa_bind (xa_u1 h))
theorem xa_ladd {b : ByteArray} {pc : Nat} (h : xa_by b pc 97) : decode b pc = .ok (.ladd, 1) := xa_dec (xa_bind (xa_u1 h))
theorem xa_land {b : ByteArray} {pc : Nat} (h : xa_by b pc 127) : decode b pc = .ok (.land, 1) := xa_dec (xa_bind (xa_u1 h))
theorem xa_lcmp {b : ByteArray} {pc : Nat} (h : xa_by b pc 148) : decode b pc = .ok (.lcmp, 1) := xa_dec (xa_bind (xa_u1 h))
theorem xa_ldiv {b : ByteArray} {pc : Nat} (h : xa_by b pc 109) : decode b pc = .ok (.ldiv, 1) := xa_dec (xa_bind (xa_u1 h))
theorem xa_lmul {b : ByteArray} {pc : Nat} (h : xa_by b pc 105) : decode b pc = .ok (.lmul, 1) := xa_dec (xa_bind (xa_u1 h))
theorem xa_lneg {b : ByteArray} {pc : Nat} (h : xa_by b pc 117) : decode b pc = .ok (.lneg, 1) := xa_dec (xa_bind (xa_u1 h))
theorem xa_lor {b : ByteArray} {pc : Nat} (h : xa_by b pc 129) : decode b pc = .ok (.lor, 1) := xa_dec (xa_bind (xa_u1 h))
theorem xa_lrem {b : ByteArray} {pc : Nat} (h : xa_by b pc 113) : decode b pc = .ok (.lrem, 1) := xa_dec (xa_bind (xa_u1 h))
theorem xa_lreturn {b : ByteArray} {pc : Nat} (h : xa_by b pc 173) : decode b pc = .ok (.lreturn, 1) := xa_dec (xa_bind (xa_u1 h))
theorem xa_lshl {b : ByteArray} {pc : Nat} (h : xa_by b pc 121) : decode b pc = .ok (.lshl, 1) := xa_dec (xa_bind (xa_u1 h))
theorem xa_lshr {b : ByteArray} {pc : Nat} (h : xa_by b pc 123) : decode b pc = .ok (.lshr, 1) := xa_dec (xa_bind (xa_u1 h))
theorem xa_lsub {b : ByteArray} {pc : Nat} (h : xa_by b pc 101) : decode b pc = .ok (.lsub, 1) := xa_dec (xa_bind (xa_u1 h))
theorem xa_pop {b : ByteArray} {pc : Nat} (h : xa_by b pc 87) : decode b pc = .ok (.pop, 1) := xa_dec (xa_bind (xa_u1 h))
theorem xa_pop2 {b : ByteArray} {pc : Nat} (h : xa_by b pc 88) : decode b pc = .ok (.pop2, 1) := xa_dec (xa_bind (xa_u1 h))
theorem xa_return_ {b : ByteArray} {pc : Nat} (h : xa_by b pc 177) : decode b pc = .ok (.return_, 1) := xa_dec (xa_bind (xa_u1 h))
theorem xa_iload_n0 {b : ByteArray} {pc : Nat} (h : xa_by b pc 26) : decode b pc = .ok (.iload_n 0, 1) := xa_dec (xa_bind (xa_u1 h))
theorem xa_iload_n1 {b : ByteArray} {pc : Nat} (h : xa_by b pc 27) : decode b pc = .ok (.iload_n 1, 1) := xa_dec (xa_bind (xa_u1 h))
theorem xa_iload_n2 {b : ByteArray} {pc : Nat} (h : xa_by b pc 28) : decode b pc = .ok (.iload_n 2, 1) := xa_dec (xa_bind (xa_u1 h))
theorem xa_iload_n3 {b : ByteArray} {pc : Nat} (h : xa_by b pc 29) : decode b pc = .ok (.iload_n 3, 1) := xa_dec (xa_bind (xa_u1 h))
theorem xa_lload_n0 {b : ByteArray} {pc : Nat} (h : xa_by b pc 30) : decode b pc = .ok (.lload_n 0, 1) := xa_dec (xa_bind (xa_u1 h))
theorem xa_lload_n1 {b : ByteArray} {pc : Nat} (h : xa_by b pc 31) : decode b pc = .ok (.lload_n 1, 1) := xa_dec (xa_bind (xa_u1 h))
theorem xa_lload_n2 {b : ByteArray} {pc : Nat} (h : xa_by b pc 32) : decode b pc = .ok (.lload_n 2, 1) := xa_dec (xa_bind (xa_u1 h))
theorem xa_lload_n3 {b : ByteArray} {pc : Nat} (h : xa_by b pc 33) : decode b pc = .ok (.lload_n 3, 1) := xa_dec (xa_bind (xa_u1 h))
theorem xa_aload_n0 {b : ByteArray} {pc : Nat} (h : xa_by b pc 42) : decode b pc = .ok (.aload_n 0, 1) := xa_dec (xa_bind (xa_u1 h))
theorem xa_aload_n1 {b : ByteArray} {pc : Nat} (h : xa_by b pc 43) : decode b pc = .ok (.aload_n 1, 1) := xa_dec (xa_bind (xa_u1 h))
theorem xa_aload_n2 {b : ByteArray} {pc : Nat} (h : xa_by b pc 44) : decode b pc = .ok (.aload_n 2, 1) := xa_dec (xa_bind (xa_u1 h))
theorem xa_aload_n3 {b : ByteArray} {pc : Nat} (h : xa_by b pc 45) : decode b pc = .ok (.aload_n 3, 1) := xa_dec (xa_bind (xa_u1 h))
theorem xa_istore_n0 {b : ByteArray} {pc : Nat} (h : xa_by b pc 59) : decode b pc = .ok (.istore_n 0, 1) := xa_dec (xa_bind (xa_u1 h))
theorem xa_istore_n1 {b : ByteArray} {pc : Nat} (h : xa_by b pc 60) : decode b pc = .ok (.istore_n 1, 1) := xa_dec (xa_bind (xa_u1 h))
theorem xa_istore_n2 {b : ByteArray} {pc : Nat} (h : xa_by b pc 61) : decode b pc = .ok (.istore_n 2, 1) := xa_dec (xa_bind (xa_u1 h))
theorem xa_istore_n3 {b : ByteArray} {pc : Nat} (h : xa_by b pc 62) : decode b pc = .ok (.istore_n 3, 1) := xa_dec (xa_bind (xa_u1 h))
theorem xa_lstore_n0 {b : ByteArray} {pc : Nat} (h : xa_by b pc 63) : decode b pc = .ok (.lstore_n 0, 1) := xa_dec (xa_bind (xa_u1 h))
theorem xa_lstore_n1 {b : ByteArray} {pc : Nat} (h : xa_by b pc 64) : decode b pc = .ok (.lstore_n 1, 1) := xa_dec (xa_bind (xa_u1 h))
theorem xa_lstore_n2 {b : ByteArray} {pc : Nat} (h : xa_by b pc 65) : decode b pc = .ok (.lstore_n 2, 1) := xa_dec (xa_bind (xa_u1 h))
theorem xa_lstore_n3 {b : ByteArray} {pc : Nat} (h : xa_by b pc 66) : decode b pc = .ok (.lstore_n 3, 1) := xa_dec (xa_bind (xa_u1 h))
theorem xa_astore_n0 {b : ByteArray} {pc : Nat} (h : xa_by b pc 75) : decode b pc = .ok (.astore_n 0, 1) := xa_dec (xa_bind (xa_u1 h))
theorem xa_astore_n1 {b : ByteArray} {pc : Nat} (h : xa_by b pc 76) : decode b pc = .ok (.astore_n 1, 1) := xa_dec (xa_bind (xa_u1 h))
theorem xa_astore_n2 {b : ByteArray} {pc : Nat} (h : xa_by b pc 77) : decode b pc = .ok (.astore_n 2, 1) := xa_dec (xa_bind (xa_u1 h))
theorem xa_astore_n3 {b : ByteArray} {pc : Nat} (h : xa_by b pc 78) : decode b pc = .ok (.astore_n 3, 1) := xa_dec (xa_bind (xa_u1 h))
theorem xa_iconstm1 {b : ByteArray} {pc : Nat} (h : xa_by b pc 2) : decode b pc = .ok (.iconst (-1), 1) := xa_dec (xa_bind (xa_u1 h))
theorem xa_iconst0 {b : ByteArray} {pc : Nat} (h : xa_by b pc 3) : decode b pc = .ok (.iconst (0), 1) := xa_dec (xa_bind (xa_u1 h))
theorem xa_iconst1 {b : ByteArray} {pc : Nat} (h : xa_by b pc 4) : decode b pc = .ok (.iconst (1), 1) := xa_dec (xa_bind (xa_u1 h))
theorem xa_iconst2 {b : ByteArray} {pc : Nat} (h : xa_by b pc 5) : decode b pc = .ok (.iconst (2), 1) := xa_dec (xa_bind (xa_u1 h))
theorem xa_iconst3 {b : ByteArray} {pc : Nat} (h : xa_by b pc 6) : decode b pc = .ok (.iconst (3), 1) := xa_dec (xa_bind (xa_u1 h))
theorem xa_iconst4 {b : ByteArray} {pc : Nat} (h : xa_by b pc 7) : decode b pc = .ok (.iconst (4), 1) := xa_dec (xa_bind (xa_u1 h))
theorem xa_iconst5 {b : ByteArray} {pc : Nat} (h : xa_by b pc 8) : decode b pc = .ok (.iconst (5), 1) := xa_dec (xa_bind (xa_u1 h))
theorem xa_lconst0 {b : ByteArray} {pc : Nat} (h : xa_by b pc 9) : decode b pc = .ok (.lconst 0, 1) := xa_dec (xa_bind (xa_u1 h))
theorem xa_lconst1 {b : ByteArray} {pc : Nat} (h : xa_by b pc 10) : decode b pc = .ok (.lconst 1, 1) := xa_dec (xa_bind (xa_u1 h))
theorem xa_iload {b : ByteArray} {pc v : Nat} (h : xa_by b pc 21) (h1 : xa_by b (pc + 1) v) : decode b pc = .ok (.iload v, 2) := by
  refine xa_dec ((xa_bind (xa_u1 h)).trans ?_)
  exact xa_bind (xa_u1 h1)
theorem xa_lload {b : ByteArray} {pc v : Nat} (h : xa_by b pc 22) (h1 : xa_by b (pc + 1) v) : decode b pc = .ok (.lload v, 2) := by
  refine xa_dec ((xa_bind (xa_u1 h)).trans ?_)
  exact xa_bind (xa_u1 h1)
theorem xa_aload {b : ByteArray} {pc v : Nat} (h : xa_by b pc 25) (h1 : xa_by b (pc + 1) v) : decode b pc = .ok (.aload v, 2) := by
  refine xa_dec ((xa_bind (xa_u1 h)).trans ?_)
  exact xa_bind (xa_u1 h1)
theorem xa_istore {b : ByteArray} {pc v : Nat} (h : xa_by b pc 54) (h1 : xa_by b (pc + 1) v) : decode b pc = .ok (.istore v, 2) := by
  refine xa_dec ((xa_bind (xa_u1 h)).trans ?_)
  exact xa_bind (xa_u1 h1)
theorem xa_lstore {b : ByteArray} {pc v : Nat} (h : xa_by b pc 55) (h1 : xa_by b (pc + 1) v) : decode b pc = .ok (.lstore v, 2) := by
  refine xa_dec ((xa_bind (xa_u1 h)).trans ?_)
  exact xa_bind (xa_u1 h1)
theorem xa_astore {b : ByteArray} {pc v : Nat} (h : xa_by b pc 58) (h1 : xa_by b (pc + 1) v) : decode b pc = .ok (.astore v, 2) := by
  refine xa_dec ((xa_bind (xa_u1 h)).trans ?_)
  exact xa_bind (xa_u1 h1)
theorem xa_ldc {b : ByteArray} {pc v : Nat} (h : xa_by b pc 18) (h1 : xa_by b (pc + 1) v) : decode b pc = .ok (.ldc v, 2) := by
  refine xa_dec ((xa_bind (xa_u1 h)).trans ?_)
  exact xa_bind (xa_u1 h1)
theorem xa_bipush {b : ByteArray} {pc v : Nat} (h : xa_by b pc 16) (h1 : xa_by b (pc + 1) v) : decode b pc = .ok (.bipush (Jvm.ClassFile.Reader.signed 8 v), 2) := by
  refine xa_dec ((xa_bind (xa_u1 h)).trans ?_)
  exact xa_bind (xa_map (xa_u1 h1))
theorem xa_ldc_w {b : ByteArray} {pc v u : Nat} (h : xa_by b pc 19) (h1 : xa_by b (pc + 1) v) (h2 : xa_by b (pc + 2) u) : decode b pc = .ok (.ldc_w (v * 256 + u), 3) := by
  refine xa_dec ((xa_bind (xa_u1 h)).trans ?_)
  exact xa_bind (xa_u2 h1 h2)
theorem xa_ldc2_w {b : ByteArray} {pc v u : Nat} (h : xa_by b pc 20) (h1 : xa_by b (pc + 1) v) (h2 : xa_by b (pc + 2) u) : decode b pc = .ok (.ldc2_w (v * 256 + u), 3) := by
  refine xa_dec ((xa_bind (xa_u1 h)).trans ?_)
  exact xa_bind (xa_u2 h1 h2)
theorem xa_getstatic {b : ByteArray} {pc v u : Nat} (h : xa_by b pc 178) (h1 : xa_by b (pc + 1) v) (h2 : xa_by b (pc + 2) u) : decode b pc = .ok (.getstatic (v * 256 + u), 3) := by
  refine xa_dec ((xa_bind (xa_u1 h)).trans ?_)
  exact xa_bind (xa_u2 h1 h2)
theorem xa_putstatic {b : ByteArray} {pc v u : Nat} (h : xa_by b pc 179) (h1 : xa_by b (pc + 1) v) (h2 : xa_by b (pc + 2) u) : decode b pc = .ok (.putstatic (v * 256 + u), 3) := by
  refine xa_dec ((xa_bind (xa_u1 h)).trans ?_)
  exact xa_bind (xa_u2 h1 h2)
theorem xa_getfield {b : ByteArray} {pc v u : Nat} (h : xa_by b pc 180) (h1 : xa_by b (pc + 1) v) (h2 : xa_by b (pc + 2) u) : decode b pc = .ok (.getfield (v * 256 + u), 3) := by
  refine xa_dec ((xa_bind (xa_u1 h)).trans ?_)
  exact xa_bind (xa_u2 h1 h2)
theorem xa_putfield {b : ByteArray} {pc v u : Nat} (h : xa_by b pc 181) (h1 : xa_by b (pc + 1) v) (h2 : xa_by b (pc + 2) u) : decode b pc = .ok (.putfield (v * 256 + u), 3) := by
  refine xa_dec ((xa_bind (xa_u1 h)).trans ?_)
  exact xa_bind (xa_u2 h1 h2)
theorem xa_invokevirtual {b : ByteArray} {pc v u : Nat} (h : xa_by b pc 182) (h1 : xa_by b (pc + 1) v) (h2 : xa_by b (pc + 2) u) : decode b pc = .ok (.invokevirtual (v * 256 + u), 3) := by
  refine xa_dec ((xa_bind (xa_u1 h)).trans ?_)
  exact xa_bind (xa_u2 h1 h2)
theorem xa_invokespecial {b : ByteArray} {pc v u : Nat} (h : xa_by b pc 183) (h1 : xa_by b (pc + 1) v) (h2 : xa_by b (pc + 2) u) : decode b pc = .ok (.invokespecial (v * 256 + u), 3) := by
  refine xa_dec ((xa_bind (xa_u1 h)).trans ?_)
  exact xa_bind (xa_u2 h1 h2)
theorem xa_invokestatic {b : ByteArray} {pc v u : Nat} (h : xa_by b pc 184) (h1 : xa_by b (pc + 1) v) (h2 : xa_by b (pc + 2) u) : decode b pc = .ok (.invokestatic (v * 256 + u), 3) := by
  refine xa_dec ((xa_bind (xa_u1 h)).trans ?_)
  exact xa_bind (xa_u2 h1 h2)
theorem xa_new {b : ByteArray} {pc v u : Nat} (h : xa_by b pc 187) (h1 : xa_by b (pc + 1) v) (h2 : xa_by b (pc + 2) u) : decode b pc = .ok (.new (v * 256 + u), 3) := by
  refine xa_dec ((xa_bind (xa_u1 h)).trans ?_)
  exact xa_bind (xa_u2 h1 h2)
theorem xa_anewarray {b : ByteArray} {pc v u : Nat} (h : xa_by b pc 189) (h1 : xa_by b (pc + 1) v) (h2 : xa_by b (pc + 2) u) : decode b pc = .ok (.anewarray (v * 256 + u), 3) := by
  refine xa_dec ((xa_bind (xa_u1 h)).trans ?_)
  exact xa_bind (xa_u2 h1 h2)
theorem xa_checkcast {b : ByteArray} {pc v u : Nat} (h : xa_by b pc 192) (h1 : xa_by b (pc + 1) v) (h2 : xa_by b (pc + 2) u) : decode b pc = .ok (.checkcast (v * 256 + u), 3) := by
  refine xa_dec ((xa_bind (xa_u1 h)).trans ?_)
  exact xa_bind (xa_u2 h1 h2)
theorem xa_sipush {b : ByteArray} {pc v u : Nat} (h : xa_by b pc 17) (h1 : xa_by b (pc + 1) v) (h2 : xa_by b (pc + 2) u) : decode b pc = .ok (.sipush (Jvm.ClassFile.Reader.signed 16 (v * 256 + u)), 3) := by
  refine xa_dec ((xa_bind (xa_u1 h)).trans ?_)
  exact xa_bind (xa_map (xa_u2 h1 h2))
theorem xa_goto {b : ByteArray} {pc v u : Nat} (h : xa_by b pc 167) (h1 : xa_by b (pc + 1) v) (h2 : xa_by b (pc + 2) u) : decode b pc = .ok (.goto (Jvm.ClassFile.Reader.signed 16 (v * 256 + u)), 3) := by
  refine xa_dec ((xa_bind (xa_u1 h)).trans ?_)
  exact xa_bind (xa_map (xa_u2 h1 h2))
theorem xa_ifnull {b : ByteArray} {pc v u : Nat} (h : xa_by b pc 198) (h1 : xa_by b (pc + 1) v) (h2 : xa_by b (pc + 2) u) : decode b pc = .ok (.ifnull (Jvm.ClassFile.Reader.signed 16 (v * 256 + u)), 3) := by
  refine xa_dec ((xa_bind (xa_u1 h)).trans ?_)
  exact xa_bind (xa_map (xa_u2 h1 h2))
theorem xa_ifnonnull {b : ByteArray} {pc v u : Nat} (h : xa_by b pc 199) (h1 : xa_by b (pc + 1) v) (h2 : xa_by b (pc + 2) u) : decode b pc = .ok (.ifnonnull (Jvm.ClassFile.Reader.signed 16 (v * 256 + u)), 3) := by
  refine xa_dec ((xa_bind (xa_u1 h)).trans ?_)
  exact xa_bind (xa_map (xa_u2 h1 h2))
theorem xa_ifCond_eq {b : ByteArray} {pc v u : Nat} (h : xa_by b pc 153) (h1 : xa_by b (pc + 1) v) (h2 : xa_by b (pc + 2) u) : decode b pc = .ok (.ifCond .eq (Jvm.ClassFile.Reader.signed 16 (v * 256 + u)), 3) := by
  refine xa_dec ((xa_bind (xa_u1 h)).trans ?_)
  exact xa_bind (xa_map (xa_u2 h1 h2))
theorem xa_ifCond_ne {b : ByteArray} {pc v u : Nat} (h : xa_by b pc 154) (h1 : xa_by b (pc + 1) v) (h2 : xa_by b (pc + 2) u) : decode b pc = .ok (.ifCond .ne (Jvm.ClassFile.Reader.signed 16 (v * 256 + u)), 3) := by
  refine xa_dec ((xa_bind (xa_u1 h)).trans ?_)
  exact xa_bind (xa_map (xa_u2 h1 h2))
theorem xa_ifCond_lt {b : ByteArray} {pc v u : Nat} (h : xa_by b pc 155) (h1 : xa_by b (pc + 1) v) (h2 : xa_by b (pc + 2) u) : decode b pc = .ok (.ifCond .lt (Jvm.ClassFile.Reader.signed 16 (v * 256 + u)), 3) := by
  refine xa_dec ((xa_bind (xa_u1 h)).trans ?_)
  exact xa_bind (xa_map (xa_u2 h1 h2))
theorem xa_ifCond_ge {b : ByteArray} {pc v u : Nat} (h : xa_by b pc 156) (h1 : xa_by b (pc + 1) v) (h2 : xa_by b (pc + 2) u) : decode b pc = .ok (.ifCond .ge (Jvm.ClassFile.Reader.signed 16 (v * 256 + u)), 3) := by
  refine xa_dec ((xa_bind (xa_u1 h)).trans ?_)
  exact xa_bind (xa_map (xa_u2 h1 h2))
theorem xa_ifCond_gt {b : ByteArray} {pc v u : Nat} (h : xa_by b pc 157) (h1 : xa_by b (pc + 1) v) (h2 : xa_by b (pc + 2) u) : decode b pc = .ok (.ifCond .gt (Jvm.ClassFile.Reader.signed 16 (v * 256 + u)), 3) := by
  refine xa_dec ((xa_bind (xa_u1 h)).trans ?_)
  exact xa_bind (xa_map (xa_u2 h1 h2))
theorem xa_ifCond_le {b : ByteArray} {pc v u : Nat} (h : xa_by b pc 158) (h1 : xa_by b (pc + 1) v) (h2 : xa_by b (pc + 2) u) : decode b pc = .ok (.ifCond .le (Jvm.ClassFile.Reader.signed 16 (v * 256 + u)), 3) := by
  refine xa_dec ((xa_bind (xa_u1 h)).trans ?_)
  exact xa_bind (xa_map (xa_u2 h1 h2))
theorem xa_if_icmp_eq {b : ByteArray} {pc v u : Nat} (h : xa_by b pc 159) (h1 : xa_by b (pc + 1) v) (h2 : xa_by b (pc + 2) u) : decode b pc = .ok (.if_icmp .eq (Jvm.ClassFile.Reader.signed 16 (v * 256 + u)), 3) := by
  refine xa_dec ((xa_bind (xa_u1 h)).trans ?_)
  exact xa_bind (xa_map (xa_u2 h1 h2))
theorem xa_if_icmp_ne {b : ByteArray} {pc v u : Nat} (h : xa_by b pc 160) (h1 : xa_by b (pc + 1) v) (h2 : xa_by b (pc + 2) u) : decode b pc = .ok (.if_icmp .ne (Jvm.ClassFile.Reader.signed 16 (v * 256 + u)), 3) := by
  refine xa_dec ((xa_bind (xa_u1 h)).trans ?_)
  exact xa_bind (xa_map (xa_u2 h1 h2))
theorem xa_if_icmp_lt {b : ByteArray} {pc v u : Nat} (h : xa_by b pc 161) (h1 : xa_by b (pc + 1) v) (h2 : xa_by b (pc + 2) u) : decode b pc = .ok (.if_icmp .lt (Jvm.ClassFile.Reader.signed 16 (v * 256 + u)), 3) := by
  refine xa_dec ((xa_bind (xa_u1 h)).trans ?_)
  exact xa_bind (xa_map (xa_u2 h1 h2))
theorem xa_if_icmp_ge {b : ByteArray} {pc v u : Nat} (h : xa_by b pc 162) (h1 : xa_by b (pc + 1) v) (h2 : xa_by b (pc + 2) u) : decode b pc = .ok (.if_icmp .ge (Jvm.ClassFile.Reader.signed 16 (v * 256 + u)), 3) := by
  refine xa_dec ((xa_bind (xa_u1 h)).trans ?_)
  exact xa_bind (xa_map (xa_u2 h1 h2))
theorem xa_if_icmp_gt {b : ByteArray} {pc v u : Nat} (h : xa_by b pc 163) (h1 : xa_by b (pc + 1) v) (h2 : xa_by b (pc + 2) u) : decode b pc = .ok (.if_icmp .gt (Jvm.ClassFile.Reader.signed 16 (v * 256 + u)), 3) := by
  refine xa_dec ((xa_bind (xa_u1 h)).trans ?_)
  exact xa_bind (xa_map (xa_u2 h1 h2))
theorem xa_if_icmp_le {b : ByteArray} {pc v u : Nat} (h : xa_by b pc 164) (h1 : xa_by b (pc + 1) v) (h2 : xa_by b (pc + 2) u) : decode b pc = .ok (.if_icmp .le (Jvm.ClassFile.Reader.signed 16 (v * 256 + u)), 3) := by
  refine xa_dec ((xa_bind (xa_u1 h)).trans ?_)
  exact xa_bind (xa_map (xa_u2 h1 h2))
theorem xa_iinc {b : ByteArray} {pc v u : Nat} (h : xa_by b pc 132) (h1 : xa_by b (pc + 1) v) (h2 : xa_by b (pc + 2) u) : decode b pc = .ok (.iinc v (Jvm.ClassFile.Reader.signed 8 u), 3) := by
  refine xa_dec ((xa_bind (xa_u1 h)).trans ?_)
  refine (xa_bind (xa_u1 h1)).trans ?_
  exact xa_bind (xa_map (xa_u1 h2))
def xa_0 (o : Nat) (bs : List UInt8) : Bool := match bs with
  | x :: _ => Nat.beq x.toNat o
  | [] => false
def xa_1 (o : Nat) (P : Nat → Bool) (bs : List UInt8) : Bool := match bs with
  | x :: y :: _ => Nat.beq x.toNat o && P y.toNat
  | _ => false
def xa_2 (o : Nat) (P : Nat → Nat → Bool) (bs : List UInt8) : Bool := match bs with
  | x :: y :: z :: _ => Nat.beq x.toNat o && P y.toNat z.toNat
  | _ => false
def xa_c (k : Nat) (c : Jvm.ClassFile.Cond) : Nat := match c with
  | .eq => k
  | .ne => k + 1
  | .lt => k + 2
  | .ge => k + 3
  | .gt => k + 4
  | .le => k + 5
theorem xa_hd {b : ByteArray} {pc : Nat} {x : UInt8} {t : List UInt8} (h : b.data.toList.drop pc = x :: t) : xa_by b pc x.toNat ∧ b.data.toList.drop (pc + 1) = t := by
  have hl : pc < b.data.toList.length := by
    rcases Nat.lt_or_ge pc b.data.toList.length with q | q
    · exact q
    · rw [List.drop_eq_nil_of_le q] at h
      cases h
  rw [List.drop_eq_getElem_cons hl] at h
  obtain ⟨h1, h2⟩ := List.cons.inj h
  exact ⟨⟨hl, congrArg UInt8.toNat h1⟩, h2⟩
theorem xa_0_ok {o : Nat} {b : ByteArray} {pc : Nat} (h : xa_0 o (b.data.toList.drop pc) = true) : xa_by b pc o := by
  unfold xa_0 at h
  split at h
  · rename_i x t e
    rw [← Nat.eq_of_beq_eq_true h]
    exact (xa_hd e).1
  · cases h
theorem xa_1_ok {o : Nat} {P : Nat → Bool} {b : ByteArray} {pc : Nat} (h : xa_1 o P (b.data.toList.drop pc) = true) : xa_by b pc o ∧ ∃ v, xa_by b (pc + 1) v ∧ P v = true := by
  unfold xa_1 at h
  split at h
  · rename_i x y t e
    obtain ⟨a1, a2⟩ := Bool.and_eq_true_iff.mp h
    rw [← Nat.eq_of_beq_eq_true a1]
    obtain ⟨b1, b2⟩ := xa_hd e
    exact ⟨b1, _, (xa_hd b2).1, a2⟩
  · cases h
theorem xa_2_ok {o : Nat} {P : Nat → Nat → Bool} {b : ByteArray} {pc : Nat} (h : xa_2 o P (b.data.toList.drop pc) = true) : xa_by b pc o ∧ ∃ v u, xa_by b (pc + 1) v ∧ xa_by b (pc + 2) u ∧ P v u = true := by
  unfold xa_2 at h
  split at h
  · rename_i x y z t e
    obtain ⟨a1, a2⟩ := Bool.and_eq_true_iff.mp h
    rw [← Nat.eq_of_beq_eq_true a1]
    obtain ⟨b1, b2⟩ := xa_hd e
    obtain ⟨c1, c2⟩ := xa_hd b2
    exact ⟨b1, _, _, c1, (xa_hd c2).1, a2⟩
  · cases h
/-- the bytes that come are those of an instruction -/
def xa_k (ins : Instr) (len : Nat) (bs : List UInt8) : Bool := match ins with
  | .aaload => xa_0 50 bs && Nat.beq len 1
  | .aastore => xa_0 83 bs && Nat.beq len 1
  | .aconst_null => xa_0 1 bs && Nat.beq len 1
  | .areturn => xa_0 176 bs && Nat.beq len 1
  | .arraylength => xa_0 190 bs && Nat.beq len 1
  | .athrow => xa_0 191 bs && Nat.beq len 1
  | .baload => xa_0 51 bs && Nat.beq len 1
  | .bastore => xa_0 84 bs && Nat.beq len 1
  | .caload => xa_0 52 bs && Nat.beq len 1
  | .castore => xa_0 85 bs && Nat.beq len 1
  | .dup => xa_0 89 bs && Nat.beq len 1
  | .dup2 => xa_0 92 bs && Nat.beq len 1
  | .dup_x1 => xa_0 90 bs && Nat.beq len 1
  | .i2b => xa_0 145 bs && Nat.beq len 1
  | .i2c => xa_0 146 bs && Nat.beq len 1
  | .i2l => xa_0 133 bs && Nat.beq len 1
  | .i2s => xa_0 147 bs && Nat.beq len 1
  | .iadd => xa_0 96 bs && Nat.beq len 1
  | .iaload => xa_0 46 bs && Nat.beq len 1
  | .iand => xa_0 126 bs && Nat.beq len 1
  | .iastore => xa_0 79 bs && Nat.beq len 1
  | .idiv => xa_0 108 bs && Nat.beq len 1
  | .imul => xa_0 104 bs && Nat.beq len 1
  | .ineg => xa_0 116 bs && Nat.beq len 1
  | .ior => xa_0 128 bs && Nat.beq len 1
  | .irem => xa_0 112 bs && Nat.beq len 1
  | .ireturn => xa_0 172 bs && Nat.beq len 1
  | .ishl => xa_0 120 bs && Nat.beq len 1
  | .ishr => xa_0 122 bs && Nat.beq len 1
  | .isub => xa_0 100 bs && Nat.beq len 1
  | .iushr => xa_0 124 bs && Nat.beq len 1
  | .ixor => xa_0 130 bs && Nat.beq len 1
  | .l2i => xa_0 136 bs && Nat.beq len 1
  | .ladd => xa_0 97 bs && Nat.beq len 1
  | .land => xa_0 127 bs && Nat.beq len 1
  | .lcmp => xa_0 148 bs && Nat.beq len 1
  | .ldiv => xa_0 109 bs && Nat.beq len 1
  | .lmul => xa_0 105 bs && Nat.beq len 1
  | .lneg => xa_0 117 bs && Nat.beq len 1
  | .lor => xa_0 129 bs && Nat.beq len 1
  | .lrem => xa_0 113 bs && Nat.beq len 1
  | .lreturn => xa_0 173 bs && Nat.beq len 1
  | .lshl => xa_0 121 bs && Nat.beq len 1
  | .lshr => xa_0 123 bs && Nat.beq len 1
  | .lsub => xa_0 101 bs && Nat.beq len 1
  | .pop => xa_0 87 bs && Nat.beq len 1
  | .pop2 => xa_0 88 bs && Nat.beq len 1
  | .return_ => xa_0 177 bs && Nat.beq len 1
  | .iload_n i => xa_0 (26 + i.val) bs && Nat.beq len 1
  | .lload_n i => xa_0 (30 + i.val) bs && Nat.beq len 1
  | .aload_n i => xa_0 (42 + i.val) bs && Nat.beq len 1
  | .istore_n i => xa_0 (59 + i.val) bs && Nat.beq len 1
  | .lstore_n i => xa_0 (63 + i.val) bs && Nat.beq len 1
  | .astore_n i => xa_0 (75 + i.val) bs && Nat.beq len 1
  | .iconst n => decide (-1 ≤ n ∧ n ≤ 5) && xa_0 (n + 3).toNat bs && Nat.beq len 1
  | .lconst n => xa_0 (9 + n.val) bs && Nat.beq len 1
  | .iload k => xa_1 21 (fun v => Nat.beq v k) bs && Nat.beq len 2
  | .lload k => xa_1 22 (fun v => Nat.beq v k) bs && Nat.beq len 2
  | .aload k => xa_1 25 (fun v => Nat.beq v k) bs && Nat.beq len 2
  | .istore k => xa_1 54 (fun v => Nat.beq v k) bs && Nat.beq len 2
  | .lstore k => xa_1 55 (fun v => Nat.beq v k) bs && Nat.beq len 2
  | .astore k => xa_1 58 (fun v => Nat.beq v k) bs && Nat.beq len 2
  | .ldc k => xa_1 18 (fun v => Nat.beq v k) bs && Nat.beq len 2
  | .bipush k => xa_1 16 (fun v => decide ((Jvm.ClassFile.Reader.signed 8 v) = k)) bs && Nat.beq len 2
  | .ldc_w k => xa_2 19 (fun v u => Nat.beq (v * 256 + u) k) bs && Nat.beq len 3
  | .ldc2_w k => xa_2 20 (fun v u => Nat.beq (v * 256 + u) k) bs && Nat.beq len 3
  | .getstatic k => xa_2 178 (fun v u => Nat.beq (v * 256 + u) k) bs && Nat.beq len 3
  | .putstatic k => xa_2 179 (fun v u => Nat.beq (v * 256 + u) k) bs && Nat.beq len 3
  | .getfield k => xa_2 180 (fun v u => Nat.beq (v * 256 + u) k) bs && Nat.beq len 3
  | .putfield k => xa_2 181 (fun v u => Nat.beq (v * 256 + u) k) bs && Nat.beq len 3
  | .invokevirtual k => xa_2 182 (fun v u => Nat.beq (v * 256 + u) k) bs && Nat.beq len 3
  | .invokespecial k => xa_2 183 (fun v u => Nat.beq (v * 256 + u) k) bs && Nat.beq len 3
  | .invokestatic k => xa_2 184 (fun v u => Nat.beq (v * 256 + u) k) bs && Nat.beq len 3
  | .new k => xa_2 187 (fun v u => Nat.beq (v * 256 + u) k) bs && Nat.beq len 3
  | .anewarray k => xa_2 189 (fun v u => Nat.beq (v * 256 + u) k) bs && Nat.beq len 3
  | .checkcast k => xa_2 192 (fun v u => Nat.beq (v * 256 + u) k) bs && Nat.beq len 3
  | .sipush k => xa_2 17 (fun v u => decide ((Jvm.ClassFile.Reader.signed 16 (v * 256 + u)) = k)) bs && Nat.beq len 3
  | .goto k => xa_2 167 (fun v u => decide ((Jvm.ClassFile.Reader.signed 16 (v * 256 + u)) = k)) bs && Nat.beq len 3
  | .ifnull k => xa_2 198 (fun v u => decide ((Jvm.ClassFile.Reader.signed 16 (v * 256 + u)) = k)) bs && Nat.beq len 3
  | .ifnonnull k => xa_2 199 (fun v u => decide ((Jvm.ClassFile.Reader.signed 16 (v * 256 + u)) = k)) bs && Nat.beq len 3
  | .ifCond c k => xa_2 (xa_c 153 c) (fun v u => decide ((Jvm.ClassFile.Reader.signed 16 (v * 256 + u)) = k)) bs && Nat.beq len 3
  | .if_icmp c k => xa_2 (xa_c 159 c) (fun v u => decide ((Jvm.ClassFile.Reader.signed 16 (v * 256 + u)) = k)) bs && Nat.beq len 3
  | .iinc i k => xa_2 132 (fun v u => Nat.beq v i && decide ((Jvm.ClassFile.Reader.signed 8 u) = k)) bs && Nat.beq len 3
  | _ => false
set_option maxHeartbeats 4000000 in
theorem xa_k_ok {ins : Instr} {len : Nat} {b : ByteArray} {pc : Nat} (h : xa_k ins len (b.data.toList.drop pc) = true) : decode b pc = .ok (ins, len) := by
  cases ins with
  | aaload =>
    obtain ⟨h, hn⟩ := Bool.and_eq_true_iff.mp h
    rw [Nat.eq_of_beq_eq_true hn]
    clear hn
    exact xa_aaload (xa_0_ok h)
  | aastore =>
    obtain ⟨h, hn⟩ := Bool.and_eq_true_iff.mp h
    rw [Nat.eq_of_beq_eq_true hn]
    clear hn
    exact xa_aastore (xa_0_ok h)
  | aconst_null =>
    obtain ⟨h, hn⟩ := Bool.and_eq_true_iff.mp h
    rw [Nat.eq_of_beq_eq_true hn]
    clear hn
    exact xa_aconst_null (xa_0_ok h)
  | areturn =>
    obtain ⟨h, hn⟩ := Bool.and_eq_true_iff.mp h
    rw [Nat.eq_of_beq_eq_true hn]
    clear hn
    exact xa_areturn (xa_0_ok h)
  | arraylength =>
    obtain ⟨h, hn⟩ := Bool.and_eq_true_iff.mp h
    rw [Nat.eq_of_beq_eq_true hn]
    clear hn
    exact xa_arraylength (xa_0_ok h)
  | athrow =>
    obtain ⟨h, hn⟩ := Bool.and_eq_true_iff.mp h
    rw [Nat.eq_of_beq_eq_true hn]
    clear hn
    exact xa_athrow (xa_0_ok h)
  | baload =>
    obtain ⟨h, hn⟩ := Bool.and_eq_true_iff.mp h
    rw [Nat.eq_of_beq_eq_true hn]
    clear hn
    exact xa_baload (xa_0_ok h)
  | bastore =>
    obtain ⟨h, hn⟩ := Bool.and_eq_true_iff.mp h
    rw [Nat.eq_of_beq_eq_true hn]
    clear hn
    exact xa_bastore (xa_0_ok h)
  | caload =>
    obtain ⟨h, hn⟩ := Bool.and_eq_true_iff.mp h
    rw [Nat.eq_of_beq_eq_true hn]
    clear hn
    exact xa_caload (xa_0_ok h)
  | castore =>
    obtain ⟨h, hn⟩ := Bool.and_eq_true_iff.mp h
    rw [Nat.eq_of_beq_eq_true hn]
    clear hn
    exact xa_castore (xa_0_ok h)
  | dup =>
    obtain ⟨h, hn⟩ := Bool.and_eq_true_iff.mp h
    rw [Nat.eq_of_beq_eq_true hn]
    clear hn
    exact xa_dup (xa_0_ok h)
  | dup2 =>
    obtain ⟨h, hn⟩ := Bool.and_eq_true_iff.mp h
    rw [Nat.eq_of_beq_eq_true hn]
    clear hn
    exact xa_dup2 (xa_0_ok h)
  | dup_x1 =>
    obtain ⟨h, hn⟩ := Bool.and_eq_true_iff.mp h
    rw [Nat.eq_of_beq_eq_true hn]
    clear hn
    exact xa_dup_x1 (xa_0_ok h)
  | i2b =>
    obtain ⟨h, hn⟩ := Bool.and_eq_true_iff.mp h
    rw [Nat.eq_of_beq_eq_true hn]
    clear hn
    exact xa_i2b (xa_0_ok h)
  | i2c =>
    obtain ⟨h, hn⟩ := Bool.and_eq_true_iff.mp h
    rw [Nat.eq_of_beq_eq_true hn]
    clear hn
    exact xa_i2c (xa_0_ok h)
  | i2l =>
    obtain ⟨h, hn⟩ := Bool.and_eq_true_iff.mp h
    rw [Nat.eq_of_beq_eq_true hn]
    clear hn
    exact xa_i2l (xa_0_ok h)
  | i2s =>
    obtain ⟨h, hn⟩ := Bool.and_eq_true_iff.mp h
    rw [Nat.eq_of_beq_eq_true hn]
    clear hn
    exact xa_i2s (xa_0_ok h)
  | iadd =>
    obtain ⟨h, hn⟩ := Bool.and_eq_true_iff.mp h
    rw [Nat.eq_of_beq_eq_true hn]
    clear hn
    exact xa_iadd (xa_0_ok h)
  | iaload =>
    obtain ⟨h, hn⟩ := Bool.and_eq_true_iff.mp h
    rw [Nat.eq_of_beq_eq_true hn]
    clear hn
    exact xa_iaload (xa_0_ok h)
  | iand =>
    obtain ⟨h, hn⟩ := Bool.and_eq_true_iff.mp h
    rw [Nat.eq_of_beq_eq_true hn]
    clear hn
    exact xa_iand (xa_0_ok h)
  | iastore =>
    obtain ⟨h, hn⟩ := Bool.and_eq_true_iff.mp h
    rw [Nat.eq_of_beq_eq_true hn]
    clear hn
    exact xa_iastore (xa_0_ok h)
  | idiv =>
    obtain ⟨h, hn⟩ := Bool.and_eq_true_iff.mp h
    rw [Nat.eq_of_beq_eq_true hn]
    clear hn
    exact xa_idiv (xa_0_ok h)
  | imul =>
    obtain ⟨h, hn⟩ := Bool.and_eq_true_iff.mp h
    rw [Nat.eq_of_beq_eq_true hn]
    clear hn
    exact xa_imul (xa_0_ok h)
  | ineg =>
    obtain ⟨h, hn⟩ := Bool.and_eq_true_iff.mp h
    rw [Nat.eq_of_beq_eq_true hn]
    clear hn
    exact xa_ineg (xa_0_ok h)
  | ior =>
    obtain ⟨h, hn⟩ := Bool.and_eq_true_iff.mp h
    rw [Nat.eq_of_beq_eq_true hn]
    clear hn
    exact xa_ior (xa_0_ok h)
  | irem =>
    obtain ⟨h, hn⟩ := Bool.and_eq_true_iff.mp h
    rw [Nat.eq_of_beq_eq_true hn]
    clear hn
    exact xa_irem (xa_0_ok h)
  | ireturn =>
    obtain ⟨h, hn⟩ := Bool.and_eq_true_iff.mp h
    rw [Nat.eq_of_beq_eq_true hn]
    clear hn
    exact xa_ireturn (xa_0_ok h)
  | ishl =>
    obtain ⟨h, hn⟩ := Bool.and_eq_true_iff.mp h
    rw [Nat.eq_of_beq_eq_true hn]
    clear hn
    exact xa_ishl (xa_0_ok h)
  | ishr =>
    obtain ⟨h, hn⟩ := Bool.and_eq_true_iff.mp h
    rw [Nat.eq_of_beq_eq_true hn]
    clear hn
    exact xa_ishr (xa_0_ok h)
  | isub =>
    obtain ⟨h, hn⟩ := Bool.and_eq_true_iff.mp h
    rw [Nat.eq_of_beq_eq_true hn]
    clear hn
    exact xa_isub (xa_0_ok h)
  | iushr =>
    obtain ⟨h, hn⟩ := Bool.and_eq_true_iff.mp h
    rw [Nat.eq_of_beq_eq_true hn]
    clear hn
    exact xa_iushr (xa_0_ok h)
  | ixor =>
    obtain ⟨h, hn⟩ := Bool.and_eq_true_iff.mp h
    rw [Nat.eq_of_beq_eq_true hn]
    clear hn
    exact xa_ixor (xa_0_ok h)
  | l2i =>
    obtain ⟨h, hn⟩ := Bool.and_eq_true_iff.mp h
    rw [Nat.eq_of_beq_eq_true hn]
    clear hn
    exact xa_l2i (xa_0_ok h)
  | ladd =>
    obtain ⟨h, hn⟩ := Bool.and_eq_true_iff.mp h
    rw [Nat.eq_of_beq_eq_true hn]
    clear hn
    exact xa_ladd (xa_0_ok h)
  | land =>
    obtain ⟨h, hn⟩ := Bool.and_eq_true_iff.mp h
    rw [Nat.eq_of_beq_eq_true hn]
    clear hn
    exact xa_land (xa_0_ok h)
  | lcmp =>
    obtain ⟨h, hn⟩ := Bool.and_eq_true_iff.mp h
    rw [Nat.eq_of_beq_eq_true hn]
    clear hn
    exact xa_lcmp (xa_0_ok h)
  | ldiv =>
    obtain ⟨h, hn⟩ := Bool.and_eq_true_iff.mp h
    rw [Nat.eq_of_beq_eq_true hn]
    clear hn
    exact xa_ldiv (xa_0_ok h)
  | lmul =>
    obtain ⟨h, hn⟩ := Bool.and_eq_true_iff.mp h
    rw [Nat.eq_of_beq_eq_true hn]
    clear hn
    exact xa_lmul (xa_0_ok h)
  | lneg =>
    obtain ⟨h, hn⟩ := Bool.and_eq_true_iff.mp h
    rw [Nat.eq_of_beq_eq_true hn]
    clear hn
    exact xa_lneg (xa_0_ok h)
  | lor =>
    obtain ⟨h, hn⟩ := Bool.and_eq_true_iff.mp h
    rw [Nat.eq_of_beq_eq_true hn]
    clear hn
    exact xa_lor (xa_0_ok h)
  | lrem =>
    obtain ⟨h, hn⟩ := Bool.and_eq_true_iff.mp h
    rw [Nat.eq_of_beq_eq_true hn]
    clear hn
    exact xa_lrem (xa_0_ok h)
  | lreturn =>
    obtain ⟨h, hn⟩ := Bool.and_eq_true_iff.mp h
    rw [Nat.eq_of_beq_eq_true hn]
    clear hn
    exact xa_lreturn (xa_0_ok h)
  | lshl =>
    obtain ⟨h, hn⟩ := Bool.and_eq_true_iff.mp h
    rw [Nat.eq_of_beq_eq_true hn]
    clear hn
    exact xa_lshl (xa_0_ok h)
  | lshr =>
    obtain ⟨h, hn⟩ := Bool.and_eq_true_iff.mp h
    rw [Nat.eq_of_beq_eq_true hn]
    clear hn
    exact xa_lshr (xa_0_ok h)
  | lsub =>
    obtain ⟨h, hn⟩ := Bool.and_eq_true_iff.mp h
    rw [Nat.eq_of_beq_eq_true hn]
    clear hn
    exact xa_lsub (xa_0_ok h)
  | pop =>
    obtain ⟨h, hn⟩ := Bool.and_eq_true_iff.mp h
    rw [Nat.eq_of_beq_eq_true hn]
    clear hn
    exact xa_pop (xa_0_ok h)
  | pop2 =>
    obtain ⟨h, hn⟩ := Bool.and_eq_true_iff.mp h
    rw [Nat.eq_of_beq_eq_true hn]
    clear hn
    exact xa_pop2 (xa_0_ok h)
  | return_ =>
    obtain ⟨h, hn⟩ := Bool.and_eq_true_iff.mp h
    rw [Nat.eq_of_beq_eq_true hn]
    clear hn
    exact xa_return_ (xa_0_ok h)
  | iload_n i =>
    obtain ⟨h, hn⟩ := Bool.and_eq_true_iff.mp h
    rw [Nat.eq_of_beq_eq_true hn]
    clear hn
    rcases i with ⟨i, hi⟩
    rcases (show i = 0 ∨ i = 1 ∨ i = 2 ∨ i = 3 by omega) with rfl | rfl | rfl | rfl
    · exact xa_iload_n0 (xa_0_ok h)
    · exact xa_iload_n1 (xa_0_ok h)
    · exact xa_iload_n2 (xa_0_ok h)
    · exact xa_iload_n3 (xa_0_ok h)
  | lload_n i =>
    obtain ⟨h, hn⟩ := Bool.and_eq_true_iff.mp h
    rw [Nat.eq_of_beq_eq_true hn]
    clear hn
    rcases i with ⟨i, hi⟩
    rcases (show i = 0 ∨ i = 1 ∨ i = 2 ∨ i = 3 by omega) with rfl | rfl | rfl | rfl
    · exact xa_lload_n0 (xa_0_ok h)
    · exact xa_lload_n1 (xa_0_ok h)
    · exact xa_lload_n2 (xa_0_ok h)
    · exact xa_lload_n3 (xa_0_ok h)
  | aload_n i =>
    obtain ⟨h, hn⟩ := Bool.and_eq_true_iff.mp h
    rw [Nat.eq_of_beq_eq_true hn]
    clear hn
    rcases i with ⟨i, hi⟩
    rcases (show i = 0 ∨ i = 1 ∨ i = 2 ∨ i = 3 by omega) with rfl | rfl | rfl | rfl
    · exact xa_aload_n0 (xa_0_ok h)
    · exact xa_aload_n1 (xa_0_ok h)
    · exact xa_aload_n2 (xa_0_ok h)
    · exact xa_aload_n3 (xa_0_ok h)
  | istore_n i =>
    obtain ⟨h, hn⟩ := Bool.and_eq_true_iff.mp h
    rw [Nat.eq_of_beq_eq_true hn]
    clear hn
    rcases i with ⟨i, hi⟩
    rcases (show i = 0 ∨ i = 1 ∨ i = 2 ∨ i = 3 by omega) with rfl | rfl | rfl | rfl
    · exact xa_istore_n0 (xa_0_ok h)
    · exact xa_istore_n1 (xa_0_ok h)
    · exact xa_istore_n2 (xa_0_ok h)
    · exact xa_istore_n3 (xa_0_ok h)
  | lstore_n i =>
    obtain ⟨h, hn⟩ := Bool.and_eq_true_iff.mp h
    rw [Nat.eq_of_beq_eq_true hn]
    clear hn
    rcases i with ⟨i, hi⟩
    rcases (show i = 0 ∨ i = 1 ∨ i = 2 ∨ i = 3 by omega) with rfl | rfl | rfl | rfl
    · exact xa_lstore_n0 (xa_0_ok h)
    · exact xa_lstore_n1 (xa_0_ok h)
    · exact xa_lstore_n2 (xa_0_ok h)
    · exact xa_lstore_n3 (xa_0_ok h)
  | astore_n i =>
    obtain ⟨h, hn⟩ := Bool.and_eq_true_iff.mp h
    rw [Nat.eq_of_beq_eq_true hn]
    clear hn
    rcases i with ⟨i, hi⟩
    rcases (show i = 0 ∨ i = 1 ∨ i = 2 ∨ i = 3 by omega) with rfl | rfl | rfl | rfl
    · exact xa_astore_n0 (xa_0_ok h)
    · exact xa_astore_n1 (xa_0_ok h)
    · exact xa_astore_n2 (xa_0_ok h)
    · exact xa_astore_n3 (xa_0_ok h)
  | iconst n =>
    obtain ⟨h, hn⟩ := Bool.and_eq_true_iff.mp h
    rw [Nat.eq_of_beq_eq_true hn]
    clear hn
    obtain ⟨h9, h⟩ := Bool.and_eq_true_iff.mp h
    have h8 := of_decide_eq_true h9
    rcases (show n = -1 ∨ n = 0 ∨ n = 1 ∨ n = 2 ∨ n = 3 ∨ n = 4 ∨ n = 5 by omega) with rfl | rfl | rfl | rfl | rfl | rfl | rfl
    · exact xa_iconstm1 (xa_0_ok h)
    · exact xa_iconst0 (xa_0_ok h)
    · exact xa_iconst1 (xa_0_ok h)
    · exact xa_iconst2 (xa_0_ok h)
    · exact xa_iconst3 (xa_0_ok h)
    · exact xa_iconst4 (xa_0_ok h)
    · exact xa_iconst5 (xa_0_ok h)
  | lconst n =>
    obtain ⟨h, hn⟩ := Bool.and_eq_true_iff.mp h
    rw [Nat.eq_of_beq_eq_true hn]
    clear hn
    rcases n with ⟨i, hi⟩
    rcases (show i = 0 ∨ i = 1 by omega) with rfl | rfl
    · exact xa_lconst0 (xa_0_ok h)
    · exact xa_lconst1 (xa_0_ok h)
  | iload k =>
    obtain ⟨h, hn⟩ := Bool.and_eq_true_iff.mp h
    rw [Nat.eq_of_beq_eq_true hn]
    clear hn
    obtain ⟨h1, v, h2, h3⟩ := xa_1_ok h
    rw [← Nat.eq_of_beq_eq_true h3]
    exact xa_iload h1 h2
  | lload k =>
    obtain ⟨h, hn⟩ := Bool.and_eq_true_iff.mp h
    rw [Nat.eq_of_beq_eq_true hn]
    clear hn
    obtain ⟨h1, v, h2, h3⟩ := xa_1_ok h
    rw [← Nat.eq_of_beq_eq_true h3]
    exact xa_lload h1 h2
  | aload k =>
    obtain ⟨h, hn⟩ := Bool.and_eq_true_iff.mp h
    rw [Nat.eq_of_beq_eq_true hn]
    clear hn
    obtain ⟨h1, v, h2, h3⟩ := xa_1_ok h
    rw [← Nat.eq_of_beq_eq_true h3]
    exact xa_aload h1 h2
  | istore k =>
    obtain ⟨h, hn⟩ := Bool.and_eq_true_iff.mp h
    rw [Nat.eq_of_beq_eq_true hn]
    clear hn
    obtain ⟨h1, v, h2, h3⟩ := xa_1_ok h
    rw [← Nat.eq_of_beq_eq_true h3]
    exact xa_istore h1 h2
  | lstore k =>
    obtain ⟨h, hn⟩ := Bool.and_eq_true_iff.mp h
    rw [Nat.eq_of_beq_eq_true hn]
    clear hn
    obtain ⟨h1, v, h2, h3⟩ := xa_1_ok h
    rw [← Nat.eq_of_beq_eq_true h3]
    exact xa_lstore h1 h2
  | astore k =>
    obtain ⟨h, hn⟩ := Bool.and_eq_true_iff.mp h
    rw [Nat.eq_of_beq_eq_true hn]
    clear hn
    obtain ⟨h1, v, h2, h3⟩ := xa_1_ok h
    rw [← Nat.eq_of_beq_eq_true h3]
    exact xa_astore h1 h2
  | ldc k =>
    obtain ⟨h, hn⟩ := Bool.and_eq_true_iff.mp h
    rw [Nat.eq_of_beq_eq_true hn]
    clear hn
    obtain ⟨h1, v, h2, h3⟩ := xa_1_ok h
    rw [← Nat.eq_of_beq_eq_true h3]
    exact xa_ldc h1 h2
  | bipush k =>
    obtain ⟨h, hn⟩ := Bool.and_eq_true_iff.mp h
    rw [Nat.eq_of_beq_eq_true hn]
    clear hn
    obtain ⟨h1, v, h2, h3⟩ := xa_1_ok h
    rw [← of_decide_eq_true h3]
    exact xa_bipush h1 h2
  | ldc_w k =>
    obtain ⟨h, hn⟩ := Bool.and_eq_true_iff.mp h
    rw [Nat.eq_of_beq_eq_true hn]
    clear hn
    obtain ⟨h1, v, u, h2, h4, h3⟩ := xa_2_ok h
    rw [← Nat.eq_of_beq_eq_true h3]
    exact xa_ldc_w h1 h2 h4
  | ldc2_w k =>
    obtain ⟨h, hn⟩ := Bool.and_eq_true_iff.mp h
    rw [Nat.eq_of_beq_eq_true hn]
    clear hn
    obtain ⟨h1, v, u, h2, h4, h3⟩ := xa_2_ok h
    rw [← Nat.eq_of_beq_eq_true h3]
    exact xa_ldc2_w h1 h2 h4
  | getstatic k =>
    obtain ⟨h, hn⟩ := Bool.and_eq_true_iff.mp h
    rw [Nat.eq_of_beq_eq_true hn]
    clear hn
    obtain ⟨h1, v, u, h2, h4, h3⟩ := xa_2_ok h
    rw [← Nat.eq_of_beq_eq_true h3]
    exact xa_getstatic h1 h2 h4
  | putstatic k =>
    obtain ⟨h, hn⟩ := Bool.and_eq_true_iff.mp h
    rw [Nat.eq_of_beq_eq_true hn]
    clear hn
    obtain ⟨h1, v, u, h2, h4, h3⟩ := xa_2_ok h
    rw [← Nat.eq_of_beq_eq_true h3]
    exact xa_putstatic h1 h2 h4
  | getfield k =>
    obtain ⟨h, hn⟩ := Bool.and_eq_true_iff.mp h
    rw [Nat.eq_of_beq_eq_true hn]
    clear hn
    obtain ⟨h1, v, u, h2, h4, h3⟩ := xa_2_ok h
    rw [← Nat.eq_of_beq_eq_true h3]
    exact xa_getfield h1 h2 h4
  | putfield k =>
    obtain ⟨h, hn⟩ := Bool.and_eq_true_iff.mp h
    rw [Nat.eq_of_beq_eq_true hn]
    clear hn
    obtain ⟨h1, v, u, h2, h4, h3⟩ := xa_2_ok h
    rw [← Nat.eq_of_beq_eq_true h3]
    exact xa_putfield h1 h2 h4
  | invokevirtual k =>
    obtain ⟨h, hn⟩ := Bool.and_eq_true_iff.mp h
    rw [Nat.eq_of_beq_eq_true hn]
    clear hn
    obtain ⟨h1, v, u, h2, h4, h3⟩ := xa_2_ok h
    rw [← Nat.eq_of_beq_eq_true h3]
    exact xa_invokevirtual h1 h2 h4
  | invokespecial k =>
    obtain ⟨h, hn⟩ := Bool.and_eq_true_iff.mp h
    rw [Nat.eq_of_beq_eq_true hn]
    clear hn
    obtain ⟨h1, v, u, h2, h4, h3⟩ := xa_2_ok h
    rw [← Nat.eq_of_beq_eq_true h3]
    exact xa_invokespecial h1 h2 h4
  | invokestatic k =>
    obtain ⟨h, hn⟩ := Bool.and_eq_true_iff.mp h
    rw [Nat.eq_of_beq_eq_true hn]
    clear hn
    obtain ⟨h1, v, u, h2, h4, h3⟩ := xa_2_ok h
    rw [← Nat.eq_of_beq_eq_true h3]
    exact xa_invokestatic h1 h2 h4
  | new k =>
    obtain ⟨h, hn⟩ := Bool.and_eq_true_iff.mp h
    rw [Nat.eq_of_beq_eq_true hn]
    clear hn
    obtain ⟨h1, v, u, h2, h4, h3⟩ := xa_2_ok h
    rw [← Nat.eq_of_beq_eq_true h3]
    exact xa_new h1 h2 h4
  | anewarray k =>
    obtain ⟨h, hn⟩ := Bool.and_eq_true_iff.mp h
    rw [Nat.eq_of_beq_eq_true hn]
    clear hn
    obtain ⟨h1, v, u, h2, h4, h3⟩ := xa_2_ok h
    rw [← Nat.eq_of_beq_eq_true h3]
    exact xa_anewarray h1 h2 h4
  | checkcast k =>
    obtain ⟨h, hn⟩ := Bool.and_eq_true_iff.mp h
    rw [Nat.eq_of_beq_eq_true hn]
    clear hn
    obtain ⟨h1, v, u, h2, h4, h3⟩ := xa_2_ok h
    rw [← Nat.eq_of_beq_eq_true h3]
    exact xa_checkcast h1 h2 h4
  | sipush k =>
    obtain ⟨h, hn⟩ := Bool.and_eq_true_iff.mp h
    rw [Nat.eq_of_beq_eq_true hn]
    clear hn
    obtain ⟨h1, v, u, h2, h4, h3⟩ := xa_2_ok h
    rw [← of_decide_eq_true h3]
    exact xa_sipush h1 h2 h4
  | goto k =>
    obtain ⟨h, hn⟩ := Bool.and_eq_true_iff.mp h
    rw [Nat.eq_of_beq_eq_true hn]
    clear hn
    obtain ⟨h1, v, u, h2, h4, h3⟩ := xa_2_ok h
    rw [← of_decide_eq_true h3]
    exact xa_goto h1 h2 h4
  | ifnull k =>
    obtain ⟨h, hn⟩ := Bool.and_eq_true_iff.mp h
    rw [Nat.eq_of_beq_eq_true hn]
    clear hn
    obtain ⟨h1, v, u, h2, h4, h3⟩ := xa_2_ok h
    rw [← of_decide_eq_true h3]
    exact xa_ifnull h1 h2 h4
  | ifnonnull k =>
    obtain ⟨h, hn⟩ := Bool.and_eq_true_iff.mp h
    rw [Nat.eq_of_beq_eq_true hn]
    clear hn
    obtain ⟨h1, v, u, h2, h4, h3⟩ := xa_2_ok h
    rw [← of_decide_eq_true h3]
    exact xa_ifnonnull h1 h2 h4
  | ifCond c k =>
    obtain ⟨h, hn⟩ := Bool.and_eq_true_iff.mp h
    rw [Nat.eq_of_beq_eq_true hn]
    clear hn
    obtain ⟨h1, v, u, h2, h4, h3⟩ := xa_2_ok h
    rw [← of_decide_eq_true h3]
    cases c
    · exact xa_ifCond_eq h1 h2 h4
    · exact xa_ifCond_ne h1 h2 h4
    · exact xa_ifCond_lt h1 h2 h4
    · exact xa_ifCond_ge h1 h2 h4
    · exact xa_ifCond_gt h1 h2 h4
    · exact xa_ifCond_le h1 h2 h4
  | if_icmp c k =>
    obtain ⟨h, hn⟩ := Bool.and_eq_true_iff.mp h
    rw [Nat.eq_of_beq_eq_true hn]
    clear hn
    obtain ⟨h1, v, u, h2, h4, h3⟩ := xa_2_ok h
    rw [← of_decide_eq_true h3]
    cases c
    · exact xa_if_icmp_eq h1 h2 h4
    · exact xa_if_icmp_ne h1 h2 h4
    · exact xa_if_icmp_lt h1 h2 h4
    · exact xa_if_icmp_ge h1 h2 h4
    · exact xa_if_icmp_gt h1 h2 h4
    · exact xa_if_icmp_le h1 h2 h4
  | iinc i k =>
    obtain ⟨h, hn⟩ := Bool.and_eq_true_iff.mp h
    rw [Nat.eq_of_beq_eq_true hn]
    clear hn
    obtain ⟨h1, v, u, h2, h4, h3⟩ := xa_2_ok h
    obtain ⟨h5, h6⟩ := Bool.and_eq_true_iff.mp h3
    rw [← of_decide_eq_true h6, ← Nat.eq_of_beq_eq_true h5]
    exact xa_iinc h1 h2 h4
  | _ => exact absurd (show (false : Bool) = true from h) Bool.false_ne_true
/-- one walk: each instruction by its bytes, or (what has no row above) decoded as it stands -/
def xa_w (b : ByteArray) : List (Nat × Instr × Nat) → Nat → List UInt8 → Bool
  | [], _, _ => true
  | q :: r, pc, bs => Nat.ble pc q.1 && (xa_k q.2.1 q.2.2 (bs.drop (q.1 - pc)) || decide (decode b q.1 = .ok (q.2.1, q.2.2))) && xa_w b r q.1 (bs.drop (q.1 - pc))
theorem xa_w_ok {b : ByteArray} : ∀ (L : List (Nat × Instr × Nat)) (pc : Nat), xa_w b L pc (b.data.toList.drop pc) = true → L.all (fun q => decide (decode b q.1 = .ok (q.2.1, q.2.2))) = true
  | [], _, _ => rfl
  | q :: r, pc, h => by
    unfold xa_w at h
    obtain ⟨h1, h2⟩ := Bool.and_eq_true_iff.mp h
    obtain ⟨h3, h4⟩ := Bool.and_eq_true_iff.mp h1
    have e := Nat.le_of_ble_eq_true h3
    have ed : (b.data.toList.drop pc).drop (q.1 - pc) = b.data.toList.drop q.1 := by
      rw [List.drop_drop]
      congr 1
      omega
    rw [ed] at h2 h4
    have ih := xa_w_ok r q.1 h2
    rw [List.all_cons, ih, Bool.and_true]
    rcases Bool.or_eq_true_iff.mp h4 with h5 | h5
    · exact decide_eq_true (xa_k_ok h5)
    · exact h5
def xa_g (b : ByteArray) (L : List (Nat × Instr × Nat)) : Bool := match L with
  | [] => true
  | q :: _ => xa_w b L q.1 (b.data.toList.drop q.1)
theorem xa_g_ok {b : ByteArray} {L : List (Nat × Instr × Nat)} (h : xa_g b L = true) : L.all (fun q => decide (decode b q.1 = .ok (q.2.1, q.2.2))) = true := by
  unfold xa_g at h
  split at h
  · rfl
  · exact xa_w_ok _ _ h
end
end
-- part 14
section
/-! names and words (the names of classes, fields and methods are those of the printed list) -/
def RX0 : String := "RobotCellHouse$Arm"
def TX0 : u_T := fun k => match k with
  | 0 => ("RobotCellHouse$Arm", "joint", "[LRobotCellHouse$Joint;", true)
  | 1 => ("RobotCellHouse$Arm", "x", "[I", true)
  | 2 => ("RobotCellHouse$Arm", "y", "[I", true)
  | 3 => ("RobotCellHouse$Arm", "oldX", "[I", true)
  | 4 => ("RobotCellHouse$Arm", "oldY", "[I", true)
  | 5 => ("RobotCellHouse$Arm", "spared", "[I", true)
  | 6 => ("RobotCellHouse$Arm", "variable", "[I", true)
  | 7 => ("RobotCellHouse$Arm", "code", "LRobotCellHouse$Code;", false)
  | 8 => ("RobotCellHouse$Arm", "joints", "I", false)
  | 9 => ("RobotCellHouse$Arm", "direction", "I", false)
  | 10 => ("RobotCellHouse$Arm", "reach", "I", false)
  | 11 => ("RobotCellHouse$Arm", "state", "I", false)
  | 12 => ("RobotCellHouse$Arm", "ticks", "I", false)
  | 13 => ("RobotCellHouse$Arm", "owner", "I", false)
  | 14 => ("RobotCellHouse$Arm", "held", "I", false)
  | 15 => ("RobotCellHouse$Arm", "heldRadius", "I", false)
  | 16 => ("RobotCellHouse$Arm", "faulted", "I", false)
  | 17 => ("RobotCellHouse$Arm", "way", "I", false)
  | 18 => ("RobotCellHouse$Arm", "at", "I", false)
  | _ => ("RobotCellHouse$Arm", "moved", "I", false)
def tyX0 : Nat → FieldType := fun k => match k with
  | 0 => .array (.object "RobotCellHouse$Joint")
  | 1 => .array .int
  | 2 => .array .int
  | 3 => .array .int
  | 4 => .array .int
  | 5 => .array .int
  | 6 => .array .int
  | 7 => .object "RobotCellHouse$Code"
  | 8 => .int
  | 9 => .int
  | 10 => .int
  | 11 => .int
  | 12 => .int
  | 13 => .int
  | 14 => .int
  | 15 => .int
  | 16 => .int
  | 17 => .int
  | 18 => .int
  | _ => .int
theorem nmX0 : ∀ a, a < 20 → ∀ b, b < 20 → a ≠ b → (TX0 a).2.1 ≠ (TX0 b).2.1 := by decide +kernel
theorem tyX0_ok : ∀ k, k < 20 → parseFieldDescriptor (TX0 k).2.2.1 = some (tyX0 k) := by decide +kernel
def RX1 : String := "RobotCellHouse$Code"
def TX1 : u_T := fun k => match k with
  | 0 => ("RobotCellHouse$Code", "length", "I", false)
  | 1 => ("RobotCellHouse$Code", "routines", "I", false)
  | 2 => ("RobotCellHouse$Code", "variables", "I", false)
  | 3 => ("RobotCellHouse$Code", "entry", "[I", true)
  | _ => ("RobotCellHouse$Code", "rows", "[I", true)
def tyX1 : Nat → FieldType := fun k => match k with
  | 0 => .int
  | 1 => .int
  | 2 => .int
  | 3 => .array .int
  | _ => .array .int
theorem nmX1 : ∀ a, a < 5 → ∀ b, b < 5 → a ≠ b → (TX1 a).2.1 ≠ (TX1 b).2.1 := by decide +kernel
theorem tyX1_ok : ∀ k, k < 5 → parseFieldDescriptor (TX1 k).2.2.1 = some (tyX1 k) := by decide +kernel
def RX2 : String := "RobotCellHouse$Core"
def TX2 : u_T := fun k => match k with
  | 0 => ("RobotCellHouse$Core", "time", "I", false)
  | 1 => ("RobotCellHouse$Core", "events", "I", false)
  | 2 => ("RobotCellHouse$Core", "inputs", "I", false)
  | 3 => ("RobotCellHouse$Core", "power", "Z", false)
  | 4 => ("RobotCellHouse$Core", "causeKind", "I", false)
  | 5 => ("RobotCellHouse$Core", "causeNumber", "I", false)
  | 6 => ("RobotCellHouse$Core", "causeTick", "I", false)
  | 7 => ("RobotCellHouse$Core", "apart", "Z", false)
  | 8 => ("RobotCellHouse$Core", "log", "[I", true)
  | 9 => ("RobotCellHouse$Core", "differ", "[I", true)
  | 10 => ("RobotCellHouse$Core", "may", "[Z", true)
  | 11 => ("RobotCellHouse$Core", "one", "[Z", true)
  | 12 => ("RobotCellHouse$Core", "other", "[Z", true)
  | 13 => ("RobotCellHouse$Core", "faulty", "[Z", true)
  | _ => ("RobotCellHouse$Core", "differed", "[I", true)
def tyX2 : Nat → FieldType := fun k => match k with
  | 0 => .int
  | 1 => .int
  | 2 => .int
  | 3 => .boolean
  | 4 => .int
  | 5 => .int
  | 6 => .int
  | 7 => .boolean
  | 8 => .array .int
  | 9 => .array .int
  | 10 => .array .boolean
  | 11 => .array .boolean
  | 12 => .array .boolean
  | 13 => .array .boolean
  | _ => .array .int
theorem nmX2 : ∀ a, a < 15 → ∀ b, b < 15 → a ≠ b → (TX2 a).2.1 ≠ (TX2 b).2.1 := by decide +kernel
theorem tyX2_ok : ∀ k, k < 15 → parseFieldDescriptor (TX2 k).2.2.1 = some (tyX2 k) := by decide +kernel
def RX3 : String := "RobotCellHouse$Doer"
def TX3 : u_T := fun k => match k with
  | 0 => ("RobotCellHouse$Doer", "arms", "[LRobotCellHouse$Arm;", true)
  | 1 => ("RobotCellHouse$Doer", "points", "LRobotCellHouse$Points;", true)
  | 2 => ("RobotCellHouse$Doer", "floor", "LRobotCellHouse$Floor;", true)
  | 3 => ("RobotCellHouse$Doer", "core", "LRobotCellHouse$Core;", true)
  | 4 => ("RobotCellHouse$Doer", "tasks", "[LRobotCellHouse$Task;", true)
  | 5 => ("RobotCellHouse$Doer", "locks", "[I", true)
  | 6 => ("RobotCellHouse$Doer", "stack", "[I", true)
  | 7 => ("RobotCellHouse$Doer", "goals", "[I", true)
  | 8 => ("RobotCellHouse$Doer", "top", "I", false)
  | 9 => ("RobotCellHouse$Doer", "waits", "I", false)
  | 10 => ("RobotCellHouse$Doer", "raisedError", "I", false)
  | _ => ("RobotCellHouse$Doer", "raised", "Z", false)
def tyX3 : Nat → FieldType := fun k => match k with
  | 0 => .array (.object "RobotCellHouse$Arm")
  | 1 => .object "RobotCellHouse$Points"
  | 2 => .object "RobotCellHouse$Floor"
  | 3 => .object "RobotCellHouse$Core"
  | 4 => .array (.object "RobotCellHouse$Task")
  | 5 => .array .int
  | 6 => .array .int
  | 7 => .array .int
  | 8 => .int
  | 9 => .int
  | 10 => .int
  | _ => .boolean
theorem nmX3 : ∀ a, a < 12 → ∀ b, b < 12 → a ≠ b → (TX3 a).2.1 ≠ (TX3 b).2.1 := by decide +kernel
theorem tyX3_ok : ∀ k, k < 12 → parseFieldDescriptor (TX3 k).2.2.1 = some (tyX3 k) := by decide +kernel
def RX4 : String := "RobotCellHouse$Floor"
def TX4 : u_T := fun k => match k with
  | 0 => ("RobotCellHouse$Floor", "belts", "I", false)
  | 1 => ("RobotCellHouse$Floor", "parts", "I", false)
  | 2 => ("RobotCellHouse$Floor", "length", "[I", true)
  | 3 => ("RobotCellHouse$Floor", "speed", "[I", true)
  | 4 => ("RobotCellHouse$Floor", "point", "[I", true)
  | 5 => ("RobotCellHouse$Floor", "from", "[I", true)
  | 6 => ("RobotCellHouse$Floor", "to", "[I", true)
  | 7 => ("RobotCellHouse$Floor", "x", "[I", true)
  | 8 => ("RobotCellHouse$Floor", "y", "[I", true)
  | 9 => ("RobotCellHouse$Floor", "stepX", "[I", true)
  | 10 => ("RobotCellHouse$Floor", "stepY", "[I", true)
  | 11 => ("RobotCellHouse$Floor", "width", "[I", true)
  | 12 => ("RobotCellHouse$Floor", "order", "[[I", true)
  | 13 => ("RobotCellHouse$Floor", "ordered", "[I", true)
  | 14 => ("RobotCellHouse$Floor", "where", "[I", true)
  | 15 => ("RobotCellHouse$Floor", "way", "[I", true)
  | 16 => ("RobotCellHouse$Floor", "radius", "[I", true)
  | 17 => ("RobotCellHouse$Floor", "placeX", "[I", true)
  | 18 => ("RobotCellHouse$Floor", "placeY", "[I", true)
  | _ => ("RobotCellHouse$Floor", "first", "[[I", true)
def tyX4 : Nat → FieldType := fun k => match k with
  | 0 => .int
  | 1 => .int
  | 2 => .array .int
  | 3 => .array .int
  | 4 => .array .int
  | 5 => .array .int
  | 6 => .array .int
  | 7 => .array .int
  | 8 => .array .int
  | 9 => .array .int
  | 10 => .array .int
  | 11 => .array .int
  | 12 => .array (.array .int)
  | 13 => .array .int
  | 14 => .array .int
  | 15 => .array .int
  | 16 => .array .int
  | 17 => .array .int
  | 18 => .array .int
  | _ => .array (.array .int)
theorem nmX4 : ∀ a, a < 20 → ∀ b, b < 20 → a ≠ b → (TX4 a).2.1 ≠ (TX4 b).2.1 := by decide +kernel
theorem tyX4_ok : ∀ k, k < 20 → parseFieldDescriptor (TX4 k).2.2.1 = some (tyX4 k) := by decide +kernel
def RX5 : String := "RobotCellHouse$Joint"
def TX5 : u_T := fun k => match k with
  | 0 => ("RobotCellHouse$Joint", "kind", "I", false)
  | 1 => ("RobotCellHouse$Joint", "low", "I", false)
  | 2 => ("RobotCellHouse$Joint", "high", "I", false)
  | 3 => ("RobotCellHouse$Joint", "length", "I", false)
  | 4 => ("RobotCellHouse$Joint", "radius", "I", false)
  | 5 => ("RobotCellHouse$Joint", "speed", "I", false)
  | 6 => ("RobotCellHouse$Joint", "gain", "I", false)
  | 7 => ("RobotCellHouse$Joint", "value", "I", false)
  | 8 => ("RobotCellHouse$Joint", "step", "I", false)
  | 9 => ("RobotCellHouse$Joint", "goal", "I", false)
  | 10 => ("RobotCellHouse$Joint", "begun", "I", false)
  | _ => ("RobotCellHouse$Joint", "before", "I", false)
def tyX5 : Nat → FieldType := fun k => match k with
  | 0 => .int
  | 1 => .int
  | 2 => .int
  | 3 => .int
  | 4 => .int
  | 5 => .int
  | 6 => .int
  | 7 => .int
  | 8 => .int
  | 9 => .int
  | 10 => .int
  | _ => .int
theorem nmX5 : ∀ a, a < 12 → ∀ b, b < 12 → a ≠ b → (TX5 a).2.1 ≠ (TX5 b).2.1 := by decide +kernel
theorem tyX5_ok : ∀ k, k < 12 → parseFieldDescriptor (TX5 k).2.2.1 = some (tyX5 k) := by decide +kernel
def RX6 : String := "RobotCellHouse$Planner"
def TX6 : u_T := fun k => match k with
  | 0 => ("RobotCellHouse$Planner", "plans", "I", false)
  | 1 => ("RobotCellHouse$Planner", "wide", "I", false)
  | 2 => ("RobotCellHouse$Planner", "margin", "I", false)
  | 3 => ("RobotCellHouse$Planner", "origin", "I", false)
  | 4 => ("RobotCellHouse$Planner", "values", "[I", true)
  | 5 => ("RobotCellHouse$Planner", "down", "[I", true)
  | 6 => ("RobotCellHouse$Planner", "size", "[I", true)
  | 7 => ("RobotCellHouse$Planner", "stride", "[I", true)
  | 8 => ("RobotCellHouse$Planner", "queue", "[I", true)
  | 9 => ("RobotCellHouse$Planner", "came", "[I", true)
  | 10 => ("RobotCellHouse$Planner", "steps", "[B", true)
  | 11 => ("RobotCellHouse$Planner", "lengths", "[I", true)
  | _ => ("RobotCellHouse$Planner", "widths", "[I", true)
def tyX6 : Nat → FieldType := fun k => match k with
  | 0 => .int
  | 1 => .int
  | 2 => .int
  | 3 => .int
  | 4 => .array .int
  | 5 => .array .int
  | 6 => .array .int
  | 7 => .array .int
  | 8 => .array .int
  | 9 => .array .int
  | 10 => .array .byte
  | 11 => .array .int
  | _ => .array .int
theorem nmX6 : ∀ a, a < 13 → ∀ b, b < 13 → a ≠ b → (TX6 a).2.1 ≠ (TX6 b).2.1 := by decide +kernel
theorem tyX6_ok : ∀ k, k < 13 → parseFieldDescriptor (TX6 k).2.2.1 = some (tyX6 k) := by decide +kernel
def RX7 : String := "RobotCellHouse$Points"
def TX7 : u_T := fun k => match k with
  | 0 => ("RobotCellHouse$Points", "own", "[I", true)
  | 1 => ("RobotCellHouse$Points", "value", "[I", true)
  | 2 => ("RobotCellHouse$Points", "rises", "[I", true)
  | 3 => ("RobotCellHouse$Points", "forcedTo", "[I", true)
  | 4 => ("RobotCellHouse$Points", "source", "[I", true)
  | 5 => ("RobotCellHouse$Points", "forced", "[Z", true)
  | 6 => ("RobotCellHouse$Points", "turned", "[Z", true)
  | _ => ("RobotCellHouse$Points", "order", "[I", true)
def tyX7 : Nat → FieldType := fun k => match k with
  | 0 => .array .int
  | 1 => .array .int
  | 2 => .array .int
  | 3 => .array .int
  | 4 => .array .int
  | 5 => .array .boolean
  | 6 => .array .boolean
  | _ => .array .int
theorem nmX7 : ∀ a, a < 8 → ∀ b, b < 8 → a ≠ b → (TX7 a).2.1 ≠ (TX7 b).2.1 := by decide +kernel
theorem tyX7_ok : ∀ k, k < 8 → parseFieldDescriptor (TX7 k).2.2.1 = some (tyX7 k) := by decide +kernel
def RX8 : String := "RobotCellHouse$Reader"
def TX8 : u_T := fun k => match k with
  | 0 => ("RobotCellHouse$Reader", "length", "I", false)
  | 1 => ("RobotCellHouse$Reader", "fault", "I", false)
  | 2 => ("RobotCellHouse$Reader", "place", "I", false)
  | 3 => ("RobotCellHouse$Reader", "code", "LRobotCellHouse$Code;", false)
  | 4 => ("RobotCellHouse$Reader", "text", "[B", true)
  | 5 => ("RobotCellHouse$Reader", "kind", "I", false)
  | 6 => ("RobotCellHouse$Reader", "at", "I", false)
  | 7 => ("RobotCellHouse$Reader", "next", "I", false)
  | 8 => ("RobotCellHouse$Reader", "number", "I", false)
  | 9 => ("RobotCellHouse$Reader", "sense", "I", false)
  | 10 => ("RobotCellHouse$Reader", "sensePlace", "I", false)
  | 11 => ("RobotCellHouse$Reader", "open", "I", false)
  | 12 => ("RobotCellHouse$Reader", "tries", "I", false)
  | 13 => ("RobotCellHouse$Reader", "loop", "I", false)
  | 14 => ("RobotCellHouse$Reader", "routines", "I", false)
  | 15 => ("RobotCellHouse$Reader", "variableAt", "[I", true)
  | _ => ("RobotCellHouse$Reader", "routineAt", "[I", true)
def tyX8 : Nat → FieldType := fun k => match k with
  | 0 => .int
  | 1 => .int
  | 2 => .int
  | 3 => .object "RobotCellHouse$Code"
  | 4 => .array .byte
  | 5 => .int
  | 6 => .int
  | 7 => .int
  | 8 => .int
  | 9 => .int
  | 10 => .int
  | 11 => .int
  | 12 => .int
  | 13 => .int
  | 14 => .int
  | 15 => .array .int
  | _ => .array .int
theorem nmX8 : ∀ a, a < 17 → ∀ b, b < 17 → a ≠ b → (TX8 a).2.1 ≠ (TX8 b).2.1 := by decide +kernel
theorem tyX8_ok : ∀ k, k < 17 → parseFieldDescriptor (TX8 k).2.2.1 = some (tyX8 k) := by decide +kernel
def RX9 : String := "RobotCellHouse$Shapes"
def TX9 : u_T := fun k => match k with
  | 0 => ("RobotCellHouse$Shapes", "solids", "I", false)
  | 1 => ("RobotCellHouse$Shapes", "zones", "I", false)
  | 2 => ("RobotCellHouse$Shapes", "x", "[I", true)
  | 3 => ("RobotCellHouse$Shapes", "y", "[I", true)
  | 4 => ("RobotCellHouse$Shapes", "w", "[I", true)
  | 5 => ("RobotCellHouse$Shapes", "h", "[I", true)
  | 6 => ("RobotCellHouse$Shapes", "\x72", "[I", true)
  | 7 => ("RobotCellHouse$Shapes", "zoneArm", "[I", true)
  | 8 => ("RobotCellHouse$Shapes", "most", "[I", true)
  | 9 => ("RobotCellHouse$Shapes", "left", "[I", true)
  | 10 => ("RobotCellHouse$Shapes", "low", "[I", true)
  | 11 => ("RobotCellHouse$Shapes", "right", "[I", true)
  | 12 => ("RobotCellHouse$Shapes", "high", "[I", true)
  | 13 => ("RobotCellHouse$Shapes", "ax", "I", false)
  | 14 => ("RobotCellHouse$Shapes", "ay", "I", false)
  | 15 => ("RobotCellHouse$Shapes", "bx", "I", false)
  | _ => ("RobotCellHouse$Shapes", "by", "I", false)
def tyX9 : Nat → FieldType := fun k => match k with
  | 0 => .int
  | 1 => .int
  | 2 => .array .int
  | 3 => .array .int
  | 4 => .array .int
  | 5 => .array .int
  | 6 => .array .int
  | 7 => .array .int
  | 8 => .array .int
  | 9 => .array .int
  | 10 => .array .int
  | 11 => .array .int
  | 12 => .array .int
  | 13 => .int
  | 14 => .int
  | 15 => .int
  | _ => .int
theorem nmX9 : ∀ a, a < 17 → ∀ b, b < 17 → a ≠ b → (TX9 a).2.1 ≠ (TX9 b).2.1 := by decide +kernel
theorem tyX9_ok : ∀ k, k < 17 → parseFieldDescriptor (TX9 k).2.2.1 = some (tyX9 k) := by decide +kernel
def RX10 : String := "RobotCellHouse$Task"
def TX10 : u_T := fun k => match k with
  | 0 => ("RobotCellHouse$Task", "number", "I", true)
  | 1 => ("RobotCellHouse$Task", "state", "I", false)
  | 2 => ("RobotCellHouse$Task", "arm", "I", false)
  | 3 => ("RobotCellHouse$Task", "pc", "I", false)
  | 4 => ("RobotCellHouse$Task", "frames", "I", false)
  | 5 => ("RobotCellHouse$Task", "error", "I", false)
  | 6 => ("RobotCellHouse$Task", "caught", "I", false)
  | 7 => ("RobotCellHouse$Task", "born", "I", false)
  | 8 => ("RobotCellHouse$Task", "awaited", "I", false)
  | 9 => ("RobotCellHouse$Task", "since", "I", false)
  | 10 => ("RobotCellHouse$Task", "broken", "Z", false)
  | 11 => ("RobotCellHouse$Task", "watched", "I", false)
  | 12 => ("RobotCellHouse$Task", "watcher", "I", false)
  | 13 => ("RobotCellHouse$Task", "kept", "I", false)
  | 14 => ("RobotCellHouse$Task", "watchFrame", "I", false)
  | 15 => ("RobotCellHouse$Task", "tries", "I", false)
  | 16 => ("RobotCellHouse$Task", "returnTo", "[I", true)
  | 17 => ("RobotCellHouse$Task", "triesBelow", "[I", true)
  | 18 => ("RobotCellHouse$Task", "tryAt", "[I", true)
  | 19 => ("RobotCellHouse$Task", "tryPart", "[I", true)
  | _ => ("RobotCellHouse$Task", "tryValue", "[I", true)
def tyX10 : Nat → FieldType := fun k => match k with
  | 0 => .int
  | 1 => .int
  | 2 => .int
  | 3 => .int
  | 4 => .int
  | 5 => .int
  | 6 => .int
  | 7 => .int
  | 8 => .int
  | 9 => .int
  | 10 => .boolean
  | 11 => .int
  | 12 => .int
  | 13 => .int
  | 14 => .int
  | 15 => .int
  | 16 => .array .int
  | 17 => .array .int
  | 18 => .array .int
  | 19 => .array .int
  | _ => .array .int
theorem nmX10 : ∀ a, a < 21 → ∀ b, b < 21 → a ≠ b → (TX10 a).2.1 ≠ (TX10 b).2.1 := by decide +kernel
theorem tyX10_ok : ∀ k, k < 21 → parseFieldDescriptor (TX10 k).2.2.1 = some (tyX10 k) := by decide +kernel
def RX11 : String := "RobotCellHouse"
def TX11 : u_T := fun k => match k with
  | 0 => ("RobotCellHouse", "reader", "LRobotCellHouse$Reader;", true)
  | 1 => ("RobotCellHouse", "doer", "LRobotCellHouse$Doer;", true)
  | 2 => ("RobotCellHouse", "arms", "[LRobotCellHouse$Arm;", true)
  | 3 => ("RobotCellHouse", "points", "LRobotCellHouse$Points;", true)
  | 4 => ("RobotCellHouse", "floor", "LRobotCellHouse$Floor;", true)
  | 5 => ("RobotCellHouse", "core", "LRobotCellHouse$Core;", true)
  | 6 => ("RobotCellHouse", "shapes", "LRobotCellHouse$Shapes;", true)
  | 7 => ("RobotCellHouse", "planner", "LRobotCellHouse$Planner;", true)
  | 8 => ("RobotCellHouse", "aims", "[I", true)
  | 9 => ("RobotCellHouse", "book", "[I", true)
  | 10 => ("RobotCellHouse", "never", "[I", true)
  | 11 => ("RobotCellHouse", "armCount", "I", false)
  | 12 => ("RobotCellHouse", "rows", "I", false)
  | 13 => ("RobotCellHouse", "isOpen", "Z", false)
  | _ => ("RobotCellHouse", "counting", "Z", false)
def tyX11 : Nat → FieldType := fun k => match k with
  | 0 => .object "RobotCellHouse$Reader"
  | 1 => .object "RobotCellHouse$Doer"
  | 2 => .array (.object "RobotCellHouse$Arm")
  | 3 => .object "RobotCellHouse$Points"
  | 4 => .object "RobotCellHouse$Floor"
  | 5 => .object "RobotCellHouse$Core"
  | 6 => .object "RobotCellHouse$Shapes"
  | 7 => .object "RobotCellHouse$Planner"
  | 8 => .array .int
  | 9 => .array .int
  | 10 => .array .int
  | 11 => .int
  | 12 => .int
  | 13 => .boolean
  | _ => .boolean
theorem nmX11 : ∀ a, a < 15 → ∀ b, b < 15 → a ≠ b → (TX11 a).2.1 ≠ (TX11 b).2.1 := by decide +kernel
theorem tyX11_ok : ∀ k, k < 15 → parseFieldDescriptor (TX11 k).2.2.1 = some (tyX11 k) := by decide +kernel
def RX12 : String := "RobotCellHouseModel"
def TX12 : u_T := fun k => match k with
  | 0 => ("RobotCellHouseModel", "now", "[I", true)
  | 1 => ("RobotCellHouseModel", "opened", "[I", true)
  | 2 => ("RobotCellHouseModel", "shots", "[I", true)
  | 3 => ("RobotCellHouseModel", "isOpen", "Z", false)
  | 4 => ("RobotCellHouseModel", "book", "[I", true)
  | 5 => ("RobotCellHouseModel", "rows", "I", false)
  | 6 => ("RobotCellHouseModel", "isAgain", "Z", false)
  | 7 => ("RobotCellHouseModel", "counted", "[I", true)
  | 8 => ("RobotCellHouseModel", "tape", "[B", true)
  | 9 => ("RobotCellHouseModel", "taped", "I", false)
  | 10 => ("RobotCellHouseModel", "arms", "I", false)
  | 11 => ("RobotCellHouseModel", "baseX", "[I", true)
  | 12 => ("RobotCellHouseModel", "baseY", "[I", true)
  | 13 => ("RobotCellHouseModel", "direction", "[I", true)
  | 14 => ("RobotCellHouseModel", "reach", "[I", true)
  | 15 => ("RobotCellHouseModel", "joints", "[I", true)
  | 16 => ("RobotCellHouseModel", "turns", "[I", true)
  | 17 => ("RobotCellHouseModel", "low", "[I", true)
  | 18 => ("RobotCellHouseModel", "high", "[I", true)
  | 19 => ("RobotCellHouseModel", "speed", "[I", true)
  | 20 => ("RobotCellHouseModel", "gain", "[I", true)
  | 21 => ("RobotCellHouseModel", "length", "[I", true)
  | 22 => ("RobotCellHouseModel", "radius", "[I", true)
  | 23 => ("RobotCellHouseModel", "solids", "I", false)
  | 24 => ("RobotCellHouseModel", "isBox", "[Z", true)
  | 25 => ("RobotCellHouseModel", "solidX", "[I", true)
  | 26 => ("RobotCellHouseModel", "solidY", "[I", true)
  | 27 => ("RobotCellHouseModel", "solidW", "[I", true)
  | 28 => ("RobotCellHouseModel", "solidH", "[I", true)
  | 29 => ("RobotCellHouseModel", "spared", "[Z", true)
  | 30 => ("RobotCellHouseModel", "belts", "I", false)
  | 31 => ("RobotCellHouseModel", "beltX", "[I", true)
  | 32 => ("RobotCellHouseModel", "beltY", "[I", true)
  | 33 => ("RobotCellHouseModel", "quarter", "[I", true)
  | 34 => ("RobotCellHouseModel", "beltLength", "[I", true)
  | 35 => ("RobotCellHouseModel", "beltSpeed", "[I", true)
  | 36 => ("RobotCellHouseModel", "beltWidth", "[I", true)
  | 37 => ("RobotCellHouseModel", "sensorPoint", "[I", true)
  | 38 => ("RobotCellHouseModel", "sensorFrom", "[I", true)
  | 39 => ("RobotCellHouseModel", "sensorTo", "[I", true)
  | 40 => ("RobotCellHouseModel", "parts", "I", false)
  | 41 => ("RobotCellHouseModel", "partRadius", "[I", true)
  | 42 => ("RobotCellHouseModel", "zones", "I", false)
  | 43 => ("RobotCellHouseModel", "zoneArm", "[I", true)
  | 44 => ("RobotCellHouseModel", "zoneX", "[I", true)
  | 45 => ("RobotCellHouseModel", "zoneY", "[I", true)
  | 46 => ("RobotCellHouseModel", "zoneW", "[I", true)
  | 47 => ("RobotCellHouseModel", "zoneH", "[I", true)
  | 48 => ("RobotCellHouseModel", "zoneMost", "[I", true)
  | 49 => ("RobotCellHouseModel", "inputs", "I", false)
  | 50 => ("RobotCellHouseModel", "differ", "[I", true)
  | 51 => ("RobotCellHouseModel", "may", "[Z", true)
  | 52 => ("RobotCellHouseModel", "wireFrom", "[I", true)
  | 53 => ("RobotCellHouseModel", "isTurned", "[Z", true)
  | 54 => ("RobotCellHouseModel", "sines", "[I", true)
  | 55 => ("RobotCellHouseModel", "pointX", "[I", true)
  | 56 => ("RobotCellHouseModel", "pointY", "[I", true)
  | 57 => ("RobotCellHouseModel", "trial", "[I", true)
  | 58 => ("RobotCellHouseModel", "lineFrom", "I", false)
  | 59 => ("RobotCellHouseModel", "lineTo", "I", false)
  | 60 => ("RobotCellHouseModel", "lineRadius", "I", false)
  | 61 => ("RobotCellHouseModel", "one", "[I", true)
  | 62 => ("RobotCellHouseModel", "two", "[I", true)
  | 63 => ("RobotCellHouseModel", "path", "[I", true)
  | 64 => ("RobotCellHouseModel", "wasNought", "[Z", true)
  | 65 => ("RobotCellHouseModel", "ops", "[I", true)
  | 66 => ("RobotCellHouseModel", "args", "[I", true)
  | 67 => ("RobotCellHouseModel", "regions", "[I", true)
  | 68 => ("RobotCellHouseModel", "tryIn", "[I", true)
  | 69 => ("RobotCellHouseModel", "tryCatch", "[I", true)
  | 70 => ("RobotCellHouseModel", "tryFinally", "[I", true)
  | 71 => ("RobotCellHouseModel", "tryEnd", "[I", true)
  | 72 => ("RobotCellHouseModel", "whileIn", "[I", true)
  | 73 => ("RobotCellHouseModel", "whileEnd", "[I", true)
  | 74 => ("RobotCellHouseModel", "routineAt", "[I", true)
  | 75 => ("RobotCellHouseModel", "routines", "[I", true)
  | 76 => ("RobotCellHouseModel", "variables", "[I", true)
  | 77 => ("RobotCellHouseModel", "hasProgram", "[Z", true)
  | 78 => ("RobotCellHouseModel", "size", "I", false)
  | 79 => ("RobotCellHouseModel", "tries", "I", false)
  | 80 => ("RobotCellHouseModel", "whiles", "I", false)
  | 81 => ("RobotCellHouseModel", "region", "I", false)
  | 82 => ("RobotCellHouseModel", "inWhile", "I", false)
  | 83 => ("RobotCellHouseModel", "opens", "I", false)
  | 84 => ("RobotCellHouseModel", "kind", "I", false)
  | 85 => ("RobotCellHouseModel", "what", "I", false)
  | 86 => ("RobotCellHouseModel", "tokenAt", "I", false)
  | 87 => ("RobotCellHouseModel", "tokenEnd", "I", false)
  | 88 => ("RobotCellHouseModel", "faultKind", "I", false)
  | 89 => ("RobotCellHouseModel", "faultPlace", "I", false)
  | 90 => ("RobotCellHouseModel", "nameKind", "[I", true)
  | 91 => ("RobotCellHouseModel", "nameAt", "[I", true)
  | 92 => ("RobotCellHouseModel", "nameSize", "[I", true)
  | 93 => ("RobotCellHouseModel", "nameCode", "[I", true)
  | 94 => ("RobotCellHouseModel", "names", "I", false)
  | 95 => ("RobotCellHouseModel", "hasRead", "Z", false)
  | 96 => ("RobotCellHouseModel", "turn", "I", false)
  | 97 => ("RobotCellHouseModel", "at", "I", false)
  | 98 => ("RobotCellHouseModel", "its", "I", false)
  | 99 => ("RobotCellHouseModel", "begun", "I", false)
  | 100 => ("RobotCellHouseModel", "isOver", "Z", false)
  | 101 => ("RobotCellHouseModel", "stack", "[I", true)
  | 102 => ("RobotCellHouseModel", "depth", "I", false)
  | 103 => ("RobotCellHouseModel", "stepBefore", "[I", true)
  | 104 => ("RobotCellHouseModel", "nodes", "[I", true)
  | 105 => ("RobotCellHouseModel", "first", "[I", true)
  | 106 => ("RobotCellHouseModel", "far", "[I", true)
  | 107 => ("RobotCellHouseModel", "queue", "[I", true)
  | 108 => ("RobotCellHouseModel", "isFree", "[I", true)
  | 109 => ("RobotCellHouseModel", "edges", "[I", true)
  | 110 => ("RobotCellHouseModel", "planArm", "I", false)
  | 111 => ("RobotCellHouseModel", "planWide", "I", false)
  | 112 => ("RobotCellHouseModel", "planMargin", "I", false)
  | 113 => ("RobotCellHouseModel", "found", "[I", true)
  | 114 => ("RobotCellHouseModel", "ways", "[I", true)
  | 115 => ("RobotCellHouseModel", "wayFrom", "[I", true)
  | 116 => ("RobotCellHouseModel", "wayEnd", "[I", true)
  | 117 => ("RobotCellHouseModel", "againRow", "I", false)
  | _ => ("RobotCellHouseModel", "plans", "I", false)
def tyX12 : Nat → FieldType := fun k => match k with
  | 0 => .array .int
  | 1 => .array .int
  | 2 => .array .int
  | 3 => .boolean
  | 4 => .array .int
  | 5 => .int
  | 6 => .boolean
  | 7 => .array .int
  | 8 => .array .byte
  | 9 => .int
  | 10 => .int
  | 11 => .array .int
  | 12 => .array .int
  | 13 => .array .int
  | 14 => .array .int
  | 15 => .array .int
  | 16 => .array .int
  | 17 => .array .int
  | 18 => .array .int
  | 19 => .array .int
  | 20 => .array .int
  | 21 => .array .int
  | 22 => .array .int
  | 23 => .int
  | 24 => .array .boolean
  | 25 => .array .int
  | 26 => .array .int
  | 27 => .array .int
  | 28 => .array .int
  | 29 => .array .boolean
  | 30 => .int
  | 31 => .array .int
  | 32 => .array .int
  | 33 => .array .int
  | 34 => .array .int
  | 35 => .array .int
  | 36 => .array .int
  | 37 => .array .int
  | 38 => .array .int
  | 39 => .array .int
  | 40 => .int
  | 41 => .array .int
  | 42 => .int
  | 43 => .array .int
  | 44 => .array .int
  | 45 => .array .int
  | 46 => .array .int
  | 47 => .array .int
  | 48 => .array .int
  | 49 => .int
  | 50 => .array .int
  | 51 => .array .boolean
  | 52 => .array .int
  | 53 => .array .boolean
  | 54 => .array .int
  | 55 => .array .int
  | 56 => .array .int
  | 57 => .array .int
  | 58 => .int
  | 59 => .int
  | 60 => .int
  | 61 => .array .int
  | 62 => .array .int
  | 63 => .array .int
  | 64 => .array .boolean
  | 65 => .array .int
  | 66 => .array .int
  | 67 => .array .int
  | 68 => .array .int
  | 69 => .array .int
  | 70 => .array .int
  | 71 => .array .int
  | 72 => .array .int
  | 73 => .array .int
  | 74 => .array .int
  | 75 => .array .int
  | 76 => .array .int
  | 77 => .array .boolean
  | 78 => .int
  | 79 => .int
  | 80 => .int
  | 81 => .int
  | 82 => .int
  | 83 => .int
  | 84 => .int
  | 85 => .int
  | 86 => .int
  | 87 => .int
  | 88 => .int
  | 89 => .int
  | 90 => .array .int
  | 91 => .array .int
  | 92 => .array .int
  | 93 => .array .int
  | 94 => .int
  | 95 => .boolean
  | 96 => .int
  | 97 => .int
  | 98 => .int
  | 99 => .int
  | 100 => .boolean
  | 101 => .array .int
  | 102 => .int
  | 103 => .array .int
  | 104 => .array .int
  | 105 => .array .int
  | 106 => .array .int
  | 107 => .array .int
  | 108 => .array .int
  | 109 => .array .int
  | 110 => .int
  | 111 => .int
  | 112 => .int
  | 113 => .array .int
  | 114 => .array .int
  | 115 => .array .int
  | 116 => .array .int
  | 117 => .int
  | _ => .int
theorem nmX12 : ∀ a, a < 119 → ∀ b, b < 119 → a ≠ b → (TX12 a).2.1 ≠ (TX12 b).2.1 := by decide +kernel
theorem tyX12_ok : ∀ k, k < 119 → parseFieldDescriptor (TX12 k).2.2.1 = some (tyX12 k) := by decide +kernel
def RJ7 : String := "java/util/Arrays"
abbrev cls : List vw_C := [(RX0, TX0, 20), (RX1, TX1, 5), (RX2, TX2, 15), (RX3, TX3, 12), (RX4, TX4, 20), (RX5, TX5, 12), (RX6, TX6, 13), (RX7, TX7, 8), (RX8, TX8, 17), (RX9, TX9, 17), (RX10, TX10, 21), (RX11, TX11, 15), (RX12, TX12, 119)]
theorem in_t1 : ∀ {w : Cond}, w ∈ tables_1_1 → goodWord w = true → w ∈ x_tbl := fun h hg => x_tb (List.mem_append_right _ (show _ ∈ tables_1 from (List.mem_append_left _ h))) hg
theorem in_t2 : ∀ {w : Cond}, w ∈ tables_1_2 → goodWord w = true → w ∈ x_tbl := fun h hg => x_tb (List.mem_append_right _ (show _ ∈ tables_1 from (List.mem_append_right _ (List.mem_append_left _ h)))) hg
theorem in_t3 : ∀ {w : Cond}, w ∈ tables_1_3 → goodWord w = true → w ∈ x_tbl := fun h hg => x_tb (List.mem_append_right _ (show _ ∈ tables_1 from (List.mem_append_right _ (List.mem_append_right _ (List.mem_append_left _ h))))) hg
theorem in_t4 : ∀ {w : Cond}, w ∈ tables_1_4 → goodWord w = true → w ∈ x_tbl := fun h hg => x_tb (List.mem_append_right _ (show _ ∈ tables_1 from (List.mem_append_right _ (List.mem_append_right _ (List.mem_append_right _ (List.mem_append_left _ h)))))) hg
theorem in_t5 : ∀ {w : Cond}, w ∈ tables_1_5 → goodWord w = true → w ∈ x_tbl := fun h hg => x_tb (List.mem_append_right _ (show _ ∈ tables_1 from (List.mem_append_right _ (List.mem_append_right _ (List.mem_append_right _ (List.mem_append_right _ (List.mem_append_left _ h))))))) hg
theorem in_t6 : ∀ {w : Cond}, w ∈ tables_1_6 → goodWord w = true → w ∈ x_tbl := fun h hg => x_tb (List.mem_append_right _ (show _ ∈ tables_1 from (List.mem_append_right _ (List.mem_append_right _ (List.mem_append_right _ (List.mem_append_right _ (List.mem_append_right _ (List.mem_append_left _ h)))))))) hg
theorem in_t7 : ∀ {w : Cond}, w ∈ tables_1_7 → goodWord w = true → w ∈ x_tbl := fun h hg => x_tb (List.mem_append_right _ (show _ ∈ tables_1 from (List.mem_append_right _ (List.mem_append_right _ (List.mem_append_right _ (List.mem_append_right _ (List.mem_append_right _ (List.mem_append_right _ (List.mem_append_left _ h))))))))) hg
theorem in_t8 : ∀ {w : Cond}, w ∈ tables_1_8 → goodWord w = true → w ∈ x_tbl := fun h hg => x_tb (List.mem_append_right _ (show _ ∈ tables_1 from (List.mem_append_right _ (List.mem_append_right _ (List.mem_append_right _ (List.mem_append_right _ (List.mem_append_right _ (List.mem_append_right _ (List.mem_append_right _ (List.mem_append_left _ h)))))))))) hg
theorem in_t9 : ∀ {w : Cond}, w ∈ tables_1_9 → goodWord w = true → w ∈ x_tbl := fun h hg => x_tb (List.mem_append_right _ (show _ ∈ tables_1 from (List.mem_append_right _ (List.mem_append_right _ (List.mem_append_right _ (List.mem_append_right _ (List.mem_append_right _ (List.mem_append_right _ (List.mem_append_right _ (List.mem_append_right _ (List.mem_append_left _ h))))))))))) hg
theorem in_t10 : ∀ {w : Cond}, w ∈ tables_1_10 → goodWord w = true → w ∈ x_tbl := fun h hg => x_tb (List.mem_append_right _ (show _ ∈ tables_1 from (List.mem_append_right _ (List.mem_append_right _ (List.mem_append_right _ (List.mem_append_right _ (List.mem_append_right _ (List.mem_append_right _ (List.mem_append_right _ (List.mem_append_right _ (List.mem_append_right _ (List.mem_append_left _ h)))))))))))) hg
theorem in_t11 : ∀ {w : Cond}, w ∈ tables_1_11 → goodWord w = true → w ∈ x_tbl := fun h hg => x_tb (List.mem_append_right _ (show _ ∈ tables_1 from (List.mem_append_right _ (List.mem_append_right _ (List.mem_append_right _ (List.mem_append_right _ (List.mem_append_right _ (List.mem_append_right _ (List.mem_append_right _ (List.mem_append_right _ (List.mem_append_right _ (List.mem_append_right _ (List.mem_append_left _ h))))))))))))) hg
theorem in_t12 : ∀ {w : Cond}, w ∈ tables_1_12 → goodWord w = true → w ∈ x_tbl := fun h hg => x_tb (List.mem_append_right _ (show _ ∈ tables_1 from (List.mem_append_right _ (List.mem_append_right _ (List.mem_append_right _ (List.mem_append_right _ (List.mem_append_right _ (List.mem_append_right _ (List.mem_append_right _ (List.mem_append_right _ (List.mem_append_right _ (List.mem_append_right _ (List.mem_append_right _ (List.mem_append_left _ h)))))))))))))) hg
theorem in_t13 : ∀ {w : Cond}, w ∈ tables_1_13 → goodWord w = true → w ∈ x_tbl := fun h hg => x_tb (List.mem_append_right _ (show _ ∈ tables_1 from (List.mem_append_right _ (List.mem_append_right _ (List.mem_append_right _ (List.mem_append_right _ (List.mem_append_right _ (List.mem_append_right _ (List.mem_append_right _ (List.mem_append_right _ (List.mem_append_right _ (List.mem_append_right _ (List.mem_append_right _ (List.mem_append_right _ (List.mem_append_left _ h))))))))))))))) hg
theorem in_t14 : ∀ {w : Cond}, w ∈ tables_1_14 → goodWord w = true → w ∈ x_tbl := fun h hg => x_tb (List.mem_append_right _ (show _ ∈ tables_1 from (List.mem_append_right _ (List.mem_append_right _ (List.mem_append_right _ (List.mem_append_right _ (List.mem_append_right _ (List.mem_append_right _ (List.mem_append_right _ (List.mem_append_right _ (List.mem_append_right _ (List.mem_append_right _ (List.mem_append_right _ (List.mem_append_right _ (List.mem_append_right _ h))))))))))))))) hg
theorem in_s1 {q : MethodName × Nat} (h : q ∈ lw_privs_1) : Cond.selects q.1.cls q.1 q.1 ∈ x_tbl := x_tb (List.mem_append_left _ (List.mem_map.mpr ⟨q, (show q ∈ lw_privs from (List.mem_append_left _ h)), rfl⟩)) rfl
theorem in_s2 {q : MethodName × Nat} (h : q ∈ lw_privs_2) : Cond.selects q.1.cls q.1 q.1 ∈ x_tbl := x_tb (List.mem_append_left _ (List.mem_map.mpr ⟨q, (show q ∈ lw_privs from (List.mem_append_right _ (List.mem_append_left _ h))), rfl⟩)) rfl
theorem in_s3 {q : MethodName × Nat} (h : q ∈ lw_privs_3) : Cond.selects q.1.cls q.1 q.1 ∈ x_tbl := x_tb (List.mem_append_left _ (List.mem_map.mpr ⟨q, (show q ∈ lw_privs from (List.mem_append_right _ (List.mem_append_right _ (List.mem_append_left _ h)))), rfl⟩)) rfl
theorem in_s4 {q : MethodName × Nat} (h : q ∈ lw_privs_4) : Cond.selects q.1.cls q.1 q.1 ∈ x_tbl := x_tb (List.mem_append_left _ (List.mem_map.mpr ⟨q, (show q ∈ lw_privs from (List.mem_append_right _ (List.mem_append_right _ (List.mem_append_right _ (List.mem_append_left _ h))))), rfl⟩)) rfl
theorem in_s5 {q : MethodName × Nat} (h : q ∈ lw_privs_5) : Cond.selects q.1.cls q.1 q.1 ∈ x_tbl := x_tb (List.mem_append_left _ (List.mem_map.mpr ⟨q, (show q ∈ lw_privs from (List.mem_append_right _ (List.mem_append_right _ (List.mem_append_right _ (List.mem_append_right _ (List.mem_append_left _ h)))))), rfl⟩)) rfl
theorem in_s6 {q : MethodName × Nat} (h : q ∈ lw_privs_6) : Cond.selects q.1.cls q.1 q.1 ∈ x_tbl := x_tb (List.mem_append_left _ (List.mem_map.mpr ⟨q, (show q ∈ lw_privs from (List.mem_append_right _ (List.mem_append_right _ (List.mem_append_right _ (List.mem_append_right _ (List.mem_append_right _ (List.mem_append_left _ h))))))), rfl⟩)) rfl
theorem in_s7 {q : MethodName × Nat} (h : q ∈ lw_privs_7) : Cond.selects q.1.cls q.1 q.1 ∈ x_tbl := x_tb (List.mem_append_left _ (List.mem_map.mpr ⟨q, (show q ∈ lw_privs from (List.mem_append_right _ (List.mem_append_right _ (List.mem_append_right _ (List.mem_append_right _ (List.mem_append_right _ (List.mem_append_right _ (List.mem_append_left _ h)))))))), rfl⟩)) rfl
theorem in_s8 {q : MethodName × Nat} (h : q ∈ lw_privs_8) : Cond.selects q.1.cls q.1 q.1 ∈ x_tbl := x_tb (List.mem_append_left _ (List.mem_map.mpr ⟨q, (show q ∈ lw_privs from (List.mem_append_right _ (List.mem_append_right _ (List.mem_append_right _ (List.mem_append_right _ (List.mem_append_right _ (List.mem_append_right _ (List.mem_append_right _ (List.mem_append_left _ h))))))))), rfl⟩)) rfl
theorem in_s9 {q : MethodName × Nat} (h : q ∈ lw_privs_9) : Cond.selects q.1.cls q.1 q.1 ∈ x_tbl := x_tb (List.mem_append_left _ (List.mem_map.mpr ⟨q, (show q ∈ lw_privs from (List.mem_append_right _ (List.mem_append_right _ (List.mem_append_right _ (List.mem_append_right _ (List.mem_append_right _ (List.mem_append_right _ (List.mem_append_right _ (List.mem_append_right _ (List.mem_append_left _ h)))))))))), rfl⟩)) rfl
theorem in_s10 {q : MethodName × Nat} (h : q ∈ lw_privs_10) : Cond.selects q.1.cls q.1 q.1 ∈ x_tbl := x_tb (List.mem_append_left _ (List.mem_map.mpr ⟨q, (show q ∈ lw_privs from (List.mem_append_right _ (List.mem_append_right _ (List.mem_append_right _ (List.mem_append_right _ (List.mem_append_right _ (List.mem_append_right _ (List.mem_append_right _ (List.mem_append_right _ (List.mem_append_right _ (List.mem_append_left _ h))))))))))), rfl⟩)) rfl
theorem in_s11 {q : MethodName × Nat} (h : q ∈ lw_privs_11) : Cond.selects q.1.cls q.1 q.1 ∈ x_tbl := x_tb (List.mem_append_left _ (List.mem_map.mpr ⟨q, (show q ∈ lw_privs from (List.mem_append_right _ (List.mem_append_right _ (List.mem_append_right _ (List.mem_append_right _ (List.mem_append_right _ (List.mem_append_right _ (List.mem_append_right _ (List.mem_append_right _ (List.mem_append_right _ (List.mem_append_right _ (List.mem_append_left _ h)))))))))))), rfl⟩)) rfl
theorem in_s12 {q : MethodName × Nat} (h : q ∈ lw_privs_12) : Cond.selects q.1.cls q.1 q.1 ∈ x_tbl := x_tb (List.mem_append_left _ (List.mem_map.mpr ⟨q, (show q ∈ lw_privs from (List.mem_append_right _ (List.mem_append_right _ (List.mem_append_right _ (List.mem_append_right _ (List.mem_append_right _ (List.mem_append_right _ (List.mem_append_right _ (List.mem_append_right _ (List.mem_append_right _ (List.mem_append_right _ (List.mem_append_right _ (List.mem_append_left _ h))))))))))))), rfl⟩)) rfl
theorem in_s13 {q : MethodName × Nat} (h : q ∈ lw_privs_13) : Cond.selects q.1.cls q.1 q.1 ∈ x_tbl := x_tb (List.mem_append_left _ (List.mem_map.mpr ⟨q, (show q ∈ lw_privs from (List.mem_append_right _ (List.mem_append_right _ (List.mem_append_right _ (List.mem_append_right _ (List.mem_append_right _ (List.mem_append_right _ (List.mem_append_right _ (List.mem_append_right _ (List.mem_append_right _ (List.mem_append_right _ (List.mem_append_right _ (List.mem_append_right _ (List.mem_append_left _ h)))))))))))))), rfl⟩)) rfl
theorem in_s14 {q : MethodName × Nat} (h : q ∈ lw_privs_14) : Cond.selects q.1.cls q.1 q.1 ∈ x_tbl := x_tb (List.mem_append_left _ (List.mem_map.mpr ⟨q, (show q ∈ lw_privs from (List.mem_append_right _ (List.mem_append_right _ (List.mem_append_right _ (List.mem_append_right _ (List.mem_append_right _ (List.mem_append_right _ (List.mem_append_right _ (List.mem_append_right _ (List.mem_append_right _ (List.mem_append_right _ (List.mem_append_right _ (List.mem_append_right _ (List.mem_append_right _ (List.mem_append_left _ h))))))))))))))), rfl⟩)) rfl
theorem in_s15 {q : MethodName × Nat} (h : q ∈ lw_privs_15) : Cond.selects q.1.cls q.1 q.1 ∈ x_tbl := x_tb (List.mem_append_left _ (List.mem_map.mpr ⟨q, (show q ∈ lw_privs from (List.mem_append_right _ (List.mem_append_right _ (List.mem_append_right _ (List.mem_append_right _ (List.mem_append_right _ (List.mem_append_right _ (List.mem_append_right _ (List.mem_append_right _ (List.mem_append_right _ (List.mem_append_right _ (List.mem_append_right _ (List.mem_append_right _ (List.mem_append_right _ (List.mem_append_right _ h))))))))))))))), rfl⟩)) rfl
set_option maxRecDepth 20000 in
theorem in_X0 : ∀ w ∈ u_ws RX0 TX0 20, w ∈ x_tbl := fun w h => x_tb (x_words (gs := [669, 1, 1, 1, 1, 1, 1, 1, 1, 1, 1, 1, 1, 1, 1, 1, 1, 1, 1, 1]) (by decide +kernel) w h) (List.all_eq_true.mp (show (u_ws RX0 TX0 20).all goodWord = true by decide +kernel) w h)
set_option maxRecDepth 20000 in
theorem in_X1 : ∀ w ∈ u_ws RX1 TX1 5, w ∈ x_tbl := fun w h => x_tb (x_words (gs := [279, 1, 1, 1, 1]) (by decide +kernel) w h) (List.all_eq_true.mp (show (u_ws RX1 TX1 5).all goodWord = true by decide +kernel) w h)
set_option maxRecDepth 20000 in
theorem in_X2 : ∀ w ∈ u_ws RX2 TX2 15, w ∈ x_tbl := fun w h => x_tb (x_words (gs := [507, 1, 1, 1, 1, 1, 1, 1, 1, 1, 1, 1, 1, 1, 1]) (by decide +kernel) w h) (List.all_eq_true.mp (show (u_ws RX2 TX2 15).all goodWord = true by decide +kernel) w h)
set_option maxRecDepth 20000 in
theorem in_X3 : ∀ w ∈ u_ws RX3 TX3 12, w ∈ x_tbl := fun w h => x_tb (x_words (gs := [812, 1, 1, 1, 1, 1, 1, 1, 1, 1, 1, 1]) (by decide +kernel) w h) (List.all_eq_true.mp (show (u_ws RX3 TX3 12).all goodWord = true by decide +kernel) w h)
set_option maxRecDepth 20000 in
theorem in_X4 : ∀ w ∈ u_ws RX4 TX4 20, w ∈ x_tbl := fun w h => x_tb (x_words (gs := [431, 1, 1, 1, 1, 1, 1, 1, 1, 1, 1, 1, 1, 1, 1, 1, 1, 1, 1, 1]) (by decide +kernel) w h) (List.all_eq_true.mp (show (u_ws RX4 TX4 20).all goodWord = true by decide +kernel) w h)
set_option maxRecDepth 20000 in
theorem in_X5 : ∀ w ∈ u_ws RX5 TX5 12, w ∈ x_tbl := fun w h => x_tb (x_words (gs := [585, 1, 1, 1, 1, 1, 1, 1, 1, 1, 1, 1]) (by decide +kernel) w h) (List.all_eq_true.mp (show (u_ws RX5 TX5 12).all goodWord = true by decide +kernel) w h)
set_option maxRecDepth 20000 in
theorem in_X6 : ∀ w ∈ u_ws RX6 TX6 13, w ∈ x_tbl := fun w h => x_tb (x_words (gs := [918, 1, 1, 1, 1, 1, 1, 1, 1, 1, 1, 1, 1]) (by decide +kernel) w h) (List.all_eq_true.mp (show (u_ws RX6 TX6 13).all goodWord = true by decide +kernel) w h)
set_option maxRecDepth 20000 in
theorem in_X7 : ∀ w ∈ u_ws RX7 TX7 8, w ∈ x_tbl := fun w h => x_tb (x_words (gs := [375, 1, 1, 1, 1, 1, 1, 1]) (by decide +kernel) w h) (List.all_eq_true.mp (show (u_ws RX7 TX7 8).all goodWord = true by decide +kernel) w h)
set_option maxRecDepth 20000 in
theorem in_X8 : ∀ w ∈ u_ws RX8 TX8 17, w ∈ x_tbl := fun w h => x_tb (x_words (gs := [312, 1, 1, 1, 1, 1, 1, 1, 1, 1, 1, 1, 1, 1, 1, 1, 1]) (by decide +kernel) w h) (List.all_eq_true.mp (show (u_ws RX8 TX8 17).all goodWord = true by decide +kernel) w h)
set_option maxRecDepth 20000 in
theorem in_X9 : ∀ w ∈ u_ws RX9 TX9 17, w ∈ x_tbl := fun w h => x_tb (x_words (gs := [863, 1, 1, 1, 1, 1, 1, 1, 1, 1, 1, 1, 1, 1, 1, 1, 1]) (by decide +kernel) w h) (List.all_eq_true.mp (show (u_ws RX9 TX9 17).all goodWord = true by decide +kernel) w h)
set_option maxRecDepth 20000 in
theorem in_X10 : ∀ w ∈ u_ws RX10 TX10 21, w ∈ x_tbl := fun w h => x_tb (x_words (gs := [751, 1, 1, 1, 1, 1, 1, 1, 1, 1, 1, 1, 1, 1, 1, 1, 1, 1, 1, 1, 1]) (by decide +kernel) w h) (List.all_eq_true.mp (show (u_ws RX10 TX10 21).all goodWord = true by decide +kernel) w h)
set_option maxRecDepth 20000 in
theorem in_X11 : ∀ w ∈ u_ws RX11 TX11 15, w ∈ x_tbl := fun w h => x_tb (x_words (gs := [1069, 1, 1, 1, 1, 1, 1, 1, 1, 1, 1, 1, 1, 1, 1]) (by decide +kernel) w h) (List.all_eq_true.mp (show (u_ws RX11 TX11 15).all goodWord = true by decide +kernel) w h)
set_option maxRecDepth 20000 in
theorem in_X12 : ∀ w ∈ u_ws RX12 TX12 119, w ∈ x_tbl := fun w h => x_tb (x_words (gs := [2380, 1, 1, 1, 1, 1, 1, 1, 1, 1, 1, 1, 1, 1, 1, 1, 1, 1, 1, 1, 1, 1, 1, 1, 1, 1, 1, 1, 1, 1, 1, 1, 1, 1, 1, 1, 1, 1, 1, 1, 1, 1, 1, 1, 1, 1, 1, 1, 1, 1, 1, 1, 1, 1, 1, 1, 1, 1, 1, 1, 1, 1, 1, 1, 1, 1, 1, 1, 1, 1, 1, 1, 1, 1, 1, 1, 1, 1, 1, 1, 1, 1, 1, 1, 1, 1, 1, 1, 1, 1, 1, 1, 1, 1, 1, 1, 1, 1, 1, 1, 1, 1, 1, 1, 1, 1, 1, 1, 1, 1, 1, 1, 1, 1, 1, 1, 1, 1, 1]) (by decide +kernel) w h) (List.all_eq_true.mp (show (u_ws RX12 TX12 119).all goodWord = true by decide +kernel) w h)
end
-- part 29
section
noncomputable section
/-! what stood before the law began and is only read: two texts, the row of sines -/
def e_key : List Int32 := [118, 97, 114, 32, 116, 111, 32, 101, 110, 100, 32, 109, 111, 118, 101, 32, 119, 97, 105, 116, 32, 117, 110, 116, 105, 108, 32, 115, 101, 116, 32, 116, 97, 107, 101, 32, 102, 114, 101, 101, 32, 99, 97, 108, 108, 32, 114, 117, 110, 32, 114, 97, 105, 115, 101, 32, 110, 111, 116, 101, 32, 103, 114, 105, 112, 32, 100, 114, 111, 112, 32, 119, 97, 116, 99, 104, 32, 114, 101, 116, 117, 114, 110, 32, 98, 114, 101, 97, 107, 32, 105, 102, 32, 101, 108, 115, 101, 32, 119, 104, 105, 108, 101, 32, 116, 114, 121, 32, 99, 97, 116, 99, 104, 32, 102, 105, 110, 97, 108, 108, 121, 32, 111, 114, 32, 97, 110, 100, 32, 110, 111, 116, 32, 115, 105, 103, 110, 97, 108, 32, 106, 111, 105, 110, 116, 32, 116, 105, 109, 101, 32, 101, 114, 114, 111, 114, 32, 112, 111, 119, 101, 114, 32, 104, 111, 108, 100, 105, 110, 103, 32]
def e_sgn : List Int32 := [43, 45, 42, 47, 37, 61, 60, 62, 40, 41, 44, 59, 58]
def e_sin : List Int32 := [0, 1608, 3217, 4825, 6434, 8042, 9651, 11259, 12868, 14476, 16084, 17693, 19301, 20909, 22517, 24125, 25733, 27341, 28949, 30557, 32165, 33773, 35380, 36988, 38595, 40203, 41810, 43417, 45024, 46631, 48238, 49845, 51451, 53058, 54664, 56270, 57876, 59482, 61088, 62694, 64299, 65905, 67510, 69115, 70720, 72325, 73929, 75534, 77138, 78742, 80346, 81950, 83553, 85156, 86759, 88362, 89965, 91567, 93170, 94772, 96374, 97975, 99576, 101178, 102778, 104379, 105979, 107580, 109179, 110779, 112378, 113978, 115576, 117175, 118773, 120371, 121969, 123566, 125163, 126760, 128357, 129953, 131549, 133145, 134740, 136335, 137930, 139524, 141118, 142712, 144305, 145898, 147491, 149083, 150675, 152267, 153858, 155449, 157039, 158630, 160219, 161809, 163398, 164987, 166575, 168163, 169750, 171337, 172924, 174510, 176096, 177682, 179267, 180851, 182435, 184019, 185602, 187185, 188768, 190350, 191931, 193512, 195093, 196673, 198253, 199832, 201411, 202989, 204567, 206144, 207721, 209298, 210873, 212449, 214024, 215598, 217172, 218745, 220318, 221891, 223462, 225034, 226604, 228175, 229744, 231313, 232882, 234450, 236018, 237585, 239151, 240717, 242282, 243847, 245411, 246974, 248537, 250100, 251661, 253223, 254783, 256343, 257903, 259461, 261020, 262577, 264134, 265690, 267246, 268801, 270356, 271909, 273462, 275015, 276567, 278118, 279669, 281218, 282768, 284316, 285864, 287411, 288958, 290504, 292049, 293594, 295137, 296680, 298223, 299765, 301306, 302846, 304386, 305924, 307463, 309000, 310537, 312073, 313608, 315142, 316676, 318209, 319741, 321273, 322804, 324334, 325863, 327391, 328919, 330446, 331972, 333498, 335022, 336546, 338069, 339591, 341113, 342633, 344153, 345672, 347190, 348707, 350224, 351740, 353255, 354769, 356282, 357794, 359306, 360816, 362326, 363835, 365343, 366851, 368357, 369863, 371367, 372871, 374374, 375876, 377377, 378878, 380377, 381875, 383373, 384870, 386365, 387860, 389354, 390847, 392339, 393831, 395321, 396810, 398299, 399786, 401273, 402758, 404243, 405727, 407209, 408691, 410172, 411652, 413131, 414609, 416085, 417561, 419036, 420510, 421983, 423455, 424926, 426396, 427865, 429333, 430800, 432266, 433731, 435195, 436658, 438120, 439581, 441041, 442499, 443957, 445414, 446869, 448324, 449778, 451230, 452681, 454132, 455581, 457029, 458476, 459922, 461367, 462811, 464254, 465696, 467136, 468576, 470014, 471452, 472888, 474323, 475757, 477190, 478621, 480052, 481482, 482910, 484337, 485763, 487188, 488612, 490034, 491456, 492876, 494295, 495713, 497130, 498546, 499960, 501374, 502786, 504197, 505606, 507015, 508422, 509828, 511233, 512637, 514040, 515441, 516841, 518240, 519638, 521034, 522430, 523824, 525216, 526608, 527998, 529387, 530775, 532162, 533547, 534931, 536314, 537696, 539076, 540455, 541833, 543209, 544584, 545958, 547331, 548702, 550072, 551441, 552808, 554175, 555539, 556903, 558265, 559626, 560986, 562344, 563701, 565057, 566411, 567764, 569115, 570466, 571815, 573162, 574509, 575853, 577197, 578539, 579880, 581220, 582558, 583894, 585230, 586564, 587896, 589227, 590557, 591886, 593213, 594538, 595863, 597186, 598507, 599827, 601146, 602463, 603779, 605093, 606406, 607717, 609028, 610336, 611643, 612949, 614254, 615556, 616858, 618158, 619456, 620754, 622049, 623343, 624636, 625927, 627217, 628505, 629792, 631077, 632361, 633643, 634924, 636204, 637482, 638758, 640033, 641306, 642578, 643848, 645117, 646384, 647650, 648914, 650177, 651438, 652698, 653956, 655213, 656468, 657721, 658973, 660224, 661472, 662720, 663965, 665210, 666452, 667693, 668933, 670171, 671407, 672642, 673875, 675106, 676336, 677565, 678791, 680017, 681240, 682462, 683683, 684901, 686119, 687334, 688548, 689760, 690971, 692180, 693387, 694593, 695797, 697000, 698201, 699400, 700598, 701794, 702988, 704181, 705372, 706561, 707749, 708935, 710119, 711302, 712483, 713662, 714840, 716015, 717190, 718362, 719533, 720702, 721870, 723036, 724200, 725362, 726523, 727682, 728839, 729995, 731148, 732301, 733451, 734600, 735747, 736892, 738035, 739177, 740317, 741455, 742592, 743726, 744859, 745991, 747120, 748248, 749374, 750498, 751621, 752741, 753860, 754977, 756093, 757206, 758318, 759428, 760536, 761643, 762747, 763850, 764951, 766051, 767148, 768244, 769338, 770430, 771520, 772608, 773695, 774780, 775862, 776944, 778023, 779100, 780176, 781250, 782322, 783392, 784460, 785526, 786591, 787654, 788715, 789774, 790831, 791886, 792939, 793991, 795041, 796089, 797134, 798179, 799221, 800261, 801299, 802336, 803371, 804403, 805434, 806463, 807490, 808516, 809539, 810560, 811580, 812597, 813613, 814627, 815638, 816648, 817656, 818662, 819666, 820669, 821669, 822667, 823664, 824658, 825651, 826641, 827630, 828616, 829601, 830584, 831565, 832544, 833521, 834495, 835468, 836439, 837409, 838376, 839341, 840304, 841265, 842224, 843181, 844137, 845090, 846041, 846990, 847937, 848883, 849826, 850767, 851706, 852644, 853579, 854512, 855443, 856373, 857300, 858225, 859148, 860069, 860988, 861905, 862821, 863734, 864645, 865554, 866460, 867365, 868268, 869169, 870068, 870964, 871859, 872752, 873642, 874531, 875417, 876302, 877184, 878064, 878942, 879818, 880692, 881564, 882434, 883302, 884168, 885032, 885893, 886753, 887610, 888465, 889319, 890170, 891019, 891866, 892711, 893553, 894394, 895233, 896069, 896903, 897736, 898566, 899394, 900220, 901043, 901865, 902684, 903502, 904317, 905130, 905941, 906750, 907557, 908361, 909164, 909964, 910762, 911558, 912352, 913144, 913934, 914721, 915506, 916290, 917071, 917849, 918626, 919401, 920173, 920943, 921711, 922477, 923241, 924002, 924761, 925519, 926274, 927026, 927777, 928525, 929272, 930016, 930758, 931497, 932235, 932970, 933703, 934434, 935163, 935889, 936614, 937336, 938056, 938773, 939489, 940202, 940913, 941622, 942328, 943033, 943735, 944435, 945133, 945828, 946522, 947213, 947901, 948588, 949272, 949955, 950634, 951312, 951988, 952661, 953332, 954000, 954667, 955331, 955993, 956653, 957310, 957965, 958618, 959269, 959918, 960564, 961208, 961849, 962489, 963126, 963761, 964393, 965024, 965652, 966278, 966901, 967522, 968141, 968758, 969372, 969984, 970594, 971202, 971807, 972410, 973011, 973609, 974205, 974799, 975391, 975980, 976567, 977151, 977734, 978314, 978892, 979467, 980040, 980611, 981180, 981746, 982310, 982871, 983430, 983987, 984542, 985094, 985644, 986192, 986737, 987281, 987821, 988360, 988896, 989429, 989961, 990490, 991017, 991541, 992063, 992583, 993100, 993616, 994128, 994639, 995147, 995652, 996156, 996657, 997156, 997652, 998146, 998638, 999127, 999614, 1000098, 1000581, 1001061, 1001538, 1002013, 1002486, 1002957, 1003425, 1003890, 1004354, 1004815, 1005273, 1005730, 1006184, 1006635, 1007084, 1007531, 1007976, 1008418, 1008857, 1009295, 1009730, 1010162, 1010592, 1011020, 1011446, 1011869, 1012289, 1012708, 1013124, 1013537, 1013948, 1014357, 1014763, 1015167, 1015569, 1015968, 1016365, 1016759, 1017151, 1017541, 1017928, 1018313, 1018696, 1019076, 1019453, 1019829, 1020201, 1020572, 1020940, 1021306, 1021669, 1022030, 1022388, 1022744, 1023098, 1023449, 1023798, 1024144, 1024488, 1024830, 1025169, 1025506, 1025840, 1026172, 1026502, 1026829, 1027153, 1027476, 1027795, 1028113, 1028428, 1028740, 1029051, 1029358, 1029664, 1029967, 1030267, 1030565, 1030861, 1031154, 1031445, 1031733, 1032019, 1032303, 1032584, 1032862, 1033138, 1033412, 1033684, 1033953, 1034219, 1034483, 1034745, 1035004, 1035261, 1035515, 1035767, 1036016, 1036263, 1036508, 1036750, 1036990, 1037227, 1037462, 1037694, 1037924, 1038151, 1038376, 1038599, 1038819, 1039037, 1039252, 1039465, 1039675, 1039883, 1040089, 1040292, 1040492, 1040690, 1040886, 1041079, 1041270, 1041458, 1041644, 1041828, 1042008, 1042187, 1042363, 1042537, 1042708, 1042877, 1043043, 1043207, 1043368, 1043527, 1043683, 1043837, 1043989, 1044138, 1044284, 1044429, 1044570, 1044709, 1044846, 1044981, 1045112, 1045242, 1045369, 1045493, 1045615, 1045735, 1045852, 1045967, 1046079, 1046188, 1046296, 1046401, 1046503, 1046603, 1046700, 1046795, 1046888, 1046978, 1047065, 1047150, 1047233, 1047313, 1047391, 1047466, 1047539, 1047609, 1047677, 1047742, 1047805, 1047865, 1047923, 1047979, 1048032, 1048083, 1048131, 1048176, 1048219, 1048260, 1048298, 1048334, 1048368, 1048398, 1048427, 1048453, 1048476, 1048497, 1048516, 1048532, 1048545, 1048556, 1048565, 1048571, 1048575, 1048576]
def e_kt : String := "var to end move wait until set take free call run raise note grip drop watch return break if else while try catch finally or and not signal joint time error power holding "
def e_st2 : String := "+-*/%=<>(),;:"
def e_two {α : Type} (a b : α) (i : Nat) : α := if i = 0 then a else b
/-- the places behind the cells: 357 the keywords, 358 the signs, 359 the sines -/
def e_Old (ad : List Nat) (A : Nat → Prop) (U : State) (H : Heap) : Prop := ∃ aK aS aN bK bS : Nat, (ad[357]? = some aK ∧ ad[358]? = some aS ∧ ad[359]? = some aN ∧ ad[360]? = some bK ∧ ad[361]? = some bS) ∧ (vk_R "RobotCellHouse$Reader" 106 e_kt aK U ∧ vk_R "RobotCellHouse$Reader" 135 e_st2 aS U ∧ vk_R "RobotCellHouseModel" 515 e_kt aK U) ∧
  vk_S 2 [171, 13] [e_key, e_sgn] (e_two aK aS) (e_two bK bS) A U H ∧ va_Z "RobotCellHouse" "SINES" "[I" (.ref aN) A U H ∧ va_T .int aN 1025 (fun j => .int (e_sin.getD j 0)) A U H ∧ va_Z "java/lang/String" "COMPACT_STRINGS" "Z" (.int 1) A U H ∧ ∃ vF : Value, (vF = .null ∨ ∃ a, vF = .ref a) ∧ va_Z "jdk/internal/util/Preconditions" "SIOOBE_FORMATTER" "Ljava/util/function/BiFunction;" vF A U H
theorem e_Old.kept {ad : List Nat} {A : Nat → Prop} {U : State} {H H1 : Heap} (h : e_Old ad A U H) (hq : ∀ a : Nat, a < H.size → ¬ A a → H1[a]? = H[a]?) : e_Old ad A U H1 := by
  obtain ⟨aK, aS, aN, bK, bS, h1, h2, h3, h4, h5, h6, vF, h7, h8⟩ := h
  exact ⟨aK, aS, aN, bK, bS, h1, h2, h3.kept hq, h4.kept hq, h5.kept hq, h6.kept hq, vF, h7, h8.kept hq⟩
theorem e_Old.narrow {ad : List Nat} {A B : Nat → Prop} {U : State} {H : Heap} (h : e_Old ad A U H) (hAB : ∀ q, B q → A q) : e_Old ad B U H := by
  obtain ⟨aK, aS, aN, bK, bS, h1, h2, h3, h4, h5, h6, vF, h7, h8⟩ := h
  exact ⟨aK, aS, aN, bK, bS, h1, h2, h3.narrow hAB, h4.narrow hAB, h5.narrow hAB, h6.narrow hAB, vF, h7, h8.narrow hAB⟩
theorem e_Old.warm {ad : List Nat} {A : Nat → Prop} {s U : State} {H : Heap} (hW : s.WarmedH U.vm) (h : e_Old ad A s H) : e_Old ad A U H := by
  obtain ⟨aK, aS, aN, bK, bS, h1, h2, h3, h4, h5, h6, vF, h7, h8⟩ := h
  exact ⟨aK, aS, aN, bK, bS, h1, ⟨h2.1.warm hW, h2.2.1.warm hW, h2.2.2.warm hW⟩, h3.moved hW.alike, h4.moved hW.alike, h5.moved hW.alike, h6.moved hW.alike, vF, h7, h8.moved hW.alike⟩
theorem e_Old.same {ad : List Nat} {A : Nat → Prop} {u U : State} {H : Heap} (e : u.vm = U.vm) (h : e_Old ad A u H) : e_Old ad A U H := by
  obtain ⟨aK, aS, aN, bK, bS, h1, h2, h3, h4, h5, h6, vF, h7, h8⟩ := h
  have ha : u.vm.Alike U.vm := by rw [e]; exact Vm.Alike.refl _
  exact ⟨aK, aS, aN, bK, bS, h1, ⟨h2.1.same e.symm, h2.2.1.same e.symm, h2.2.2.same e.symm⟩, h3.moved ha, h4.moved ha, h5.moved ha, h6.moved ha, vF, h7, h8.moved ha⟩
def e_K (D : va_G) (cl : List vw_C) (tys : List (ClassId × FieldType)) (ad : List Nat) (A : Nat → Prop) (s : State) (H0 : Heap) : Prop := va_K D cl tys s ∧ e_Old ad A s H0
end
end
-- part 30
section
noncomputable section
/-! the machine with exact numbers: cells that stand (none is made any more), their contents as a function of cell and place -/
/-- (0, n) an int, (1, j) the cell j, (2, 0) null, (4, n) a long -/
abbrev eV : Type := Nat × Int
abbrev eW : Type := Int → Int → Int
abbrev eL : Type := List (Nat × eV)
/-- pc, locals, stack, contents -/
abbrev eS : Type := Nat × eL × List eV × eW
/-- of a cell: 0 an object, 1 ints, 2 bytes, 3 booleans, 5 references to objects, 6 to arrays of ints; class; length -/
abbrev eY : Type := Nat × Nat × Nat
def e_rel (ad : List Nat) (x : eV) (v : Value) : Prop := match x.1 with
  | 0 => ∃ n : Int32, v = .int n ∧ n.toInt = x.2
  | 1 => 0 ≤ x.2 ∧ ∃ a, ad[x.2.toNat]? = some a ∧ v = .ref a
  | 2 => v = .null
  | 4 => ∃ n : Int64, v = .long n ∧ n.toInt = x.2
  | 5 => v = .null ∨ ∃ a, v = .ref a
  | _ => False
def e_ty (x : eV) : Nat := match x.1 with
  | 0 => 0
  | 4 => 1
  | _ => 2
theorem e_ty_ok {ad : List Nat} {x : eV} {v : Value} (h : e_rel ad x v) : x_kd (e_ty x) v := by
  obtain ⟨t, a⟩ := x
  unfold e_rel at h
  unfold e_ty
  split at h
  · rename_i h0; simp only at h0; subst h0; exact ⟨_, h.choose_spec.1⟩
  · rename_i h0; simp only at h0; subst h0; exact Or.inr ⟨_, h.2.choose_spec.2⟩
  · rename_i h0; simp only at h0; subst h0; exact Or.inl h
  · rename_i h0; simp only at h0; subst h0; exact ⟨_, h.choose_spec.1⟩
  · rename_i h0; simp only at h0; subst h0; exact h
  · exact h.elim
theorem e_int {ad : List Nat} {n : Int} {v : Value} (h : e_rel ad (0, n) v) : ∃ z : Int32, v = .int z ∧ z.toInt = n := h
theorem e_long {ad : List Nat} {n : Int} {v : Value} (h : e_rel ad (4, n) v) : ∃ z : Int64, v = .long z ∧ z.toInt = n := h
/-- what a slot holds: fk 0 a number, 1 a reference (-1: null) -/
def e_slot (ad : List Nat) (fk : Nat) (z : Int) (v : Value) : Prop := match fk with
  | 0 => ∃ n : Int32, v = .int n ∧ n.toInt = z
  | _ => (z = -1 ∧ v = .null) ∨ (0 ≤ z ∧ ∃ a, ad[z.toNat]? = some a ∧ v = .ref a)
/-- a slot read -/
def e_rd (fk : Nat) (z : Int) : eV := match fk with
  | 0 => (0, z)
  | _ => bif decide (z = -1) then (2, 0) else (1, z)
theorem e_rd_ok {ad : List Nat} {fk : Nat} {z : Int} {v : Value} (h : e_slot ad fk z v) : e_rel ad (e_rd fk z) v := by
  unfold e_slot at h
  unfold e_rd
  split at h
  · exact h
  · rcases h with ⟨rfl, rfl⟩ | ⟨h0, a, h1, rfl⟩
    · exact rfl
    · have e : decide (z = -1) = false := decide_eq_false (by omega)
      rw [e]
      exact ⟨h0, a, h1, rfl⟩
/-- what is written -/
def e_wr (fk : Nat) (x : eV) : Option Int := match fk, x with
  | 0, (0, n) => some n
  | 1, (2, _) => some (-1)
  | 1, (1, j) => bif decide (0 ≤ j) then some j else none
  | _, _ => none
theorem e_wr_ok {ad : List Nat} {fk : Nat} {x : eV} {z : Int} {v : Value} (h : e_wr fk x = some z) (hr : e_rel ad x v) : e_slot ad fk z v := by
  unfold e_wr at h
  split at h
  · cases h; exact hr
  · cases h; exact Or.inl ⟨rfl, hr⟩
  · rename_i j
    cases hb : decide (0 ≤ j) with
    | false => rw [hb] at h; cases h
    | true =>
      rw [hb] at h
      cases h
      obtain ⟨h0, a, h1, h2⟩ := hr
      exact Or.inr ⟨h0, a, h1, h2⟩
  · cases h
/-- a cell -/
def e_cell (ft : Nat → Nat → Nat) (cl : List vw_C) (ad : List Nat) (tys : List (ClassId × FieldType)) (y : eY) (g : Int → Int) (e : va_E) : Prop := match y.1 with
  | 0 => ∃ fs : List Value, e = .inr (y.2.1, fs) ∧ fs.length = y.2.2 ∧ ∀ k, k < y.2.2 → ∃ v, fs[k]? = some v ∧ e_slot ad (ft y.2.1 k) (g k) v
  | 1 => ∃ (t0 : Nat) (cA : ClassId) (f : Nat → Int32), tys[t0]? = some (cA, .int) ∧ e = .inl (cA, y.2.2, .inl f) ∧ y.2.2 < 2147483648 ∧ ∀ k, k < y.2.2 → (f k).toInt = g k
  | 2 => ∃ (t0 : Nat) (cA : ClassId) (f : Nat → Int32), tys[t0]? = some (cA, .byte) ∧ e = .inl (cA, y.2.2, .inl f) ∧ y.2.2 < 2147483648 ∧ ∀ k, k < y.2.2 → (f k).toInt = g k
  | 3 => ∃ (t0 : Nat) (cA : ClassId) (f : Nat → Int32), tys[t0]? = some (cA, .boolean) ∧ e = .inl (cA, y.2.2, .inl f) ∧ y.2.2 < 2147483648 ∧ ∀ k, k < y.2.2 → (f k).toInt = g k
  | 5 => ∃ (t0 : Nat) (cA : ClassId) (r : vw_C) (f : Nat → Option Nat), cl[y.2.1]? = some r ∧ tys[t0]? = some (cA, .object r.1) ∧ e = .inl (cA, y.2.2, .inr (.inr (.inr (.inr f)))) ∧ y.2.2 < 2147483648 ∧ ∀ k, k < y.2.2 → e_slot ad 1 (g k) (va_rf (f k))
  | 6 => ∃ (t0 : Nat) (cA : ClassId) (f : Nat → Option Nat), tys[t0]? = some (cA, .array .int) ∧ e = .inl (cA, y.2.2, .inr (.inr (.inr (.inr f)))) ∧ y.2.2 < 2147483648 ∧ ∀ k, k < y.2.2 → e_slot ad 1 (g k) (va_rf (f k))
  | _ => False
/-- the contents w, but z at the place k of the cell j -/
def e_up (w : eW) (j k : Int) (z : Int) : eW := fun j' k' => if j' = j ∧ k' = k then z else w j' k'
theorem e_up_eq (w : eW) (j k : Int) (z : Int) : e_up w j k z j k = z := by simp [e_up]
theorem e_up_ne (w : eW) {j k j' k' : Int} (z : Int) (h : j' ≠ j ∨ k' ≠ k) : e_up w j k z j' k' = w j' k' := by
  unfold e_up
  exact if_neg (fun q => by rcases h with h | h; exact h q.1; exact h q.2)
def e_world (ft : Nat → Nat → Nat) (cl : List vw_C) (lay : List eY) (ad : List Nat) (tys : List (ClassId × FieldType)) (w : eW) (ws : va_W) : Prop := ws.map Prod.fst = ad.take ws.length ∧ lay.length = ws.length ∧ ∀ (k : Nat) (y : eY) (q : Nat × va_E), lay[k]? = some y → ws[k]? = some q → e_cell ft cl ad tys y (w k) q.2
theorem e_world_set {ft : Nat → Nat → Nat} {cl : List vw_C} {lay : List eY} {ad : List Nat} {tys : List (ClassId × FieldType)} {w : eW} {ws : va_W} {j a : Nat} {k z : Int} {e0 e : va_E} {y : eY} (h : e_world ft cl lay ad tys w ws) (hy : lay[j]? = some y) (hk : ws[j]? = some (a, e0)) (hx : e_cell ft cl ad tys y (e_up w j k z j) e) : e_world ft cl lay ad tys (e_up w j k z) (ws.set j (a, e)) := by
  refine ⟨by rw [x_fst_set hk, List.length_set]; exact h.1, by rw [List.length_set]; exact h.2.1, fun i y' q hy' hq => ?_⟩
  rw [List.getElem?_set] at hq
  by_cases hij : j = i
  · subst hij
    rw [if_pos rfl] at hq
    rw [hy] at hy'
    cases hy'
    split at hq
    · cases hq; exact hx
    · cases hq
  · rw [if_neg hij] at hq
    have e9 : e_up w j k z (i : Int) = w i := funext fun k' => e_up_ne w z (Or.inl (by omega))
    rw [e9]
    exact h.2.2 i y' q hy' hq
theorem e_ref {ft : Nat → Nat → Nat} {cl : List vw_C} {lay : List eY} {ad : List Nat} {tys : List (ClassId × FieldType)} {w : eW} {ws : va_W} {j : Int} {v : Value} {y : eY} (h : e_world ft cl lay ad tys w ws) (hr : e_rel ad (1, j) v) (hy : lay[j.toNat]? = some y) : ∃ a e, ws[j.toNat]? = some (a, e) ∧ v = .ref a ∧ e_cell ft cl ad tys y (w j) e ∧ ((j.toNat : Nat) : Int) = j := by
  obtain ⟨h0, a, h1, h2⟩ := hr
  simp only at h0 h1
  have ej : ((j.toNat : Nat) : Int) = j := by omega
  have hlt : j.toNat < ws.length := by rw [← h.2.1]; exact (List.getElem?_eq_some_iff.mp hy).1
  have h1' : (ad.take ws.length)[j.toNat]? = some a := by rw [List.getElem?_take_of_lt hlt]; exact h1
  rw [← h.1] at h1'
  replace h1 := h1'
  simp only [List.getElem?_map, Option.map_eq_some_iff] at h1
  obtain ⟨q, hq, rfl⟩ := h1
  exact ⟨q.1, q.2, hq, h2, by have := h.2.2 _ y q hy hq; rw [ej] at this; exact this, ej⟩
def e_In (ft : Nat → Nat → Nat) (cl : List vw_C) (lay : List eY) (ad : List Nat) (nL : Nat) (s : State) (D : va_G) (A : Nat → Prop) (H0 : Heap) (t : eS) (ls : Array Slot) (stk : List Value) (H : Heap) (locs : List Loc) : Prop :=
  ∃ (lv : List (Nat × Value)) (ws : va_W) (tys : List (ClassId × FieldType)), lv_has ls nL lv ∧ x_all2 (fun a q => a.1 = q.1 ∧ e_rel ad a.2 q.2) t.2.1 lv ∧ x_all2 (e_rel ad) t.2.2.1 stk ∧
    e_world ft cl lay ad tys t.2.2.2 ws ∧ e_K D cl tys ad A s H0 ∧ va_P D cl ws H ∧ va_D A ws ∧ va_S A H0 H locs
def e_Good (ft : Nat → Nat → Nat) (cl : List vw_C) (lay : List eY) (ad : List Nat) (ce sl nL : Nat) (p : Program) (l : Launch) (e : Env) (R : Room) (s : State) (m : MethodId) (args : Array Value) (below : List Frame) (meth : Method) (c : Code) (D : va_G) (A : Nat → Prop) (H0 : Heap) (Q : State → Prop) (t : eS) : Prop :=
  ∀ (ls : Array Slot) (stk : List Value) (H : Heap) (locs : List Loc), e_In ft cl lay ad nL s D A H0 t ls stk H locs → W p l e R s m args below meth c H locs ce sl Q (F0 m t.1 ls stk)
/-- one instruction, exactly: the next state, or two of which a test decides -/
def e_Snd (ft : Nat → Nat → Nat) (cl : List vw_C) (lay : List eY) (cc : ByteArray) (own : String) (nL : Nat) (nm : String) (MC MS : Nat) (pc : Nat) (f : eS → Option eS) : Prop :=
  ∀ {ad : List Nat} {ce sl : Nat} {p : Program} {l : Launch} {e : Env} {R : Room} {s : State} {m : MethodId} {args : Array Value} {below : List Frame} {meth : Method} {c : Code} {D : va_G} {A : Nat → Prop} {H0 : Heap} {Q : State → Prop},
    x_Cx cc own nL nm MC MS p R s m args meth c → ce ≤ MC → sl ≤ MS → (∀ q : Nat, H0.size ≤ q → A q) → ∀ (t t' : eS), t.1 = pc → f t = some t' → e_Good ft cl lay ad ce sl nL p l e R s m args below meth c D A H0 Q t' → e_Good ft cl lay ad ce sl nL p l e R s m args below meth c D A H0 Q t
def e_find (l : eL) (i : Nat) : Option eV := List.rec (motive := fun _ => Option eV) none (fun q _ ih => Bool.rec (motive := fun _ => Option eV) ih (some q.2) (Nat.beq q.1 i)) l
theorem e_find_cons (q : Nat × eV) (r : eL) (i : Nat) : e_find (q :: r) i = bif Nat.beq q.1 i then some q.2 else e_find r i := by
  unfold e_find
  cases h : Nat.beq q.1 i with
  | true => simp [h]
  | false => simp [h]
theorem e_find_ok {ad : List Nat} {i : Nat} {x : eV} : ∀ {al : eL} {lv : List (Nat × Value)}, x_all2 (fun a q => a.1 = q.1 ∧ e_rel ad a.2 q.2) al lv → e_find al i = some x → ∃ (k : Nat) (v : Value), lv[k]? = some (i, v) ∧ e_rel ad x v
  | [], [], _, h => by cases h
  | a :: al, q :: lv, h, hf => by
    rw [e_find_cons] at hf
    cases hb : Nat.beq a.1 i with
    | true =>
      rw [hb] at hf
      have e : a.1 = i := Nat.eq_of_beq_eq_true hb
      cases hf
      exact ⟨0, q.2, by simp [← e, h.1.1], h.1.2⟩
    | false =>
      rw [hb] at hf
      obtain ⟨k, v, h1, h2⟩ := e_find_ok h.2 hf
      exact ⟨k + 1, v, by simpa using h1, h2⟩
  | [], _ :: _, h, _ => h.elim
  | _ :: _, [], h, _ => h.elim
def e_flt (ty i : Nat) (q : Nat × eV) : Bool := bif Nat.beq ty 1 then !(Nat.beq q.1 i) && (!(Nat.beq q.1 (i + 1)) && !(Nat.beq (q.1 + 1) i && Nat.beq (e_ty q.2) 1)) else !(Nat.beq q.1 i) && !(Nat.beq (q.1 + 1) i && Nat.beq (e_ty q.2) 1)
theorem e_flt_eq {ad : List Nat} {ty i : Nat} (a : Nat × eV) (q : Nat × Value) (h : a.1 = q.1 ∧ e_rel ad a.2 q.2) : e_flt ty i a = x_fltV ty i q := by
  have e : Nat.beq (e_ty a.2) 1 = (q.2.category == 2) := by
    rw [x_kd_cat (e_ty_ok h.2)]
    by_cases h1 : e_ty a.2 = 1
    · rw [h1]; rfl
    · rw [if_neg h1, x_nb h1]; rfl
  unfold e_flt x_fltV
  rw [h.1, e]
  simp only [x_bb]
/-- plain ones -/
def ei_push (x : eV) (nx : Nat) : eS → Option eS := fun t => some (nx, t.2.1, x :: t.2.2.1, t.2.2.2)
def ei_load (i ty nx : Nat) : eS → Option eS := fun t => match e_find t.2.1 i with
  | some x => bif Nat.beq (e_ty x) ty then some (nx, t.2.1, x :: t.2.2.1, t.2.2.2) else none
  | none => none
def ei_stor (i ty nx : Nat) : eS → Option eS := fun t => match t.2.2.1 with
  | x :: r => bif Nat.beq (e_ty x) ty then some (nx, (i, x) :: t.2.1.filter (e_flt ty i), r, t.2.2.2) else none
  | [] => none
def ei_goto (nx : Nat) : eS → Option eS := fun t => some (nx, t.2)
def e32 (z : Int) : Int := z.bmod 4294967296
def e64 (z : Int) : Int := z.bmod 18446744073709551616
/-- two ints, an int comes -/
def ei_bin (F : Int → Int → Option Int) (nx : Nat) : eS → Option eS := fun t => match t.2.2.1 with
  | (0, y) :: (0, x) :: r => match F x y with
    | some z => some (nx, t.2.1, (0, z) :: r, t.2.2.2)
    | none => none
  | _ => none
def ei_un (F : Int → eV) (nx : Nat) : eS → Option eS := fun t => match t.2.2.1 with
  | (0, x) :: r => some (nx, t.2.1, F x :: r, t.2.2.2)
  | _ => none
def ei_binL (F : Int → Int → Option eV) (nx : Nat) : eS → Option eS := fun t => match t.2.2.1 with
  | (4, y) :: (4, x) :: r => match F x y with
    | some z => some (nx, t.2.1, z :: r, t.2.2.2)
    | none => none
  | _ => none
def ei_shL (F : Int → Int → Option Int) (nx : Nat) : eS → Option eS := fun t => match t.2.2.1 with
  | (0, y) :: (4, x) :: r => match F x y with
    | some z => some (nx, t.2.1, (4, z) :: r, t.2.2.2)
    | none => none
  | _ => none
def ei_unL (F : Int → eV) (nx : Nat) : eS → Option eS := fun t => match t.2.2.1 with
  | (4, x) :: r => some (nx, t.2.1, F x :: r, t.2.2.2)
  | _ => none
def ei_inc (i : Nat) (n : Int) (nx : Nat) : eS → Option eS := fun t => match e_find t.2.1 i with
  | some (0, x) => some (nx, (i, (0, e32 (x + n))) :: t.2.1.filter (e_flt 0 i), t.2.2.1, t.2.2.2)
  | _ => none
def e_cnd (k : Nat) (a b : Int) : Bool := match k with
  | 0 => decide (a = b)
  | 1 => decide (a ≠ b)
  | 2 => decide (a < b)
  | 3 => decide (b ≤ a)
  | 4 => decide (b < a)
  | _ => decide (a ≤ b)
theorem e_cnd_ok {k : Nat} {a b : Int} : e_cnd k a b = true ↔ x_cnd k a b := by
  unfold e_cnd x_cnd
  split <;> simp
def ei_if2 (k tg nx : Nat) : eS → Option eS := fun t => match t.2.2.1 with
  | (0, y) :: (0, x) :: r => some (bif e_cnd k x y then tg else nx, t.2.1, r, t.2.2.2)
  | _ => none
def ei_if1 (k tg nx : Nat) : eS → Option eS := fun t => match t.2.2.1 with
  | (0, x) :: r => some (bif e_cnd k x 0 then tg else nx, t.2.1, r, t.2.2.2)
  | _ => none
section E30
variable {ft : Nat → Nat → Nat} {cl : List vw_C} {lay : List eY} {cc : ByteArray} {own : String} {nL : Nat} {nm : String} {MC MS pc nx tg : Nat}
theorem ei_push_ok {x : eV} {v : Value} (hw : x_Psh cc own nL pc nx v) (hv : ∀ ad, e_rel ad x v) : e_Snd ft cl lay cc own nL nm MC MS pc (ei_push x nx) := by
  intro ad ce sl p l e R s m args below meth c D A H0 Q C hce hsl hA t t' hpc hf hg
  have hf' : some (nx, t.2.1, x :: t.2.2.1, t.2.2.2) = some t' := hf
  cases hf'
  subst hpc
  intro ls stk H locs ⟨lv, ws, tys, h1, h2, h3, h4⟩
  exact hw C.1 (hg ls (v :: stk) H locs ⟨lv, ws, tys, h1, h2, ⟨hv _, h3⟩, h4⟩)
theorem ei_load_ok {i ty : Nat} (hw : x_Ld cc own nL pc nx i ty) : e_Snd ft cl lay cc own nL nm MC MS pc (ei_load i ty nx) := by
  intro ad ce sl p l e R s m args below meth c D A H0 Q C hce hsl hA t t' hpc hf hg
  unfold ei_load at hf
  split at hf
  · rename_i x hx
    cases hb : Nat.beq (e_ty x) ty with
    | false => rw [hb] at hf; cases hf
    | true =>
      rw [hb] at hf
      cases hf
      subst hpc
      have e := Nat.eq_of_beq_eq_true hb
      intro ls stk H locs ⟨lv, ws, tys, h1, h2, h3, h4⟩
      obtain ⟨k, v, hk, hr⟩ := e_find_ok h2 hx
      exact hw C.1 (lv_at h1 k hk) (e ▸ e_ty_ok hr) (hg ls (v :: stk) H locs ⟨lv, ws, tys, h1, h2, ⟨hr, h3⟩, h4⟩)
  · cases hf
theorem ei_stor_ok {i ty : Nat} (hw : x_Sto cc own nL pc nx i ty) : e_Snd ft cl lay cc own nL nm MC MS pc (ei_stor i ty nx) := by
  intro ad ce sl p l e R s m args below meth c D A H0 Q C hce hsl hA t t' hpc hf hg
  unfold ei_stor at hf
  split at hf
  · rename_i x r hx
    cases hb : Nat.beq (e_ty x) ty with
    | false => rw [hb] at hf; cases hf
    | true =>
      rw [hb] at hf
      cases hf
      subst hpc
      have e := Nat.eq_of_beq_eq_true hb
      intro ls stk H locs ⟨lv, ws, tys, h1, h2, h3, h4⟩
      rw [hx] at h3
      match stk, h3 with
      | v :: rest, h3 =>
        exact hw C.1 h1 (e ▸ e_ty_ok h3.1) (fun ls' hl' => hg ls' rest H locs ⟨_, ws, tys, hl', ⟨⟨rfl, h3.1⟩, x_all2_filter h2 e_flt_eq⟩, h3.2, h4⟩)
  · cases hf
theorem ei_goto_ok (hw : x_Stk cc own nL pc nx [] []) : e_Snd ft cl lay cc own nL nm MC MS pc (ei_goto nx) := by
  intro ad ce sl p l e R s m args below meth c D A H0 Q C hce hsl hA t t' hpc hf hg
  have hf' : some (nx, t.2) = some t' := hf
  cases hf'
  subst hpc
  intro ls stk H locs h
  exact hw C.1 (hg ls stk H locs h)
theorem ei_bin_ok {F : Int → Int → Option Int} {g : Int32 → Int32 → Int32} (P : Int32 → Prop) (hw : ∀ x y, P y → x_Stk cc own nL pc nx [.int y, .int x] [.int (g x y)]) (hF : ∀ (x y : Int32) (z : Int), F x.toInt y.toInt = some z → P y ∧ (g x y).toInt = z) : e_Snd ft cl lay cc own nL nm MC MS pc (ei_bin F nx) := by
  intro ad ce sl p l e R s m args below meth c D A H0 Q C hce hsl hA t t' hpc hf hg
  unfold ei_bin at hf
  split at hf
  · rename_i y x r hst
    split at hf
    · rename_i z hz
      cases hf
      subst hpc
      intro ls stk H locs ⟨lv, ws, tys, h1, h2, h3, h4⟩
      rw [hst] at h3
      match stk, h3 with
      | v1 :: v2 :: rest, h3 =>
        obtain ⟨ny, rfl, rfl⟩ := e_int h3.1
        obtain ⟨nx', rfl, rfl⟩ := e_int h3.2.1
        obtain ⟨hP, hr⟩ := hF nx' ny z hz
        exact hw nx' ny hP C.1 (hg ls (.int (g nx' ny) :: rest) H locs ⟨lv, ws, tys, h1, h2, ⟨⟨_, rfl, hr⟩, h3.2.2⟩, h4⟩)
    · cases hf
  · cases hf
theorem ei_un_ok {F : Int → eV} {g : Int32 → Value} (hw : ∀ x, x_Stk cc own nL pc nx [.int x] [g x]) (hF : ∀ (x : Int32) ad, e_rel ad (F x.toInt) (g x)) : e_Snd ft cl lay cc own nL nm MC MS pc (ei_un F nx) := by
  intro ad ce sl p l e R s m args below meth c D A H0 Q C hce hsl hA t t' hpc hf hg
  unfold ei_un at hf
  split at hf
  · rename_i x r hst
    cases hf
    subst hpc
    intro ls stk H locs ⟨lv, ws, tys, h1, h2, h3, h4⟩
    rw [hst] at h3
    match stk, h3 with
    | v2 :: rest, h3 =>
      obtain ⟨nx', rfl, rfl⟩ := e_int h3.1
      exact hw nx' C.1 (hg ls (g nx' :: rest) H locs ⟨lv, ws, tys, h1, h2, ⟨hF nx' _, h3.2⟩, h4⟩)
  · cases hf
theorem ei_binL_ok {F : Int → Int → Option eV} {g : Int64 → Int64 → Value} (P : Int64 → Prop) (hw : ∀ x y, P y → x_Stk cc own nL pc nx [.long y, .long x] [g x y]) (hF : ∀ (x y : Int64) (z : eV), F x.toInt y.toInt = some z → P y ∧ ∀ ad, e_rel ad z (g x y)) : e_Snd ft cl lay cc own nL nm MC MS pc (ei_binL F nx) := by
  intro ad ce sl p l e R s m args below meth c D A H0 Q C hce hsl hA t t' hpc hf hg
  unfold ei_binL at hf
  split at hf
  · rename_i y x r hst
    split at hf
    · rename_i z hz
      cases hf
      subst hpc
      intro ls stk H locs ⟨lv, ws, tys, h1, h2, h3, h4⟩
      rw [hst] at h3
      match stk, h3 with
      | v1 :: v2 :: rest, h3 =>
        obtain ⟨ny, rfl, rfl⟩ := e_long h3.1
        obtain ⟨nx', rfl, rfl⟩ := e_long h3.2.1
        obtain ⟨hP, hr⟩ := hF nx' ny z hz
        exact hw nx' ny hP C.1 (hg ls (g nx' ny :: rest) H locs ⟨lv, ws, tys, h1, h2, ⟨hr _, h3.2.2⟩, h4⟩)
    · cases hf
  · cases hf
theorem ei_shL_ok {F : Int → Int → Option Int} {g : Int64 → Int32 → Int64} (hw : ∀ x y, x_Stk cc own nL pc nx [.int y, .long x] [.long (g x y)]) (hF : ∀ (x : Int64) (y : Int32) (z : Int), F x.toInt y.toInt = some z → (g x y).toInt = z) : e_Snd ft cl lay cc own nL nm MC MS pc (ei_shL F nx) := by
  intro ad ce sl p l e R s m args below meth c D A H0 Q C hce hsl hA t t' hpc hf hg
  unfold ei_shL at hf
  split at hf
  · rename_i y x r hst
    split at hf
    · rename_i z hz
      cases hf
      subst hpc
      intro ls stk H locs ⟨lv, ws, tys, h1, h2, h3, h4⟩
      rw [hst] at h3
      match stk, h3 with
      | v1 :: v2 :: rest, h3 =>
        obtain ⟨ny, rfl, rfl⟩ := e_int h3.1
        obtain ⟨nx', rfl, rfl⟩ := e_long h3.2.1
        exact hw nx' ny C.1 (hg ls (.long (g nx' ny) :: rest) H locs ⟨lv, ws, tys, h1, h2, ⟨⟨_, rfl, hF nx' ny z hz⟩, h3.2.2⟩, h4⟩)
    · cases hf
  · cases hf
theorem ei_unL_ok {F : Int → eV} {g : Int64 → Value} (hw : ∀ x, x_Stk cc own nL pc nx [.long x] [g x]) (hF : ∀ (x : Int64) ad, e_rel ad (F x.toInt) (g x)) : e_Snd ft cl lay cc own nL nm MC MS pc (ei_unL F nx) := by
  intro ad ce sl p l e R s m args below meth c D A H0 Q C hce hsl hA t t' hpc hf hg
  unfold ei_unL at hf
  split at hf
  · rename_i x r hst
    cases hf
    subst hpc
    intro ls stk H locs ⟨lv, ws, tys, h1, h2, h3, h4⟩
    rw [hst] at h3
    match stk, h3 with
    | v2 :: rest, h3 =>
      obtain ⟨nx', rfl, rfl⟩ := e_long h3.1
      exact hw nx' C.1 (hg ls (g nx' :: rest) H locs ⟨lv, ws, tys, h1, h2, ⟨hF nx' _, h3.2⟩, h4⟩)
  · cases hf
theorem ei_inc_ok {i : Nat} {n : Int} (hn : -2147483648 ≤ n ∧ n ≤ 2147483647) (hw : x_Inc cc own nL pc nx i n) : e_Snd ft cl lay cc own nL nm MC MS pc (ei_inc i n nx) := by
  intro ad ce sl p l e R s m args below meth c D A H0 Q C hce hsl hA t t' hpc hf hg
  unfold ei_inc at hf
  split at hf
  · rename_i x hx
    cases hf
    subst hpc
    intro ls stk H locs ⟨lv, ws, tys, h1, h2, h3, h4⟩
    obtain ⟨k, v, hk, hr⟩ := e_find_ok h2 hx
    obtain ⟨z, rfl, rfl⟩ := e_int hr
    have en : (z + Int32.ofInt n).toInt = e32 (z.toInt + n) := by
      rw [Int32.toInt_add]
      have : (Int32.ofInt n).toInt = n := Int32.toInt_ofInt_of_le (by omega) (by omega)
      rw [this]
      rfl
    exact hw C.1 h1 hk (fun ls' hl' => hg ls' stk H locs ⟨_, ws, tys, hl', ⟨⟨rfl, ⟨_, rfl, en⟩⟩, x_all2_filter h2 e_flt_eq⟩, h3, h4⟩)
  · cases hf
theorem ei_if2_ok {k : Nat} (hw : x_If2 cc own nL pc tg nx k) : e_Snd ft cl lay cc own nL nm MC MS pc (ei_if2 k tg nx) := by
  intro ad ce sl p l e R s m args below meth c D A H0 Q C hce hsl hA t t' hpc hf hg
  unfold ei_if2 at hf
  split at hf
  · rename_i y x r hst
    cases hf
    subst hpc
    intro ls stk H locs ⟨lv, ws, tys, h1, h2, h3, h4⟩
    rw [hst] at h3
    match stk, h3 with
    | v1 :: v2 :: rest, h3 =>
      obtain ⟨ny, rfl, rfl⟩ := e_int h3.1
      obtain ⟨nx', rfl, rfl⟩ := e_int h3.2.1
      have hgo := hg ls rest H locs ⟨lv, ws, tys, h1, h2, h3.2.2, h4⟩
      refine hw C.1 (fun hc => ?_) (fun hc => ?_)
      · rw [e_cnd_ok.mpr hc] at hgo
        exact hgo
      · have hb : e_cnd k nx'.toInt ny.toInt = false := by
          cases hb : e_cnd k nx'.toInt ny.toInt with
          | false => rfl
          | true => exact absurd (e_cnd_ok.mp hb) hc
        rw [hb] at hgo
        exact hgo
  · cases hf
theorem ei_if1_ok {k : Nat} (hw : x_If1 cc own nL pc tg nx k) : e_Snd ft cl lay cc own nL nm MC MS pc (ei_if1 k tg nx) := by
  intro ad ce sl p l e R s m args below meth c D A H0 Q C hce hsl hA t t' hpc hf hg
  unfold ei_if1 at hf
  split at hf
  · rename_i x r hst
    cases hf
    subst hpc
    intro ls stk H locs ⟨lv, ws, tys, h1, h2, h3, h4⟩
    rw [hst] at h3
    match stk, h3 with
    | v2 :: rest, h3 =>
      obtain ⟨nx', rfl, rfl⟩ := e_int h3.1
      have hgo := hg ls rest H locs ⟨lv, ws, tys, h1, h2, h3.2, h4⟩
      refine hw C.1 (fun hc => ?_) (fun hc => ?_)
      · rw [e_cnd_ok.mpr hc] at hgo
        exact hgo
      · have hb : e_cnd k nx'.toInt 0 = false := by
          cases hb : e_cnd k nx'.toInt 0 with
          | false => rfl
          | true => exact absurd (e_cnd_ok.mp hb) hc
        rw [hb] at hgo
        exact hgo
  · cases hf
end E30
end
end
-- part 31
section
noncomputable section
/-! exact: fields, arrays, switches, the stack -/
/-- a number that a slot can hold: what is read must be one (what is none stands for 'nobody knows') -/
def e_okz (z : Int) : Bool := decide (-2147483648 ≤ z) && decide (z ≤ 2147483647)
def ei_getf (ft : Nat → Nat → Nat) (lay : List eY) (ci k nx : Nat) : eS → Option eS := fun t => match t.2.2.1 with
  | (1, j) :: r => match lay[j.toNat]? with
    | some (0, c, n) => bif Nat.beq c ci && (Nat.ble (k + 1) n && e_okz (t.2.2.2 j k)) then some (nx, t.2.1, e_rd (ft ci k) (t.2.2.2 j k) :: r, t.2.2.2) else none
    | _ => none
  | _ => none
/-- fk as in the rows of fields: 0 an int, 1 a boolean, 2 a reference -/
def e_pk (fk : Nat) (x : eV) : Bool := match fk with
  | 0 => Nat.beq (e_ty x) 0
  | 1 => Nat.beq x.1 0 && (decide (0 ≤ x.2) && decide (x.2 ≤ 1))
  | _ => Nat.beq (e_ty x) 2
theorem e_pk_ok {ad : List Nat} {fk : Nat} {x : eV} {v : Value} (hr : e_rel ad x v) (h : e_pk fk x = true) : x_pk fk v := by
  unfold e_pk at h
  unfold x_pk
  split at h
  · have hk := e_ty_ok hr
    rw [Nat.eq_of_beq_eq_true h] at hk
    exact hk
  · simp only [Bool.and_eq_true, decide_eq_true_eq] at h
    obtain ⟨t, a⟩ := x
    have e := Nat.eq_of_beq_eq_true h.1
    simp only at e
    subst e
    obtain ⟨n, rfl, hn⟩ := e_int hr
    simp only at h
    have h3 : n.toInt = 0 ∨ n.toInt = 1 := by omega
    rcases h3 with h3 | h3
    · left; rw [show n = 0 from Int32.toInt_inj.mp h3]
    · right; rw [show n = 1 from Int32.toInt_inj.mp h3]
  · rename_i n0 n1
    have hk := e_ty_ok hr
    rw [Nat.eq_of_beq_eq_true h] at hk
    split
    · exact (n0 rfl).elim
    · exact (n1 rfl).elim
    · exact hk
def ei_putf (ft : Nat → Nat → Nat) (lay : List eY) (ci k fk nx : Nat) : eS → Option eS := fun t => match t.2.2.1 with
  | x :: (1, j) :: r => match lay[j.toNat]?, e_wr (ft ci k) x with
    | some (0, c, n), some z => bif Nat.beq c ci && (Nat.ble (k + 1) n && e_pk fk x) then some (nx, t.2.1, r, e_up t.2.2.2 j k z) else none
    | _, _ => none
  | _ => none
def ei_ald (lay : List eY) (b : Bool) (nx : Nat) : eS → Option eS := fun t => match t.2.2.1 with
  | (0, i) :: (1, j) :: r => match lay[j.toNat]? with
    | some (kd, _, n) => bif x_akd b kd && (decide (0 ≤ i) && (decide (i < n) && e_okz (t.2.2.2 j i))) then some (nx, t.2.1, (0, t.2.2.2 j i) :: r, t.2.2.2) else none
    | _ => none
  | _ => none
def e_nar (kd : Nat) (z : Int) : Option Int := match kd with
  | 1 => some z
  | 2 => some (z.bmod 256)
  | _ => bif decide (0 ≤ z) && decide (z ≤ 1) then some z else none
theorem e_nar_ok {kd : Nat} {n : Int32} {z : Int} (h : e_nar kd n.toInt = some z) : (vp_nar (x_aty kd) n).toInt = z := by
  unfold e_nar at h
  unfold x_aty
  split at h
  · cases h; rfl
  · cases h
    show (vp_nar .byte n).toInt = _
    rw [vp_nar_byte, Int8.toInt_toInt32, Int32.toInt_toInt8]
  · rename_i n1 n2
    cases hb : (decide (0 ≤ n.toInt) && decide (n.toInt ≤ 1)) with
    | false => rw [hb] at h; cases h
    | true =>
      rw [hb] at h
      cases h
      simp only [Bool.and_eq_true, decide_eq_true_eq] at hb
      have e0 : vp_nar .boolean n = n &&& 1 := rfl
      split
      · exact (n1 rfl).elim
      · exact (n2 rfl).elim
      · rw [e0]
        have h3 : n.toInt = 0 ∨ n.toInt = 1 := by omega
        rcases h3 with h3 | h3
        · rw [show n = 0 from Int32.toInt_inj.mp h3]; decide
        · rw [show n = 1 from Int32.toInt_inj.mp h3]; decide
def ei_ast (lay : List eY) (b : Bool) (nx : Nat) : eS → Option eS := fun t => match t.2.2.1 with
  | (0, x) :: (0, i) :: (1, j) :: r => match lay[j.toNat]? with
    | some (kd, _, n) => match e_nar kd x with
      | some z => bif x_akd b kd && (decide (0 ≤ i) && decide (i < n)) then some (nx, t.2.1, r, e_up t.2.2.2 j i z) else none
      | none => none
    | _ => none
  | _ => none
def ei_aald (lay : List eY) (nx : Nat) : eS → Option eS := fun t => match t.2.2.1 with
  | (0, i) :: (1, j) :: r => match lay[j.toNat]? with
    | some (kd, _, n) => bif (Nat.beq kd 5 || Nat.beq kd 6) && (decide (0 ≤ i) && (decide (i < n) && e_okz (t.2.2.2 j i))) then some (nx, t.2.1, e_rd 1 (t.2.2.2 j i) :: r, t.2.2.2) else none
    | _ => none
  | _ => none
def ei_alen (lay : List eY) (nx : Nat) : eS → Option eS := fun t => match t.2.2.1 with
  | (1, j) :: r => match lay[j.toNat]? with
    | some (kd, _, n) => bif Nat.beq kd 0 then none else some (nx, t.2.1, (0, (n : Int)) :: r, t.2.2.2)
    | _ => none
  | _ => none
def e_arm (x : Int) : List (Int × Int × Nat) → Option Nat
  | [] => none
  | q :: r => bif decide (q.1 ≤ x) && decide (x ≤ q.2.1) then some q.2.2 else e_arm x r
def ei_sw (l : List (Int × Int × Nat)) : eS → Option eS := fun t => match t.2.2.1 with
  | (0, x) :: r => match e_arm x l with
    | some tg => some (tg, t.2.1, r, t.2.2.2)
    | none => none
  | _ => none
section E31
variable {ft : Nat → Nat → Nat} {cl : List vw_C} {lay : List eY} {cc : ByteArray} {own : String} {nL : Nat} {nm : String} {MC MS pc nx tg : Nat}
theorem ei_getf_ok {ci k : Nat} (hw : x_Gf cl cc own nL nm MC MS pc nx ci k) : e_Snd ft cl lay cc own nL nm MC MS pc (ei_getf ft lay ci k nx) := by
  intro ad ce sl p l e R s m args below meth c D A H0 Q C hce hsl hA t t' hpc hf hg
  unfold ei_getf at hf
  split at hf
  · rename_i j r hst
    split at hf
    · rename_i c' n hy
      cases hb : (Nat.beq c' ci && (Nat.ble (k + 1) n && e_okz (t.2.2.2 j k))) with
      | false => rw [hb] at hf; cases hf
      | true =>
        rw [hb] at hf
        cases hf
        subst hpc
        simp only [Bool.and_eq_true] at hb
        have e1 := Nat.eq_of_beq_eq_true hb.1
        have e2 := Nat.le_of_ble_eq_true hb.2.1
        subst e1
        intro ls stk H locs ⟨lv, ws, tys, h1, h2, h3, h4, h5, h6, h7, h8⟩
        rw [hst] at h3
        match stk, h3 with
        | v1 :: rest, h3 =>
          obtain ⟨a, ee, hq, rfl, hc, ej⟩ := e_ref h4 h3.1 hy
          obtain ⟨fs, rfl, hl, hv⟩ := hc
          obtain ⟨v, hv1, hv2⟩ := hv k e2
          exact hw C h5.1 h6 hq hv1 (hg ls (v :: rest) H locs ⟨lv, ws, tys, h1, h2, ⟨e_rd_ok hv2, h3.2⟩, h4, h5, h6, h7, h8⟩)
    · cases hf
  · cases hf
theorem ei_putf_ok {ci k fk : Nat} (hw : x_Pf cl cc own nL nm MC MS pc nx ci k fk) : e_Snd ft cl lay cc own nL nm MC MS pc (ei_putf ft lay ci k fk nx) := by
  intro ad ce sl p l e R s m args below meth c D A H0 Q C hce hsl hA t t' hpc hf hg
  unfold ei_putf at hf
  split at hf
  · rename_i x j r hst
    split at hf
    · rename_i c' n z hy hz
      cases hb : (Nat.beq c' ci && (Nat.ble (k + 1) n && e_pk fk x)) with
      | false => rw [hb] at hf; cases hf
      | true =>
        rw [hb] at hf
        cases hf
        subst hpc
        simp only [Bool.and_eq_true] at hb
        have e1 := Nat.eq_of_beq_eq_true hb.1
        have e2 := Nat.le_of_ble_eq_true hb.2.1
        subst e1
        intro ls stk H locs ⟨lv, ws, tys, h1, h2, h3, h4, h5, h6, h7, h8⟩
        rw [hst] at h3
        match stk, h3 with
        | v0 :: v1 :: rest, h3 =>
          obtain ⟨a, ee, hq, rfl, hc, ej⟩ := e_ref h4 h3.2.1 hy
          obtain ⟨fs, rfl, hl, hv⟩ := hc
          simp only at hl hv
          rw [← ej] at hg
          refine hw C h5.1 h6 h7 h8 hq (by rw [hl]; exact e2) (e_pk_ok h3.1 hb.2.2) (fun H1 locs1 hP hD hS => hg ls rest H1 locs1 ⟨lv, _, tys, h1, h2, h3.2.2, e_world_set (y := (0, c', n)) (z := z) (k := k) h4 hy hq ?_, h5, hP, hD, hS⟩)
          refine ⟨fs.set k v0, rfl, by rw [List.length_set]; exact hl, fun i hi => ?_⟩
          simp only at hi
          by_cases hik : i = k
          · subst hik
            exact ⟨v0, by rw [List.getElem?_set_self (by rw [hl]; exact hi)], by rw [e_up_eq]; exact e_wr_ok hz h3.1⟩
          · obtain ⟨v, g1, g2⟩ := hv i hi
            exact ⟨v, by rw [List.getElem?_set_ne (Ne.symm hik)]; exact g1, by rw [e_up_ne _ _ (Or.inr (by omega)), ej]; exact g2⟩
    · cases hf
  · cases hf
theorem e_arr {ad : List Nat} {tys : List (ClassId × FieldType)} {b : Bool} {kd c n : Nat} {g : Int → Int} {e : va_E} (hk : x_akd b kd = true) (h : e_cell ft cl ad tys (kd, c, n) g e) :
    ∃ (t0 : Nat) (cA : ClassId) (f : Nat → Int32), tys[t0]? = some (cA, x_aty kd) ∧ e = .inl (cA, n, .inl f) ∧ n < 2147483648 ∧ ∀ k : Nat, k < n → (f k).toInt = g k := by
  unfold x_akd at hk
  split at hk
  · have := Nat.eq_of_beq_eq_true hk
    subst this
    exact h
  · simp only [Bool.or_eq_true] at hk
    rcases hk with hk | hk
    · have := Nat.eq_of_beq_eq_true hk
      subst this
      exact h
    · have := Nat.eq_of_beq_eq_true hk
      subst this
      exact h
theorem e_cell_arr {ad : List Nat} {tys : List (ClassId × FieldType)} {b : Bool} {kd c n : Nat} {g : Int → Int} {e : va_E} (hk : x_akd b kd = true)
    (h : ∃ (t0 : Nat) (cA : ClassId) (f : Nat → Int32), tys[t0]? = some (cA, x_aty kd) ∧ e = .inl (cA, n, .inl f) ∧ n < 2147483648 ∧ ∀ k : Nat, k < n → (f k).toInt = g k) : e_cell ft cl ad tys (kd, c, n) g e := by
  unfold x_akd at hk
  split at hk
  · have := Nat.eq_of_beq_eq_true hk
    subst this
    exact h
  · simp only [Bool.or_eq_true] at hk
    rcases hk with hk | hk
    · have := Nat.eq_of_beq_eq_true hk
      subst this
      exact h
    · have := Nat.eq_of_beq_eq_true hk
      subst this
      exact h
theorem e_ix {i : Int32} {n : Nat} (h0 : 0 ≤ i.toInt) (h1 : i.toInt < n) : vp_in i n ∧ i.toNatClampNeg < n ∧ ((i.toNatClampNeg : Nat) : Int) = i.toInt := by
  have e : i.toNatClampNeg = i.toInt.toNat := rfl
  refine ⟨vp_in_iff.mpr ⟨by omega, by omega⟩, ?_, ?_⟩
  · rw [e]; omega
  · rw [e]; omega
theorem ei_ald_ok {b : Bool} (hw : ∀ kd, x_akd b kd = true → x_Al cl cc own nL nm MC MS pc nx (x_aty kd)) : e_Snd ft cl lay cc own nL nm MC MS pc (ei_ald lay b nx) := by
  intro ad ce sl p l e R s m args below meth c D A H0 Q C hce hsl hA t t' hpc hf hg
  unfold ei_ald at hf
  split at hf
  · rename_i i j r hst
    split at hf
    · rename_i kd c' n hy
      cases hb : (x_akd b kd && (decide (0 ≤ i) && (decide (i < n) && e_okz (t.2.2.2 j i)))) with
      | false => rw [hb] at hf; cases hf
      | true =>
        rw [hb] at hf
        cases hf
        subst hpc
        simp only [Bool.and_eq_true, decide_eq_true_eq] at hb
        intro ls stk H locs ⟨lv, ws, tys, h1, h2, h3, h4, h5, h6, h7, h8⟩
        rw [hst] at h3
        match stk, h3 with
        | v1 :: v2 :: rest, h3 =>
          obtain ⟨ni, rfl, rfl⟩ := e_int h3.1
          obtain ⟨a, ee, hq, rfl, hc, ej⟩ := e_ref h4 h3.2.1 hy
          obtain ⟨t0, cA, f, g1, rfl, g2, g3⟩ := e_arr hb.1 hc
          obtain ⟨k1, k2, k3⟩ := e_ix hb.2.1 hb.2.2.1
          exact hw kd hb.1 C h5.1 h6 hq g1 k1 (hg ls (.int (f ni.toNatClampNeg) :: rest) H locs ⟨lv, ws, tys, h1, h2, ⟨⟨_, rfl, by rw [← k3]; exact g3 _ k2⟩, h3.2.2⟩, h4, h5, h6, h7, h8⟩)
    · cases hf
  · cases hf
theorem ei_ast_ok {b : Bool} (hw : ∀ kd, x_akd b kd = true → x_As cl cc own nL nm MC MS pc nx (x_aty kd)) : e_Snd ft cl lay cc own nL nm MC MS pc (ei_ast lay b nx) := by
  intro ad ce sl p l e R s m args below meth c D A H0 Q C hce hsl hA t t' hpc hf hg
  unfold ei_ast at hf
  split at hf
  · rename_i x i j r hst
    split at hf
    · rename_i kd c' n hy
      split at hf
      · rename_i z hz
        cases hb : (x_akd b kd && (decide (0 ≤ i) && decide (i < n))) with
        | false => rw [hb] at hf; cases hf
        | true =>
          rw [hb] at hf
          cases hf
          subst hpc
          simp only [Bool.and_eq_true, decide_eq_true_eq] at hb
          intro ls stk H locs ⟨lv, ws, tys, h1, h2, h3, h4, h5, h6, h7, h8⟩
          rw [hst] at h3
          match stk, h3 with
          | v0 :: v1 :: v2 :: rest, h3 =>
            obtain ⟨nx', rfl, rfl⟩ := e_int h3.1
            obtain ⟨ni, rfl, rfl⟩ := e_int h3.2.1
            obtain ⟨a, ee, hq, rfl, hc, ej⟩ := e_ref h4 h3.2.2.1 hy
            obtain ⟨t0, cA, f, g1, rfl, g2, g3⟩ := e_arr hb.1 hc
            obtain ⟨k1, k2, k3⟩ := e_ix hb.2.1 hb.2.2
            rw [← ej] at hg
            refine hw kd hb.1 C h5.1 h6 h7 h8 hq g1 k1 (fun H1 locs1 hP hD hS => hg ls rest H1 locs1 ⟨lv, _, tys, h1, h2, h3.2.2.2, e_world_set (y := (kd, c', n)) h4 hy hq (e_cell_arr hb.1 ⟨t0, cA, _, g1, rfl, g2, fun i' hi' => ?_⟩), h5, hP, hD, hS⟩)
            by_cases hik : i' = ni.toNatClampNeg
            · subst hik
              rw [← k3, e_up_eq]
              simp only [upd, if_pos]
              exact e_nar_ok hz
            · rw [e_up_ne _ _ (Or.inr (by rw [← k3]; omega)), ej]
              simp only [upd, if_neg hik]
              exact g3 i' hi'
      · cases hf
    · cases hf
  · cases hf
theorem ei_aald_ok (hw : x_Aq cl cc own nL nm MC MS pc nx) : e_Snd ft cl lay cc own nL nm MC MS pc (ei_aald lay nx) := by
  intro ad ce sl p l e R s m args below meth c D A H0 Q C hce hsl hA t t' hpc hf hg
  unfold ei_aald at hf
  split at hf
  · rename_i i j r hst
    split at hf
    · rename_i kd c' n hy
      cases hb : ((Nat.beq kd 5 || Nat.beq kd 6) && (decide (0 ≤ i) && (decide (i < n) && e_okz (t.2.2.2 j i)))) with
      | false => rw [hb] at hf; cases hf
      | true =>
        rw [hb] at hf
        cases hf
        subst hpc
        simp only [Bool.and_eq_true, decide_eq_true_eq, Bool.or_eq_true] at hb
        intro ls stk H locs ⟨lv, ws, tys, h1, h2, h3, h4, h5, h6, h7, h8⟩
        rw [hst] at h3
        match stk, h3 with
        | v1 :: v2 :: rest, h3 =>
          obtain ⟨ni, rfl, rfl⟩ := e_int h3.1
          obtain ⟨a, ee, hq, rfl, hc, ej⟩ := e_ref h4 h3.2.1 hy
          obtain ⟨k1, k2, k3⟩ := e_ix hb.2.1 hb.2.2.1
          rcases hb.1 with hk | hk
          · have := Nat.eq_of_beq_eq_true hk
            subst this
            obtain ⟨t0, cA, r', f, g0, g1, rfl, g2, g3⟩ := hc
            exact hw C rfl h5.1 h6 hq g1 k1 (hg ls (va_rf (f ni.toNatClampNeg) :: rest) H locs ⟨lv, ws, tys, h1, h2, ⟨by rw [← k3]; exact e_rd_ok (g3 _ k2), h3.2.2⟩, h4, h5, h6, h7, h8⟩)
          · have := Nat.eq_of_beq_eq_true hk
            subst this
            obtain ⟨t0, cA, f, g1, rfl, g2, g3⟩ := hc
            exact hw C rfl h5.1 h6 hq g1 k1 (hg ls (va_rf (f ni.toNatClampNeg) :: rest) H locs ⟨lv, ws, tys, h1, h2, ⟨by rw [← k3]; exact e_rd_ok (g3 _ k2), h3.2.2⟩, h4, h5, h6, h7, h8⟩)
    · cases hf
  · cases hf
theorem ei_alen_ok (hw : x_Ln cl cc own nL nm MC MS pc nx) : e_Snd ft cl lay cc own nL nm MC MS pc (ei_alen lay nx) := by
  intro ad ce sl p l e R s m args below meth c D A H0 Q C hce hsl hA t t' hpc hf hg
  unfold ei_alen at hf
  split at hf
  · rename_i j r hst
    split at hf
    · rename_i kd c' n hy
      cases hb : Nat.beq kd 0 with
      | true => rw [hb] at hf; cases hf
      | false =>
        rw [hb] at hf
        cases hf
        subst hpc
        intro ls stk H locs ⟨lv, ws, tys, h1, h2, h3, h4, h5, h6, h7, h8⟩
        rw [hst] at h3
        match stk, h3 with
        | v2 :: rest, h3 =>
          obtain ⟨a, ee, hq, rfl, hc, ej⟩ := e_ref h4 h3.1 hy
          have key : ∃ (t0 : Nat) (cA : ClassId) (x : vp_A) (ty : FieldType), tys[t0]? = some (cA, ty) ∧ ee = .inl (cA, x) ∧ x.1 = n ∧ n < 2147483648 := by
            unfold e_cell at hc
            split at hc
            · rename_i h0; simp only at h0; subst h0; cases hb
            · obtain ⟨t0, cA, f, g1, g2, g3, -⟩ := hc
              exact ⟨t0, cA, _, _, g1, g2, rfl, g3⟩
            · obtain ⟨t0, cA, f, g1, g2, g3, -⟩ := hc
              exact ⟨t0, cA, _, _, g1, g2, rfl, g3⟩
            · obtain ⟨t0, cA, f, g1, g2, g3, -⟩ := hc
              exact ⟨t0, cA, _, _, g1, g2, rfl, g3⟩
            · obtain ⟨t0, cA, r', f, -, g1, g2, g3, -⟩ := hc
              exact ⟨t0, cA, _, _, g1, g2, rfl, g3⟩
            · obtain ⟨t0, cA, f, g1, g2, g3, -⟩ := hc
              exact ⟨t0, cA, _, _, g1, g2, rfl, g3⟩
            · exact hc.elim
          obtain ⟨t0, cA, x, ty, g1, rfl, rfl, g3⟩ := key
          have e := nI_toInt g3
          exact hw C h5.1 h6 hq g1 (hg ls (.int (Int32.ofNat x.1) :: rest) H locs ⟨lv, ws, tys, h1, h2, ⟨⟨_, rfl, e⟩, h3.2⟩, h4, h5, h6, h7, h8⟩)
    · cases hf
  · cases hf
theorem e_arm_ok {x : Int} {tg : Nat} : ∀ {l : List (Int × Int × Nat)}, e_arm x l = some tg → ∃ q ∈ l, q.1 ≤ x ∧ x ≤ q.2.1 ∧ q.2.2 = tg
  | [], h => by cases h
  | q :: r, h => by
    unfold e_arm at h
    cases hb : (decide (q.1 ≤ x) && decide (x ≤ q.2.1)) with
    | true =>
      rw [hb] at h
      cases h
      simp only [Bool.and_eq_true, decide_eq_true_eq] at hb
      exact ⟨q, List.mem_cons_self, hb.1, hb.2, rfl⟩
    | false =>
      rw [hb] at h
      obtain ⟨q', h1, h2⟩ := e_arm_ok h
      exact ⟨q', List.mem_cons_of_mem _ h1, h2⟩
theorem ei_sw_ok {l : List (Int × Int × Nat)} (hw : ∀ x : Int32, ∀ q ∈ l, q.1 ≤ x.toInt → x.toInt ≤ q.2.1 → x_Sw cc own nL pc x q.2.2) : e_Snd ft cl lay cc own nL nm MC MS pc (ei_sw l) := by
  intro ad ce sl p ll e R s m args below meth c D A H0 Q C hce hsl hA t t' hpc hf hg
  unfold ei_sw at hf
  split at hf
  · rename_i x r hst
    split at hf
    · rename_i tg htg
      cases hf
      subst hpc
      intro ls stk H locs ⟨lv, ws, tys, h1, h2, h3, h4⟩
      rw [hst] at h3
      match stk, h3 with
      | v2 :: rest, h3 =>
        obtain ⟨n, rfl, rfl⟩ := e_int h3.1
        obtain ⟨q, hq, q1, q2, rfl⟩ := e_arm_ok htg
        exact hw n q hq q1 q2 C.1 (hg ls rest H locs ⟨lv, ws, tys, h1, h2, h3.2, h4⟩)
    · cases hf
  · cases hf
def ei_stk (f : List eV → Option (List eV)) (nx : Nat) : eS → Option eS := fun t => match f t.2.2.1 with
  | some st => some (nx, t.2.1, st, t.2.2.2)
  | none => none
theorem ei_stk_ok {f : List eV → Option (List eV)} (hw : ∀ (ad : List Nat) (st st' : List eV) (stk : List Value), f st = some st' → x_all2 (e_rel ad) st stk → ∃ (i o rest : List Value), stk = i ++ rest ∧ x_Stk cc own nL pc nx i o ∧ x_all2 (e_rel ad) st' (o ++ rest)) : e_Snd ft cl lay cc own nL nm MC MS pc (ei_stk f nx) := by
  intro ad ce sl p l e R s m args below meth c D A H0 Q C hce hsl hA t t' hpc hf hg
  unfold ei_stk at hf
  split at hf
  · rename_i st hst
    cases hf
    subst hpc
    intro ls stk H locs ⟨lv, ws, tys, h1, h2, h3, h4⟩
    obtain ⟨i, o, rest, rfl, hs, hr⟩ := hw _ _ _ _ hst h3
    exact hs C.1 (hg ls (o ++ rest) H locs ⟨lv, ws, tys, h1, h2, hr, h4⟩)
  · cases hf
end E31
end
end
