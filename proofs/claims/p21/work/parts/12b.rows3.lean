noncomputable section
/-! arrays of arrays; longs -/
def x_rws (b : Nat) : Nat → xA
  | 0 => []
  | n + 1 => x_rws b n ++ [(n, (1, ((b + n : Nat) : Int), 0))]
theorem x_get_app (d : xV) (q : Nat × xV) (k : Nat) : ∀ l : xA, (∀ p ∈ l, p.1 ≠ q.1) → x_get d (l ++ [q]) k = if k = q.1 then q.2 else x_get d l k
  | [], _ => by
    simp only [List.nil_append, x_get_nil, x_get_cons]
    by_cases h : k = q.1
    · rw [if_pos h, h]; simp
    · rw [if_neg h, x_nb (Ne.symm h)]; rfl
  | p :: l, hp => by
    simp only [List.cons_append, x_get_cons]
    by_cases hk : p.1 = k
    · have hb : Nat.beq p.1 k = true := Nat.beq_eq.mpr hk
      have hn : ¬ k = q.1 := fun e => hp p List.mem_cons_self (hk.trans e)
      rw [hb, if_neg hn]; rfl
    · rw [x_nb hk]
      exact x_get_app d q k l (fun x hx => hp x (List.mem_cons_of_mem _ hx))
theorem x_rws_lt (b : Nat) : ∀ n, ∀ p ∈ x_rws b n, p.1 < n
  | 0, p, h => absurd h List.not_mem_nil
  | n + 1, p, h => by
    rcases List.mem_append.mp h with h | h
    · exact Nat.lt_succ_of_lt (x_rws_lt b n p h)
    · rw [List.mem_singleton] at h
      subst h
      exact Nat.lt_succ_self n
theorem x_rws_get (b : Nat) (d : xV) : ∀ n k, k < n → x_get d (x_rws b n) k = (1, ((b + k : Nat) : Int), 0)
  | 0, k, h => by omega
  | n + 1, k, h => by
    unfold x_rws
    rw [x_get_app d _ k _ (fun p hp => by have := x_rws_lt b n p hp; simp only; omega)]
    by_cases e : k = n
    · subst e; simp
    · simp only [e, if_false]
      exact x_rws_get b d n k (by omega)
def xi_mna (MC MS nx : Nat) : xS → Option (List xS) := fun t => match t.2.2.1 with
  | k :: n :: r => match x_bi t.2.2.2.2.1 k, x_bi t.2.2.2.2.1 n with
    | some kb, some nb => bif decide (kb.1 = kb.2) && (decide (nb.1 = nb.2) && (decide (0 ≤ kb.1) && (decide (0 ≤ nb.1) && (decide (kb.1 ≤ 1000000) && (decide (nb.1 ≤ 1000000) && (t.2.2.2.1.any (fun x => Nat.beq x.1 1) && (Nat.ble (t.2.2.2.2.2.1 + (1 + nb.1.toNat)) MC && Nat.ble (t.2.2.2.2.2.2 + (nb.1.toNat + nb.1.toNat * kb.1.toNat)) MS))))))) then
        some [(nx, t.2.1, (1, t.2.2.2.1.length, 0) :: r, t.2.2.2.1 ++ ((6, 0, nb.1.toNat, (2, 0, 0), x_rws (t.2.2.2.1.length + 1) nb.1.toNat) :: List.replicate nb.1.toNat (1, 0, kb.1.toNat, (0, 0, 0), [])), t.2.2.2.2.1, t.2.2.2.2.2.1 + 1 + nb.1.toNat, t.2.2.2.2.2.2 + nb.1.toNat + nb.1.toNat * kb.1.toNat)] else none
    | _, _ => none
  | _ => none
section X12b
variable {cl : List vw_C} {K : xKx} {cc : ByteArray} {own : String} {nL : Nat} {nm : String} {MC MS pc : Nat}
theorem xr_mna {ix : Nat} {C : String} (hs : C = "[" ++ (FieldType.array .int).toString) (hl : Cond.classLink own ix C ∈ x_tbl) (harr : Cond.arrayClass .int ∈ x_tbl) (d : decode cc pc = .ok (.multianewarray ix 2, 4)) : x_Snd cl K cc own nL nm MC MS pc (xi_mna MC MS (pc + 4)) := by
  subst hs
  intro V sc p l e R s m args below meth c D A H0 Q C hA hK t ts hpc hf hg
  unfold xi_mna at hf
  split at hf
  · rename_i k n r hst
    split at hf
    · rename_i kb nb hkb hnb
      cases hb : (decide (kb.1 = kb.2) && (decide (nb.1 = nb.2) && (decide (0 ≤ kb.1) && (decide (0 ≤ nb.1) && (decide (kb.1 ≤ 1000000) && (decide (nb.1 ≤ 1000000) && (t.2.2.2.1.any (fun x => Nat.beq x.1 1) && (Nat.ble (t.2.2.2.2.2.1 + (1 + nb.1.toNat)) MC && Nat.ble (t.2.2.2.2.2.2 + (nb.1.toNat + nb.1.toNat * kb.1.toNat)) MS)))))))) with
      | false => rw [hb] at hf; cases hf
      | true =>
        rw [hb] at hf
        cases hf
        subst hpc
        simp only [Bool.and_eq_true, decide_eq_true_eq, List.any_eq_true] at hb
        obtain ⟨b1, b2, b3, b4, b5, b6, ⟨x9, hx9, k9⟩, b8, b9⟩ := hb
        have b8 := Nat.le_of_ble_eq_true b8
        have b9 := Nat.le_of_ble_eq_true b9
        intro ls stk H locs ⟨lv, ws, tys, h1, h2, h3, h4, h5, h6, h7, h8, h9⟩
        rw [hst] at h3
        match stk, h3 with
        | v1 :: v2 :: rest, h3 =>
          obtain ⟨kk, rfl, i1, i2⟩ := x_bi_ok h9 hkb h3.1
          obtain ⟨nn, rfl, j1, j2⟩ := x_bi_ok h9 hnb h3.2.1
          obtain ⟨c1, c2⟩ := x_const b1 b3 i1 i2
          obtain ⟨d1, d2⟩ := x_const b2 b4 j1 j2
          obtain ⟨i9, hi9⟩ := List.getElem?_of_mem hx9
          have hl9 : i9 < ws.length := by rw [← h4.1]; exact (List.getElem?_eq_some_iff.mp hi9).1
          have hc9 := h4.2.2 i9 x9 ws[i9] hi9 (List.getElem?_eq_getElem hl9)
          obtain ⟨x9a, x9b⟩ := x9
          have e9 : x9a = 1 := Nat.eq_of_beq_eq_true k9
          subst e9
          obtain ⟨t9, cy, f9, ht9, -, -, -⟩ := hc9
          have hcy : s.vm.findClass (FieldType.array .int).toString = some cy := (h5.2 t9 _ ht9).2
          refine va_mna (X := ws) (L := []) (f := fun _ => .inl (cy, 0, .inl (fun _ => 0))) C.1.1 C.1.2.1 C.1.2.2.2.1 (C.1.2.2.2.2 _ hl) C.2.2.2.2.2.2.2.1 (C.1.2.2.2.2 _ harr) hcy h5 (by show va_P D cl (ws ++ []) H; rw [List.append_nil]; exact h6) (by show va_D A (ws ++ []); rw [List.append_nil]; exact h7) h8 hA (z := (kb.1.toNat, .inl (fun _ => 0))) d1 c1 d2 c2 (by omega) (by show kb.1.toNat * 4 ≤ 536870912; omega) (by omega) rfl rfl (by rw [C.2.2.1]; exact b8) (by rw [C.2.2.2.1]; exact b9) (fun c => by
            rw [vp_cell_i]
            show ({ cls := c, slots := Array.replicate kb.1.toNat (.int 0), vm := .none } : Cell) = _
            rw [arrV_new]) d (fun q rr cA H1 hinj hnl hK1 hP1 hD1 hS1 => ?_)
          have ew : (ws ++ [(q, .inl (cA, nb.1.toNat, .inr (.inr (.inr (.inr (fun i => if i < nb.1.toNat then some (rr i) else none))))))]) ++ va_pl ([] ++ (List.range nb.1.toNat).map rr) (vr_up (fun _ => .inl (cy, 0, .inl (fun _ => 0))) ((List.range nb.1.toNat).map rr) (.inl (cy, kb.1.toNat, .inl (fun _ => 0)))) = ws ++ ((q, .inl (cA, nb.1.toNat, .inr (.inr (.inr (.inr (fun i => if i < nb.1.toNat then some (rr i) else none)))))) :: (List.range nb.1.toNat).map (fun i => ((rr i, .inl (cy, kb.1.toNat, .inl (fun _ => 0))) : Nat × va_E))) := by
            rw [List.append_assoc, List.nil_append]
            unfold va_pl
            rw [List.map_map]
            congr 1
            show (q, _) :: _ = (q, _) :: _
            congr 1
            apply List.map_congr_left
            intro i hi
            simp only [Function.comp]
            rw [vr_up_in (List.mem_map_of_mem hi)]
          rw [ew] at hP1 hD1
          refine hg _ List.mem_cons_self ls (.ref q :: rest) H1 locs ⟨lv, _, _, h1, ?_, ⟨?_, ?_⟩, ?_, hK1, hP1, hD1, hS1, h9⟩
          · rw [List.map_append]; exact x_lv_app h2
          · refine ⟨q, ?_, rfl⟩
            simp only [Int.toNat_natCast]
            rw [h4.1]
            simp
          · rw [List.map_append]; exact x_stk_app h3.2.2
          · refine x_world_app h4 (by simp) (fun j x y hx hy => ?_)
            cases j with
            | zero =>
              cases hx
              cases hy
              refine ⟨tys.length, cA, _, by simp, rfl, by show nb.1.toNat < 2147483648; omega, fun i hi => ?_⟩
              have hi : i < nb.1.toNat := hi
              show x_rel _ V sc (x_get (2, 0, 0) (x_rws (t.2.2.2.1.length + 1) nb.1.toNat) i) (va_rf (if i < nb.1.toNat then some (rr i) else none))
              rw [x_rws_get _ _ _ _ hi, if_pos hi]
              refine ⟨rr i, ?_, rfl⟩
              simp only [Int.toNat_natCast]
              rw [h4.1, List.map_append, List.getElem?_append_right (by rw [List.length_map]; omega), List.length_map]
              rw [show ws.length + 1 + i - ws.length = i + 1 by omega]
              simp only [List.map_cons, List.getElem?_cons_succ, List.map_map]
              rw [List.getElem?_map, List.getElem?_range hi]
              rfl
            | succ j =>
              simp only [List.getElem?_cons_succ] at hx hy
              have hj : j < nb.1.toNat := by
                have := (List.getElem?_eq_some_iff.mp hx).1
                simpa using this
              rw [List.getElem?_replicate, if_pos hj] at hx
              cases hx
              rw [List.getElem?_map, List.getElem?_range hj] at hy
              cases hy
              refine ⟨t9, cy, _, by rw [List.getElem?_append_left (List.getElem?_eq_some_iff.mp ht9).1]; exact ht9, rfl, by show kb.1.toNat < 2147483648; omega, fun i hi => ⟨0, rfl, by show (0 : Int) ≤ Int32.toInt 0; decide, by show Int32.toInt 0 ≤ (0 : Int); decide⟩⟩
    · cases hf
  · cases hf
def xF_anyL (_ _ : Int × Int) : Option xV := some x_anyL
theorem xr_lshl (d : decode cc pc = .ok (.lshl, 1)) : x_Snd cl K cc own nL nm MC MS pc (xi_shL xF_anyL (pc + 1)) := xi_shL_ok (g := fun x y => x <<< (y.toInt64 &&& 63)) (fun x y => (fun S => fun k => lv_lshl S.1 S.2.1 d rfl k)) (fun a b z x y h h1 h2 h3 h4 ad V sc => by cases h; exact x_anyL_ok _)
def xF_mulL (a b : Int × Int) : Option xV := some (x_J (x_min (x_min (a.1 * b.1) (a.2 * b.1)) (x_min (a.1 * b.2) (a.2 * b.2))) (x_max (x_max (a.1 * b.1) (a.2 * b.1)) (x_max (a.1 * b.2) (a.2 * b.2))))
theorem xr_lmul (d : decode cc pc = .ok (.lmul, 1)) : x_Snd cl K cc own nL nm MC MS pc (xi_binL xF_mulL (pc + 1)) := xi_binL_ok (g := fun x y => x * y) (fun _ => True) (fun x y _ => (fun S => fun k => lv_lmul S.1 S.2.1 d k)) (fun a b z x y h h1 h2 h3 h4 => ⟨trivial, fun ad V sc => by cases h; exact x_J_ok (Int64.toInt_mul x y) (x_corner h1 h2 h3 h4).1 (x_corner h1 h2 h3 h4).2⟩)
def xF_negL (a : Int × Int) : xV := x_J (-a.2) (-a.1)
theorem xr_lneg (d : decode cc pc = .ok (.lneg, 1)) : x_Snd cl K cc own nL nm MC MS pc (xi_unL xF_negL (pc + 1)) := xi_unL_ok (g := fun x => .long (-x)) (fun x => (fun S => fun k => lv_lneg S.1 S.2.1 d k)) (fun a x h1 h2 ad V sc => x_J_ok (Int64.toInt_neg x) (by omega) (by omega))
def xF_l2i (a : Int × Int) : xV := x_I a.1 a.2
theorem xr_l2i (d : decode cc pc = .ok (.l2i, 1)) : x_Snd cl K cc own nL nm MC MS pc (xi_unL xF_l2i (pc + 1)) := xi_unL_ok (g := fun x => .int x.toInt32) (fun x => (fun S => fun k => lv_l2i S.1 S.2.1 d rfl k)) (fun a x h1 h2 ad V sc => x_I_ok (Int64.toInt_toInt32 x) h1 h2)
end X12b
end
