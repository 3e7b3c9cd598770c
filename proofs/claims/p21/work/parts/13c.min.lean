noncomputable section
/-! the lesser of two: a call that the machine knows -/
def xi_min (MC MS nx : Nat) : xS → Option (List xS) := fun t => match t.2.2.1 with
  | y :: x :: r => match x_bi t.2.2.2.2.1 x, x_bi t.2.2.2.2.1 y with
    | some a, some b => bif Nat.ble (x_cats r) 8 && (Nat.ble t.2.2.2.2.2.1 MC && Nat.ble t.2.2.2.2.2.2 MS) then some [(nx, t.2.1, (0, x_min a.1 b.1, x_min a.2 b.2) :: r, t.2.2.2)] else none
    | _, _ => none
  | _ => none
theorem xr_min {cl : List vw_C} {K : xKx} {cc : ByteArray} {own : String} {nL : Nat} {nm : String} {MC MS pc ix : Nat} (hl : Cond.methodLink own ix Lib.Math.min.name ∈ x_tbl) (hst : Cond.static Lib.Math.min.name ∈ x_tbl) (hi : Cond.initialized "java/lang/Math" ∈ x_tbl) (hc : Cond.code Lib.Math.min.name Lib.Math.min.code 2 (some .int) ∈ x_tbl) (d : decode cc pc = .ok (.invokestatic ix, 3)) : x_Snd cl K cc own nL nm MC MS pc (xi_min MC MS (pc + 3)) := by
  intro V sc p l e R s m args below meth c D A H0 Q C hA hK t ts hpc hf hg
  unfold xi_min at hf
  split at hf
  · rename_i y x r hst'
    split at hf
    · rename_i a b ha hb
      cases hbb : (Nat.ble (x_cats r) 8 && (Nat.ble t.2.2.2.2.2.1 MC && Nat.ble t.2.2.2.2.2.2 MS)) with
      | false => rw [hbb] at hf; cases hf
      | true =>
        rw [hbb] at hf
        cases hf
        simp only [Bool.and_eq_true] at hbb
        obtain ⟨b1, b2, b3⟩ := hbb
        have b1 := Nat.le_of_ble_eq_true b1
        have b2 := Nat.le_of_ble_eq_true b2
        have b3 := Nat.le_of_ble_eq_true b3
        subst hpc
        intro ls stk H locs ⟨lv, ws, tys, h1, h2, h3, h4, h5, h6, h7, h8, h9⟩
        rw [hst'] at h3
        match stk, h3 with
        | v1 :: v2 :: rest, h3 =>
          obtain ⟨ny, rfl, y1, y2⟩ := x_bi_ok h9 hb h3.1
          obtain ⟨nx', rfl, x1, x2⟩ := x_bi_ok h9 ha h3.2.1
          have hcat := (x_cats_ok h3.2.2).1
          have hts := C.1.2.2.2.2
          refine va_mmin C.1.1 C.1.2.1 (by rw [C.1.2.2.1, h1.1]) C.1.2.2.2.1 (hts _ hl) (hts _ hst) (hts _ hi) (hts _ hc) C.2.2.2.2.1 (by have := C.2.2.2.2.2.1; omega) (by rw [C.2.2.1]; exact b2) (by rw [C.2.2.2.1]; exact b3) d (hg _ List.mem_cons_self ls (.int (if ny < nx' then ny else nx') :: rest) H locs ⟨lv, ws, tys, h1, h2, ⟨⟨_, rfl, ?_⟩, h3.2.2⟩, h4, h5, h6, h7, h8, h9⟩)
          show x_min a.1 b.1 ≤ _ ∧ _ ≤ x_min a.2 b.2
          by_cases hlt : ny < nx'
          · rw [if_pos hlt]
            have := x_lt32.mp hlt
            exact ⟨x_min_r y1, x_le_min (by omega) y2⟩
          · rw [if_neg hlt]
            have : ¬ ny.toInt < nx'.toInt := fun q => hlt (x_lt32.mpr q)
            exact ⟨x_min_l x1, x_le_min x2 (by omega)⟩
    · cases hf
  · cases hf
end
