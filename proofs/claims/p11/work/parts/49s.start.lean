noncomputable section
/-! from the entry to the end -/
theorem x_tblw {args : Array Value} {s : State} (hts : ∀ w ∈ lw_tbl, w.before args s = true) : ∀ w ∈ x_tbl, w.before args s = true := fun w hw => hts w (List.mem_filter.mp hw).1
set_option maxRecDepth 20000 in
theorem x_nestw : ∀ w ∈ x_nest.map (fun q => Cond.methodLinkNest q.1 q.2.1 q.2.2.1 q.2.2.2), w ∈ tables_1 := x_words (gs := [31, 5, 94, 36, 78, 73, 1, 288, 60, 71, 7, 484, 225, 37, 70, 32, 58, 139]) (by decide +kernel)
set_option maxRecDepth 20000 in
theorem x_exw {args : Array Value} {s : State} (hts : ∀ w ∈ lw_tbl, w.before args s = true) : x_Ex s := by
  have ht : ∀ w ∈ tables_1, w.before args s = true := fun w hw => hts w (List.mem_append_right _ hw)
  refine ⟨⟨va_AO.of (ht (.arrayOver (.object "RobotCellHouse$Joint")) (lw_t2 (List.mem_of_getElem? (i := 80) rfl))), va_AO.of (ht (.arrayOver (.object "RobotCellHouse$Arm")) (lw_t1 (List.mem_of_getElem? (i := 129) rfl))), va_AO.of (ht (.arrayOver (.object "RobotCellHouse$Task")) (lw_t2 (List.mem_of_getElem? (i := 73) rfl)))⟩, va_AOA.of (ht (.arrayOver (.array .int)) (lw_t1 (List.mem_of_getElem? (i := 174) rfl))), fun q hq => ?_⟩
  exact va_Nw.of rfl (ht _ (x_nestw _ (List.mem_map_of_mem (f := fun q => Cond.methodLinkNest q.1 q.2.1 q.2.2.1 q.2.2.2) hq)))
set_option maxRecDepth 20000 in
theorem x_kn {args : Array Value} {s : State} (hts : ∀ w ∈ x_tbl, w.before args s = true) : ∃ D : va_G, va_K D cls [] s := by
  obtain ⟨c0, i0, h0⟩ := u_known (C := RX0) (T := TX0) (N := 20) (n := 20) hts in_X0 (hts (.instantiable RX0 20) (in_t2 (List.mem_of_getElem? (i := 74) rfl) rfl))
  obtain ⟨c1, i1, h1⟩ := u_known (C := RX1) (T := TX1) (N := 5) (n := 5) hts in_X1 (hts (.instantiable RX1 5) (in_t1 (List.mem_of_getElem? (i := 36) rfl) rfl))
  obtain ⟨c2, i2, h2⟩ := u_known (C := RX2) (T := TX2) (N := 15) (n := 15) hts in_X2 (hts (.instantiable RX2 15) (in_t2 (List.mem_of_getElem? (i := 7) rfl) rfl))
  obtain ⟨c3, i3, h3⟩ := u_known (C := RX3) (T := TX3) (N := 12) (n := 12) hts in_X3 (hts (.instantiable RX3 12) (in_t1 (List.mem_of_getElem? (i := 123) rfl) rfl))
  obtain ⟨c4, i4, h4⟩ := u_known (C := RX4) (T := TX4) (N := 20) (n := 20) hts in_X4 (hts (.instantiable RX4 20) (in_t1 (List.mem_of_getElem? (i := 168) rfl) rfl))
  obtain ⟨c5, i5, h5⟩ := u_known (C := RX5) (T := TX5) (N := 12) (n := 12) hts in_X5 (hts (.instantiable RX5 12) (in_t2 (List.mem_of_getElem? (i := 83) rfl) rfl))
  obtain ⟨c6, i6, h6⟩ := u_known (C := RX6) (T := TX6) (N := 13) (n := 13) hts in_X6 (hts (.instantiable RX6 13) (in_t3 (List.mem_of_getElem? (i := 193) rfl) rfl))
  obtain ⟨c7, i7, h7⟩ := u_known (C := RX7) (T := TX7) (N := 8) (n := 8) hts in_X7 (hts (.instantiable RX7 8) (in_t1 (List.mem_of_getElem? (i := 131) rfl) rfl))
  obtain ⟨c8, i8, h8⟩ := u_known (C := RX8) (T := TX8) (N := 17) (n := 17) hts in_X8 (hts (.instantiable RX8 17) (in_t1 (List.mem_of_getElem? (i := 30) rfl) rfl))
  obtain ⟨c9, i9, h9⟩ := u_known (C := RX9) (T := TX9) (N := 17) (n := 17) hts in_X9 (hts (.instantiable RX9 17) (in_t3 (List.mem_of_getElem? (i := 132) rfl) rfl))
  obtain ⟨c10, i10, h10⟩ := u_known (C := RX10) (T := TX10) (N := 21) (n := 21) hts in_X10 (hts (.instantiable RX10 21) (in_t3 (List.mem_of_getElem? (i := 4) rfl) rfl))
  obtain ⟨c11, i11, h11⟩ := u_known (C := RX11) (T := TX11) (N := 15) (n := 15) hts in_X11 (hts (.instantiable RX11 15) (in_t1 (List.mem_of_getElem? (i := 22) rfl) rfl))
  obtain ⟨c12, i12, h12⟩ := u_known (C := RX12) (T := TX12) (N := 119) (n := 119) hts in_X12 (hts (.instantiable RX12 119) (in_t9 (List.mem_of_getElem? (i := 81) rfl) rfl))
  refine ⟨(fun k => match k with | 0 => c0 | 1 => c1 | 2 => c2 | 3 => c3 | 4 => c4 | 5 => c5 | 6 => c6 | 7 => c7 | 8 => c8 | 9 => c9 | 10 => c10 | 11 => c11 | 12 => c12 | _ => c0, fun k => match k with | 0 => i0 | 1 => i1 | 2 => i2 | 3 => i3 | 4 => i4 | 5 => i5 | 6 => i6 | 7 => i7 | 8 => i8 | 9 => i9 | 10 => i10 | 11 => i11 | 12 => i12 | _ => i0), fun k q hq => ?_, fun k q h => by simp at h⟩
  match k, hq with
  | 0, hq => cases hq; exact h0
  | 1, hq => cases hq; exact h1
  | 2, hq => cases hq; exact h2
  | 3, hq => cases hq; exact h3
  | 4, hq => cases hq; exact h4
  | 5, hq => cases hq; exact h5
  | 6, hq => cases hq; exact h6
  | 7, hq => cases hq; exact h7
  | 8, hq => cases hq; exact h8
  | 9, hq => cases hq; exact h9
  | 10, hq => cases hq; exact h10
  | 11, hq => cases hq; exact h11
  | 12, hq => cases hq; exact h12
  | k + 13, hq => simp [cls] at hq
def x_a (L : Nat) (xs : Nat → Int32) (j : Nat) : Int := if j < L then (xs j).toInt else 0
theorem x_a_b (L : Nat) (xs : Nat → Int32) (j : Nat) : -2147483648 ≤ x_a L xs j ∧ x_a L xs j ≤ 2147483647 := by
  unfold x_a
  split
  · exact x_rng _
  · omega
def x_f (L : Nat) (xs : Nat → Int32) : Nat → Int
  | 0 => x_a L xs 0
  | 1 => x_a L xs 1
  | 2 => x_a L xs 2
  | 3 => x_a L xs 3
  | 4 => x_a L xs 4
  | 5 => x_a L xs 5
  | 6 => x_a L xs 1 + x_a L xs 3
  | 7 => x_a L xs 2 + x_a L xs 4
  | 8 => -x_a L xs 4
  | 9 => 16000 - x_a L xs 1
  | 10 => x_a L xs 1 + x_a L xs 4
  | 11 => x_a L xs 1 - x_a L xs 4
  | 12 => x_a L xs 2 + x_a L xs 4
  | 13 => x_a L xs 2 - x_a L xs 4
  | 14 => 16000 - x_a L xs 2
  | 15 => (L : Int)
  | 16 => (L : Int) - 6
  | 17 => 0
  | 18 => 0
  | 19 => 0
  | 20 => 0
  | 21 => 1
  | 22 => 0
  | 23 => 1
  | 24 => 0
  | 25 => 1
  | 26 => 0
  | 27 => 1
  | 28 => 0
  | 29 => 1
  | 30 => 0
  | 31 => 1
  | _ => 0
def x_vs (L : Nat) (xs : Nat → Int32) : List Int := (List.range 32).map (x_f L xs)
theorem x_vs_get {L : Nat} {xs : Nat → Int32} (j : Nat) (hj : j < 32) : (x_vs L xs)[j]? = some (x_f L xs j) := by
  unfold x_vs
  rw [List.getElem?_map, List.getElem?_range hj]
  rfl
theorem x_f_R (L : Nat) (xs : Nat → Int32) : x_fR (x_f L xs) := ⟨⟨⟨rfl, rfl, rfl, rfl⟩, ⟨rfl, rfl, rfl, rfl⟩, rfl, rfl⟩, ⟨rfl, rfl, rfl, rfl, rfl, rfl⟩, Int.le_refl 0⟩
theorem x_vs_PV {P : (Nat → Int) → Prop} {L : Nat} {xs : Nat → Int32} (h : P (x_f L xs)) : x_PV P (x_vs L xs) := ⟨x_f L xs, by simp [x_vs], x_vs_get, x_f_R L xs, h⟩
theorem x_vs_tk {L : Nat} {xs : Nat → Int32} (hL : L ≤ 6) : x_tk s_0.2.2.2.2.1 (x_vs L xs) := by
  intro j q hq
  have b0 := x_a_b L xs 0
  have b1 := x_a_b L xs 1
  have b2 := x_a_b L xs 2
  have b3 := x_a_b L xs 3
  have b4 := x_a_b L xs 4
  have b5 := x_a_b L xs 5
  match j, hq with
  | 0, hq =>
    have hq : some ((-2147483648 : Int), (2147483647 : Int)) = some q := hq
    cases hq
    exact ⟨_, x_vs_get 0 (by decide), by show (-2147483648 : Int) ≤ x_a L xs 0; omega, by show x_a L xs 0 ≤ (2147483647 : Int); omega⟩
  | 1, hq =>
    have hq : some ((-2147483648 : Int), (2147483647 : Int)) = some q := hq
    cases hq
    exact ⟨_, x_vs_get 1 (by decide), by show (-2147483648 : Int) ≤ x_a L xs 1; omega, by show x_a L xs 1 ≤ (2147483647 : Int); omega⟩
  | 2, hq =>
    have hq : some ((-2147483648 : Int), (2147483647 : Int)) = some q := hq
    cases hq
    exact ⟨_, x_vs_get 2 (by decide), by show (-2147483648 : Int) ≤ x_a L xs 2; omega, by show x_a L xs 2 ≤ (2147483647 : Int); omega⟩
  | 3, hq =>
    have hq : some ((-2147483648 : Int), (2147483647 : Int)) = some q := hq
    cases hq
    exact ⟨_, x_vs_get 3 (by decide), by show (-2147483648 : Int) ≤ x_a L xs 3; omega, by show x_a L xs 3 ≤ (2147483647 : Int); omega⟩
  | 4, hq =>
    have hq : some ((-2147483648 : Int), (2147483647 : Int)) = some q := hq
    cases hq
    exact ⟨_, x_vs_get 4 (by decide), by show (-2147483648 : Int) ≤ x_a L xs 4; omega, by show x_a L xs 4 ≤ (2147483647 : Int); omega⟩
  | 5, hq =>
    have hq : some ((-2147483648 : Int), (2147483647 : Int)) = some q := hq
    cases hq
    exact ⟨_, x_vs_get 5 (by decide), by show (-2147483648 : Int) ≤ x_a L xs 5; omega, by show x_a L xs 5 ≤ (2147483647 : Int); omega⟩
  | 6, hq =>
    have hq : some ((-1099511627776 : Int), (1099511627776 : Int)) = some q := hq
    cases hq
    exact ⟨_, x_vs_get 6 (by decide), by show (-1099511627776 : Int) ≤ x_a L xs 1 + x_a L xs 3; omega, by show x_a L xs 1 + x_a L xs 3 ≤ (1099511627776 : Int); omega⟩
  | 7, hq =>
    have hq : some ((-1099511627776 : Int), (1099511627776 : Int)) = some q := hq
    cases hq
    exact ⟨_, x_vs_get 7 (by decide), by show (-1099511627776 : Int) ≤ x_a L xs 2 + x_a L xs 4; omega, by show x_a L xs 2 + x_a L xs 4 ≤ (1099511627776 : Int); omega⟩
  | 8, hq =>
    have hq : some ((-1099511627776 : Int), (1099511627776 : Int)) = some q := hq
    cases hq
    exact ⟨_, x_vs_get 8 (by decide), by show (-1099511627776 : Int) ≤ -x_a L xs 4; omega, by show -x_a L xs 4 ≤ (1099511627776 : Int); omega⟩
  | 9, hq =>
    have hq : some ((-1099511627776 : Int), (1099511627776 : Int)) = some q := hq
    cases hq
    exact ⟨_, x_vs_get 9 (by decide), by show (-1099511627776 : Int) ≤ 16000 - x_a L xs 1; omega, by show 16000 - x_a L xs 1 ≤ (1099511627776 : Int); omega⟩
  | 10, hq =>
    have hq : some ((-1099511627776 : Int), (1099511627776 : Int)) = some q := hq
    cases hq
    exact ⟨_, x_vs_get 10 (by decide), by show (-1099511627776 : Int) ≤ x_a L xs 1 + x_a L xs 4; omega, by show x_a L xs 1 + x_a L xs 4 ≤ (1099511627776 : Int); omega⟩
  | 11, hq =>
    have hq : some ((-1099511627776 : Int), (1099511627776 : Int)) = some q := hq
    cases hq
    exact ⟨_, x_vs_get 11 (by decide), by show (-1099511627776 : Int) ≤ x_a L xs 1 - x_a L xs 4; omega, by show x_a L xs 1 - x_a L xs 4 ≤ (1099511627776 : Int); omega⟩
  | 12, hq =>
    have hq : some ((-1099511627776 : Int), (1099511627776 : Int)) = some q := hq
    cases hq
    exact ⟨_, x_vs_get 12 (by decide), by show (-1099511627776 : Int) ≤ x_a L xs 2 + x_a L xs 4; omega, by show x_a L xs 2 + x_a L xs 4 ≤ (1099511627776 : Int); omega⟩
  | 13, hq =>
    have hq : some ((-1099511627776 : Int), (1099511627776 : Int)) = some q := hq
    cases hq
    exact ⟨_, x_vs_get 13 (by decide), by show (-1099511627776 : Int) ≤ x_a L xs 2 - x_a L xs 4; omega, by show x_a L xs 2 - x_a L xs 4 ≤ (1099511627776 : Int); omega⟩
  | 14, hq =>
    have hq : some ((-1099511627776 : Int), (1099511627776 : Int)) = some q := hq
    cases hq
    exact ⟨_, x_vs_get 14 (by decide), by show (-1099511627776 : Int) ≤ 16000 - x_a L xs 2; omega, by show 16000 - x_a L xs 2 ≤ (1099511627776 : Int); omega⟩
  | 15, hq =>
    have hq : some ((0 : Int), (6 : Int)) = some q := hq
    cases hq
    exact ⟨_, x_vs_get 15 (by decide), by show (0 : Int) ≤ (L : Int); omega, by show (L : Int) ≤ (6 : Int); omega⟩
  | 16, hq =>
    have hq : some ((-6 : Int), (0 : Int)) = some q := hq
    cases hq
    exact ⟨_, x_vs_get 16 (by decide), by show (-6 : Int) ≤ (L : Int) - 6; omega, by show (L : Int) - 6 ≤ (0 : Int); omega⟩
  | 17, hq =>
    have hq : some ((-1099511627776 : Int), (1099511627776 : Int)) = some q := hq
    cases hq
    exact ⟨_, x_vs_get 17 (by decide), by show (-1099511627776 : Int) ≤ 0; omega, by show 0 ≤ (1099511627776 : Int); omega⟩
  | 18, hq =>
    have hq : some ((-1099511627776 : Int), (1099511627776 : Int)) = some q := hq
    cases hq
    exact ⟨_, x_vs_get 18 (by decide), by show (-1099511627776 : Int) ≤ 0; omega, by show 0 ≤ (1099511627776 : Int); omega⟩
  | 19, hq =>
    have hq : some ((-1099511627776 : Int), (1099511627776 : Int)) = some q := hq
    cases hq
    exact ⟨_, x_vs_get 19 (by decide), by show (-1099511627776 : Int) ≤ 0; omega, by show 0 ≤ (1099511627776 : Int); omega⟩
  | 20, hq =>
    have hq : some ((-1099511627776 : Int), (1099511627776 : Int)) = some q := hq
    cases hq
    exact ⟨_, x_vs_get 20 (by decide), by show (-1099511627776 : Int) ≤ 0; omega, by show 0 ≤ (1099511627776 : Int); omega⟩
  | 21, hq =>
    have hq : some ((-1099511627776 : Int), (1099511627776 : Int)) = some q := hq
    cases hq
    exact ⟨_, x_vs_get 21 (by decide), by show (-1099511627776 : Int) ≤ 1; omega, by show 1 ≤ (1099511627776 : Int); omega⟩
  | 22, hq =>
    have hq : some ((-1099511627776 : Int), (1099511627776 : Int)) = some q := hq
    cases hq
    exact ⟨_, x_vs_get 22 (by decide), by show (-1099511627776 : Int) ≤ 0; omega, by show 0 ≤ (1099511627776 : Int); omega⟩
  | 23, hq =>
    have hq : some ((-1099511627776 : Int), (1099511627776 : Int)) = some q := hq
    cases hq
    exact ⟨_, x_vs_get 23 (by decide), by show (-1099511627776 : Int) ≤ 1; omega, by show 1 ≤ (1099511627776 : Int); omega⟩
  | 24, hq =>
    have hq : some ((-1099511627776 : Int), (1099511627776 : Int)) = some q := hq
    cases hq
    exact ⟨_, x_vs_get 24 (by decide), by show (-1099511627776 : Int) ≤ 0; omega, by show 0 ≤ (1099511627776 : Int); omega⟩
  | 25, hq =>
    have hq : some ((-1099511627776 : Int), (1099511627776 : Int)) = some q := hq
    cases hq
    exact ⟨_, x_vs_get 25 (by decide), by show (-1099511627776 : Int) ≤ 1; omega, by show 1 ≤ (1099511627776 : Int); omega⟩
  | 26, hq =>
    have hq : some ((-1099511627776 : Int), (1099511627776 : Int)) = some q := hq
    cases hq
    exact ⟨_, x_vs_get 26 (by decide), by show (-1099511627776 : Int) ≤ 0; omega, by show 0 ≤ (1099511627776 : Int); omega⟩
  | 27, hq =>
    have hq : some ((-1099511627776 : Int), (1099511627776 : Int)) = some q := hq
    cases hq
    exact ⟨_, x_vs_get 27 (by decide), by show (-1099511627776 : Int) ≤ 1; omega, by show 1 ≤ (1099511627776 : Int); omega⟩
  | 28, hq =>
    have hq : some ((-1099511627776 : Int), (1099511627776 : Int)) = some q := hq
    cases hq
    exact ⟨_, x_vs_get 28 (by decide), by show (-1099511627776 : Int) ≤ 0; omega, by show 0 ≤ (1099511627776 : Int); omega⟩
  | 29, hq =>
    have hq : some ((-1099511627776 : Int), (1099511627776 : Int)) = some q := hq
    cases hq
    exact ⟨_, x_vs_get 29 (by decide), by show (-1099511627776 : Int) ≤ 1; omega, by show 1 ≤ (1099511627776 : Int); omega⟩
  | 30, hq =>
    have hq : some ((-1099511627776 : Int), (1099511627776 : Int)) = some q := hq
    cases hq
    exact ⟨_, x_vs_get 30 (by decide), by show (-1099511627776 : Int) ≤ 0; omega, by show 0 ≤ (1099511627776 : Int); omega⟩
  | 31, hq =>
    have hq : some ((-1099511627776 : Int), (1099511627776 : Int)) = some q := hq
    cases hq
    exact ⟨_, x_vs_get 31 (by decide), by show (-1099511627776 : Int) ≤ 1; omega, by show 1 ≤ (1099511627776 : Int); omega⟩
  | j + 32, hq =>
    have h1 := (List.getElem?_eq_some_iff.mp hq).1
    have h2 : s_0.2.2.2.2.1.length = 32 := rfl
    omega

section X20
variable {V : List Int} {sc : Nat × Nat × List Nat} {p : Program} {l : Launch} {e : Env} {R : Room} {s : State} {m : MethodId} {args : Array Value} {below : List Frame} {meth : Method} {c : Code} {D : va_G} {A : Nat → Prop} {H0 : Heap} {Q : State → Prop}
theorem x_ends_ok {sp : Nat × Nat} {t : xS} {us : List xS} {n d : Nat} (h : x_ends (x_go 1 x_code0 x_lp xJ n d 0 sp t) us = true) (hl : ∀ u ∈ us, u.2.2.2.2.1.length = 32)
    (C : x_Cx (xm_b (xJ 0)) (xm_y (xJ 0)).cls (xm_l (xJ 0)) (xm_y (xJ 0)).name (xm_c (xJ 0)) (xm_s (xJ 0)) p R s m args meth c) (hd : d ≤ R.frames) (hdl : 64 * d ≤ R.locals) (hA : ∀ q : Nat, H0.size ≤ q → A q) (hK : x_KK (fun _ => True) 0 R s A H0 V sc)
    (hus : ∀ u ∈ us, x_Good cls V sc (xm_l (xJ 0)) p l e R s m args below meth c D A H0 Q u) : x_Good cls V sc (xm_l (xJ 0)) p l e R s m args below meth c D A H0 Q t := by
  unfold x_ends at h
  split at h
  · rename_i rs hrs
    refine x_frm x_tab0 n d 0 sp t rs hrs C hd hdl hA hK hK (fun t' ht' => ?_)
    have h1 := List.all_eq_true.mp h t' ht'
    simp only [List.any_eq_true] at h1
    obtain ⟨u, hu, hle⟩ := h1
    intro ls stk H locs hI
    refine x_le_W hle (hus u hu ls stk H locs (x_le_ok x_off.refl hle (fun _ z => absurd rfl z) (fun _ z => absurd rfl z) (fun j q hj hq => ?_) hI))
    have := (List.getElem?_eq_some_iff.mp hq).1
    rw [hl u hu] at this
    omega
  · cases h
end X20
/-! what stood before the law began -/
def nN : List Cond := flatC (Jvm.Cond.and given_1 narrow_1)
def arrC (tm : Term) : Nat → List Int32 → List Cond
  | _, [] => []
  | j, x :: r => Cond.eq (.elem tm (.int (Int32.ofNat j))) (.int x) :: arrC tm (j + 1) r
theorem arrC_mem {tm : Term} : ∀ (l : List Int32) (j k : Nat), k < l.length → Cond.eq (.elem tm (.int (Int32.ofNat (j + k)))) (.int (l.getD k 0)) ∈ arrC tm j l
  | [], j, k, h => absurd h (Nat.not_lt_zero _)
  | x :: r, j, 0, _ => List.mem_cons_self
  | x :: r, j, k + 1, h => List.mem_cons_of_mem _ (by
    have q := arrC_mem (tm := tm) r (j + 1) k (Nat.lt_of_succ_lt_succ h)
    rw [show j + 1 + k = j + (k + 1) by omega] at q
    exact q)
set_option maxRecDepth 100000 in
theorem nS1 : (flatC narrow_1_1).drop 5 = arrC (.static "RobotCellHouse" "SINES" "[I") 0 (e_sin.take 395) := rfl
set_option maxRecDepth 100000 in
theorem nS2 : flatC narrow_1_2 = arrC (.static "RobotCellHouse" "SINES" "[I") 395 ((e_sin.drop 395).take 400) := rfl
set_option maxRecDepth 100000 in
theorem nS3 : (flatC narrow_1_3).take 230 = arrC (.static "RobotCellHouse" "SINES" "[I") 795 (e_sin.drop 795) := rfl
set_option maxRecDepth 100000 in
theorem nK1 : (flatC narrow_1_3).drop 239 = arrC (.field (.string "RobotCellHouse$Reader" 106) "java/lang/String" "value" "[B") 0 (e_key.take 161) := rfl
set_option maxRecDepth 100000 in
theorem nK2 : (flatC narrow_1_4).take 10 = arrC (.field (.string "RobotCellHouse$Reader" 106) "java/lang/String" "value" "[B") 161 (e_key.drop 161) := rfl
set_option maxRecDepth 100000 in
theorem nG1 : ((flatC narrow_1_4).drop 14).take 13 = arrC (.field (.string "RobotCellHouse$Reader" 135) "java/lang/String" "value" "[B") 0 e_sgn := rfl
theorem nN_in : ∀ c, (c ∈ flatC narrow_1_1 ∨ c ∈ flatC narrow_1_2 ∨ c ∈ flatC narrow_1_3 ∨ c ∈ flatC narrow_1_4) → c ∈ nN := fun c h => by
  show c ∈ flatC given_1 ++ ((flatC narrow_1_1 ++ flatC narrow_1_2) ++ (flatC narrow_1_3 ++ flatC narrow_1_4))
  rw [List.mem_append, List.mem_append, List.mem_append, List.mem_append]
  rcases h with h | h | h | h
  · exact Or.inr (Or.inl (Or.inl h))
  · exact Or.inr (Or.inl (Or.inr h))
  · exact Or.inr (Or.inr (Or.inl h))
  · exact Or.inr (Or.inr (Or.inr h))
theorem e_sin_len : e_sin.length = 1025 := by decide +kernel
theorem e_key_len : e_key.length = 171 := by decide +kernel
theorem e_sgn_len : e_sgn.length = 13 := by decide +kernel
theorem nN_sin {j : Nat} (hj : j < 1025) : Cond.eq (.elem (.static "RobotCellHouse" "SINES" "[I") (.int (Int32.ofNat j))) (.int (e_sin.getD j 0)) ∈ nN := by
  have hl := e_sin_len
  by_cases h1 : j < 395
  · refine nN_in _ (Or.inl (List.mem_of_mem_drop (i := 5) ?_))
    rw [nS1]
    have q := arrC_mem (tm := .static "RobotCellHouse" "SINES" "[I") (e_sin.take 395) 0 j (by rw [List.length_take]; omega)
    rw [Nat.zero_add, List.getD_eq_getElem?_getD, List.getElem?_take_of_lt h1, ← List.getD_eq_getElem?_getD] at q
    exact q
  · by_cases h2 : j < 795
    · refine nN_in _ (Or.inr (Or.inl ?_))
      rw [nS2]
      have q := arrC_mem (tm := .static "RobotCellHouse" "SINES" "[I") ((e_sin.drop 395).take 400) 395 (j - 395) (by rw [List.length_take, List.length_drop]; omega)
      rw [show 395 + (j - 395) = j by omega, List.getD_eq_getElem?_getD, List.getElem?_take_of_lt (by omega), List.getElem?_drop, show 395 + (j - 395) = j by omega, ← List.getD_eq_getElem?_getD] at q
      exact q
    · refine nN_in _ (Or.inr (Or.inr (Or.inl (List.mem_of_mem_take (i := 230) ?_))))
      rw [nS3]
      have q := arrC_mem (tm := .static "RobotCellHouse" "SINES" "[I") (e_sin.drop 795) 795 (j - 795) (by rw [List.length_drop]; omega)
      rw [show 795 + (j - 795) = j by omega, List.getD_eq_getElem?_getD, List.getElem?_drop, show 795 + (j - 795) = j by omega, ← List.getD_eq_getElem?_getD] at q
      exact q
theorem nN_key {j : Nat} (hj : j < 171) : Cond.eq (.elem (.field (.string "RobotCellHouse$Reader" 106) "java/lang/String" "value" "[B") (.int (Int32.ofNat j))) (.int (e_key.getD j 0)) ∈ nN := by
  have hl := e_key_len
  by_cases h1 : j < 161
  · refine nN_in _ (Or.inr (Or.inr (Or.inl (List.mem_of_mem_drop (i := 239) ?_))))
    rw [nK1]
    have q := arrC_mem (tm := .field (.string "RobotCellHouse$Reader" 106) "java/lang/String" "value" "[B") (e_key.take 161) 0 j (by rw [List.length_take]; omega)
    rw [Nat.zero_add, List.getD_eq_getElem?_getD, List.getElem?_take_of_lt h1, ← List.getD_eq_getElem?_getD] at q
    exact q
  · refine nN_in _ (Or.inr (Or.inr (Or.inr (List.mem_of_mem_take (i := 10) ?_))))
    rw [nK2]
    have q := arrC_mem (tm := .field (.string "RobotCellHouse$Reader" 106) "java/lang/String" "value" "[B") (e_key.drop 161) 161 (j - 161) (by rw [List.length_drop]; omega)
    rw [show 161 + (j - 161) = j by omega, List.getD_eq_getElem?_getD, List.getElem?_drop, show 161 + (j - 161) = j by omega, ← List.getD_eq_getElem?_getD] at q
    exact q
theorem nN_sgn {j : Nat} (hj : j < 13) : Cond.eq (.elem (.field (.string "RobotCellHouse$Reader" 135) "java/lang/String" "value" "[B") (.int (Int32.ofNat j))) (.int (e_sgn.getD j 0)) ∈ nN := by
  refine nN_in _ (Or.inr (Or.inr (Or.inr (List.mem_of_mem_drop (i := 14) (List.mem_of_mem_take (i := 13) ?_)))))
  rw [nG1]
  have q := arrC_mem (tm := .field (.string "RobotCellHouse$Reader" 135) "java/lang/String" "value" "[B") e_sgn 0 j (by rw [e_sgn_len]; exact hj)
  rw [Nat.zero_add] at q
  exact q
theorem vk_S.two {len : List Nat} {byt : List (List Int32)} {aK aV : Nat → Nat} {A : Nat → Prop} {U : State} {H : Heap} (h : vk_S 2 len byt aK aV A U H) : vk_S 2 len byt (e_two (aK 0) (aK 1)) (e_two (aV 0) (aV 1)) A U H := by
  have e : ∀ (f : Nat → Nat) (i : Nat), i < 2 → e_two (f 0) (f 1) i = f i := fun f i hi => by
    rcases (show i = 0 ∨ i = 1 by omega) with rfl | rfl
    · rfl
    · rfl
  refine ⟨fun i hi => ?_, fun i j hi hj q => ?_⟩
  · rw [e aK i hi, e aV i hi]
    exact h.1 i hi
  · rw [e aK i hi, e aK j hj] at q
    exact h.2 i j hi hj q
set_option maxRecDepth 100000 in
theorem old_of {b : Nat} {s : State} {A : Nat → Prop} (ht : ∀ w ∈ tables_1, w.before #[Value.ref b] s = true) (hgv : (Jvm.Cond.and given_1 narrow_1).before #[Value.ref b] s = true) (hA : ∀ a : Nat, a < s.heap.size → ¬ A a) : ∃ aK aS aN bK bS : Nat, ∀ (pre post : List Nat), pre.length = 357 → e_Old (pre ++ (aK :: aS :: aN :: bK :: bS :: post)) A s s.heap := by
  have hs : ∀ c ∈ nN, c.before #[Value.ref b] s = true := flat_of_before _ hgv
  obtain ⟨aK, aV, hS, hev⟩ := vk_Sof (args := #[Value.ref b]) (s := s) (N := 2) (tm := fun i => if i = 0 then .string "RobotCellHouse$Reader" 106 else .string "RobotCellHouse$Reader" 135) (len := [171, 13]) (byt := [e_key, e_sgn]) (A := A)
    (fun i hi => by rcases (show i = 0 ∨ i = 1 by omega) with rfl | rfl <;> decide)
    (fun i hi => by
      rcases (show i = 0 ∨ i = 1 by omega) with rfl | rfl
      · exact hs (Cond.exactly (.string "RobotCellHouse$Reader" 106) "java/lang/String") (List.mem_of_getElem? (i := 1037) (by decide +kernel))
      · exact hs (Cond.exactly (.string "RobotCellHouse$Reader" 135) "java/lang/String") (List.mem_of_getElem? (i := 1212) (by decide +kernel)))
    (fun i hi => by
      rcases (show i = 0 ∨ i = 1 by omega) with rfl | rfl
      · exact hs (Cond.eq (.field (.string "RobotCellHouse$Reader" 106) "java/lang/String" "coder" "B") (.int 0)) (List.mem_of_getElem? (i := 1038) (by decide +kernel))
      · exact hs (Cond.eq (.field (.string "RobotCellHouse$Reader" 135) "java/lang/String" "coder" "B") (.int 0)) (List.mem_of_getElem? (i := 1213) (by decide +kernel)))
    (fun i hi => by
      rcases (show i = 0 ∨ i = 1 by omega) with rfl | rfl
      · exact hs (Cond.arrayOf (.field (.string "RobotCellHouse$Reader" 106) "java/lang/String" "value" "[B") .byte) (List.mem_of_getElem? (i := 1039) (by decide +kernel))
      · exact hs (Cond.arrayOf (.field (.string "RobotCellHouse$Reader" 135) "java/lang/String" "value" "[B") .byte) (List.mem_of_getElem? (i := 1214) (by decide +kernel)))
    (fun i hi => by
      rcases (show i = 0 ∨ i = 1 by omega) with rfl | rfl
      · exact hs (Cond.eq (.length (.field (.string "RobotCellHouse$Reader" 106) "java/lang/String" "value" "[B")) (.int 171)) (List.mem_of_getElem? (i := 1040) (by decide +kernel))
      · exact hs (Cond.eq (.length (.field (.string "RobotCellHouse$Reader" 135) "java/lang/String" "value" "[B")) (.int 13)) (List.mem_of_getElem? (i := 1215) (by decide +kernel)))
    (fun i hi j hj => by
      rcases (show i = 0 ∨ i = 1 by omega) with rfl | rfl
      · exact hs _ (nN_key hj)
      · exact hs _ (nN_sgn hj))
    (fun i j hi hj hij => by
      have q := hs (Cond.not (Cond.eq (.string "RobotCellHouse$Reader" 106) (.string "RobotCellHouse$Reader" 135))) (List.mem_of_getElem? (i := 1229) (by decide +kernel))
      rcases (show i = 0 ∨ i = 1 by omega) with rfl | rfl
      · rcases (show j = 0 ∨ j = 1 by omega) with rfl | rfl
        · exact absurd rfl hij
        · exact Or.inl q
      · rcases (show j = 0 ∨ j = 1 by omega) with rfl | rfl
        · exact Or.inr q
        · exact absurd rfl hij)
    hA
  have e0 : (Term.string "RobotCellHouse$Reader" 106).eval #[Value.ref b] s none [] s = some (.ref (aK 0)) := hev 0 (by decide)
  have e1 : (Term.string "RobotCellHouse$Reader" 135).eval #[Value.ref b] s none [] s = some (.ref (aK 1)) := hev 1 (by decide)
  have e2 : (Term.string "RobotCellHouseModel" 515).eval #[Value.ref b] s none [] s = some (.ref (aK 0)) := va_eqR (hs (Cond.eq (.string "RobotCellHouse$Reader" 106) (.string "RobotCellHouseModel" 515)) (List.mem_of_getElem? (i := 1405) (by decide +kernel))) e0
  obtain ⟨aN, hN1, hN2⟩ := va_Tof (args := #[Value.ref b]) (s := s) (tm := .static "RobotCellHouse" "SINES" "[I") (ty := .int) (N := 1025) (f := fun j => .int (e_sin.getD j 0)) (A := A) (by decide) (hs (Cond.arrayOf (.static "RobotCellHouse" "SINES" "[I") .int) (List.mem_of_getElem? (i := 5) (by decide +kernel)))
    (va_eqt (hs (Cond.eq (.length (.static "RobotCellHouse" "SINES" "[I")) (.int 1025)) (List.mem_of_getElem? (i := 6) (by decide +kernel)))) (fun j hj => va_eqt (hs _ (nN_sin hj))) hA
  have hZ := va_Zref (A := A) (ht (Cond.laysStatic "RobotCellHouse" "SINES" "[I") (by decide +kernel)) (ht (Cond.initialized "RobotCellHouse") (by decide +kernel)) hN1 hA
  have hC := va_Zof (A := A) (ht (Cond.laysStatic "java/lang/String" "COMPACT_STRINGS" "Z") (by decide +kernel)) (ht (Cond.initialized "java/lang/String") (by decide +kernel)) (va_eqi (hs (Cond.eq (.static "java/lang/String" "COMPACT_STRINGS" "Z") (.int 1)) (List.mem_of_getElem? (i := 1032) (by decide +kernel)))) hA
  have hF := va_Zqof (A := A) (ht (Cond.laysStatic "jdk/internal/util/Preconditions" "SIOOBE_FORMATTER" "Ljava/util/function/BiFunction;") (by decide +kernel)) (ht (Cond.initialized "jdk/internal/util/Preconditions") (by decide +kernel)) (hs (Cond.isRef (.static "jdk/internal/util/Preconditions" "SIOOBE_FORMATTER" "Ljava/util/function/BiFunction;")) (List.mem_of_getElem? (i := 1033) (by decide +kernel))) hA
  refine ⟨aK 0, aK 1, aN, aV 0, aV 1, fun pre post hp => ⟨aK 0, aK 1, aN, aV 0, aV 1, ⟨?_, ?_, ?_, ?_, ?_⟩, ⟨vk_R.of (ht (Cond.stringRef "RobotCellHouse$Reader" 106 e_kt) (by decide +kernel)) e0, vk_R.of (ht (Cond.stringRef "RobotCellHouse$Reader" 135 e_st2) (by decide +kernel)) e1, vk_R.of (ht (Cond.stringRef "RobotCellHouseModel" 515 e_kt) (by decide +kernel)) e2⟩, hS.two, hZ, hN2, hC, ?_⟩⟩
  · rw [List.getElem?_append_right (by omega), hp]; rfl
  · rw [List.getElem?_append_right (by omega), hp]; rfl
  · rw [List.getElem?_append_right (by omega), hp]; rfl
  · rw [List.getElem?_append_right (by omega), hp]; rfl
  · rw [List.getElem?_append_right (by omega), hp]; rfl
  · rcases hF with hF | ⟨t, hF⟩
    · exact ⟨.null, Or.inl rfl, hF⟩
    · exact ⟨.ref t, Or.inr ⟨t, rfl⟩, hF⟩
end
