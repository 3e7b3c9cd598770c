noncomputable section
/-! more of what the interpreter does: a token by its values, three ways, the script, sums of tokens, counting -/
section X12c
variable {cl : List vw_C} {K : xKx} {cc : ByteArray} {own : String} {nL : Nat} {nm : String} {MC MS pc nx tg : Nat}
def x_tks (t : xS) (j : Nat) (q : Int × Int) : xS := (t.1, t.2.1, t.2.2.1, t.2.2.2.1, t.2.2.2.2.1.set j q, t.2.2.2.2.2)
theorem x_tks_in {V : List Int} {sc : Nat × Nat × List Nat} {s : State} {D : va_G} {A : Nat → Prop} {H0 : Heap} {t : xS} {ls : Array Slot} {stk : List Value} {H : Heap} {locs : List Loc} {j : Nat} {q : Int × Int} {z : Int} (hI : x_In cl V sc nL s D A H0 t ls stk H locs) (hv : V[j]? = some z) (h1 : q.1 ≤ z) (h2 : z ≤ q.2) : x_In cl V sc nL s D A H0 (x_tks t j q) ls stk H locs := by
  obtain ⟨lv, ws, tys, k1, k2, k3, k4, k5, k6, k7, k8, k9⟩ := hI
  exact ⟨lv, ws, tys, k1, k2, k3, k4, k5, k6, k7, k8, x_tk_set k9 hv h1 h2⟩
theorem x_In_tk {V : List Int} {sc : Nat × Nat × List Nat} {s : State} {D : va_G} {A : Nat → Prop} {H0 : Heap} {t : xS} {ls : Array Slot} {stk : List Value} {H : Heap} {locs : List Loc} (hI : x_In cl V sc nL s D A H0 t ls stk H locs) : x_tk t.2.2.2.2.1 V := by
  obtain ⟨lv, ws, tys, k1, k2, k3, k4, k5, k6, k7, k8, k9⟩ := hI
  exact k9
/-- a token's values one by one -/
def x_splL (j : Nat) (f : xS → Option (List xS)) (t : xS) (lo : Int) : Nat → Option (List xS)
  | 0 => some []
  | n + 1 => match f (x_tks t j (lo + n, lo + n)) with
    | some a => match x_splL j f t lo n with
      | some b => some (a ++ b)
      | none => none
    | none => none
theorem x_splL_in {j : Nat} {f : xS → Option (List xS)} {t : xS} {lo : Int} : ∀ {n : Nat} {ts : List xS}, x_splL j f t lo n = some ts → ∀ i, i < n → ∃ a, f (x_tks t j (lo + i, lo + i)) = some a ∧ ∀ x ∈ a, x ∈ ts
  | 0, _, _, i, hi => by omega
  | n + 1, ts, h, i, hi => by
    unfold x_splL at h
    split at h
    · rename_i a ha
      split at h
      · rename_i b hb
        cases h
        by_cases e : i = n
        · subst e
          exact ⟨a, ha, fun x hx => List.mem_append_left _ hx⟩
        · obtain ⟨a', h1, h2⟩ := x_splL_in hb i (by omega)
          exact ⟨a', h1, fun x hx => List.mem_append_right _ (h2 x hx)⟩
      · cases h
    · cases h
/-- the same, checked as it runs -/
def xi_splC (j : Nat) (f : xS → Option (List xS)) : xS → Option (List xS) := fun t => match t.2.2.2.2.1[j]? with
  | some q => bif decide (q.2 ≤ q.1 + 100) then x_splL j f t q.1 (q.2 + 1 - q.1).toNat else none
  | none => none
theorem xi_splC_ok {j : Nat} {f : xS → Option (List xS)} (hw : x_Snd cl K cc own nL nm MC MS pc f) : x_Snd cl K cc own nL nm MC MS pc (xi_splC j f) := by
  intro V sc p l e R s m args below meth c D A H0 Q C hA hK t ts hpc hf hg
  unfold xi_splC at hf
  split at hf
  · rename_i q hq
    cases hb : decide (q.2 ≤ q.1 + 100) with
    | false => rw [hb] at hf; cases hf
    | true =>
      rw [hb] at hf
      simp only [cond_true] at hf
      intro ls stk H locs hI
      obtain ⟨z, z1, z2, z3⟩ := x_In_tk hI j q hq
      obtain ⟨a, ha, hin⟩ := x_splL_in hf (z - q.1).toNat (by omega)
      have ez : q.1 + ((z - q.1).toNat : Int) = z := by omega
      rw [ez] at ha
      exact hw C hA hK (x_tks t j (z, z)) a hpc ha (fun t' h' => hg t' (hin t' h')) ls stk H locs (x_tks_in hI z1 (Int.le_refl z) (Int.le_refl z))
  · cases hf
/-- one of two, by a test -/
def xi_or (b : xS → Bool) (f g : xS → Option (List xS)) : xS → Option (List xS) := fun t => bif b t then f t else g t
theorem xi_or_ok {b : xS → Bool} {f g : xS → Option (List xS)} (hf : x_Snd cl K cc own nL nm MC MS pc f) (hg : x_Snd cl K cc own nL nm MC MS pc g) : x_Snd cl K cc own nL nm MC MS pc (xi_or b f g) := by
  intro V sc p l e R s m args below meth c D A H0 Q C hA hK t ts hpc h hh
  unfold xi_or at h
  cases hb : b t with
  | true => rw [hb] at h; exact hf C hA hK t ts hpc h hh
  | false => rw [hb] at h; exact hg C hA hK t ts hpc h hh
/-- less, equal, greater: each its way -/
def xi_if3 (ne lt gt : Nat) : xS → Option (List xS) := fun t => match t.2.2.1 with
  | y :: x :: r => match x_bi t.2.2.2.2.1 x, x_bi t.2.2.2.2.1 y with
    | some a, some b => some (x_way 0 a b t x y r ne ++ (x_way 2 a b t x y r lt ++ x_way 4 a b t x y r gt))
    | _, _ => none
  | _ => none
theorem xi_if3_ok {e0 e2 : Nat} (hw : ∀ {p : Program} {l : Launch} {e : Env} {R : Room} {s : State} {m : MethodId} {args : Array Value} {below : List Frame} {meth : Method} {c : Code}, CallFix p m c cc nL s args x_tbl own → ∀ {H : Heap} {locs : List Loc} {cells slots : Nat} {Q : State → Prop} {ls : Array Slot} {rest : List Value} {x y : Int32},
    (x.toInt = y.toInt → W p l e R s m args below meth c H locs cells slots Q (F0 m e0 ls rest)) → (x.toInt ≠ y.toInt → W p l e R s m args below meth c H locs cells slots Q (F0 m e2 ls rest)) → W p l e R s m args below meth c H locs cells slots Q (F0 m pc ls (.int y :: .int x :: rest))) : x_Snd cl K cc own nL nm MC MS pc (xi_if3 e0 e2 e2) := by
  intro V sc p l e R s m args below meth c D A H0 Q C hA hK t ts hpc hf hg
  unfold xi_if3 at hf
  split at hf
  · rename_i y x r hst
    split at hf
    · rename_i a b ha hb
      cases hf
      subst hpc
      intro ls stk H locs ⟨lv, ws, tys, h1, h2, h3, h4, h5, h6, h7, h8, h9⟩
      rw [hst] at h3
      match stk, h3 with
      | v1 :: v2 :: rest, h3 =>
        obtain ⟨ny, rfl, y1, y2⟩ := x_bi_ok h9 hb h3.1
        obtain ⟨nx', rfl, x1, x2⟩ := x_bi_ok h9 ha h3.2.1
        refine hw C.1 (fun hc => ?_) (fun hc => ?_)
        · have hc : x_cnd 0 nx'.toInt ny.toInt := hc
          obtain ⟨⟨g1, g2⟩, g3, g4⟩ := x_nar_ok ⟨x1, x2⟩ ⟨y1, y2⟩ hc
          exact hg _ (List.mem_append_left _ (x_way_in (x_may_ok ⟨x1, x2⟩ ⟨y1, y2⟩ hc))) ls rest H locs ⟨lv, ws, tys, h1, h2, h3.2.2, h4, h5, h6, h7, h8, x_setb_i (x_setb_i h9 h3.2.1 g1 g2) h3.1 g3 g4⟩
        · rcases Int.lt_or_gt_of_ne hc with hc | hc
          · have hc : x_cnd 2 nx'.toInt ny.toInt := hc
            obtain ⟨⟨g1, g2⟩, g3, g4⟩ := x_nar_ok ⟨x1, x2⟩ ⟨y1, y2⟩ hc
            exact hg _ (List.mem_append_right _ (List.mem_append_left _ (x_way_in (x_may_ok ⟨x1, x2⟩ ⟨y1, y2⟩ hc)))) ls rest H locs ⟨lv, ws, tys, h1, h2, h3.2.2, h4, h5, h6, h7, h8, x_setb_i (x_setb_i h9 h3.2.1 g1 g2) h3.1 g3 g4⟩
          · have hc : x_cnd 4 nx'.toInt ny.toInt := hc
            obtain ⟨⟨g1, g2⟩, g3, g4⟩ := x_nar_ok ⟨x1, x2⟩ ⟨y1, y2⟩ hc
            exact hg _ (List.mem_append_right _ (List.mem_append_right _ (x_way_in (x_may_ok ⟨x1, x2⟩ ⟨y1, y2⟩ hc)))) ls rest H locs ⟨lv, ws, tys, h1, h2, h3.2.2, h4, h5, h6, h7, h8, x_setb_i (x_setb_i h9 h3.2.1 g1 g2) h3.1 g3 g4⟩
    · cases hf
  · cases hf
theorem xr_3eq {off : Int} (d : decode cc pc = .ok (.if_icmp .eq off, 3)) (ht : (pc : Int) + off = (tg : Int)) : x_Snd cl K cc own nL nm MC MS pc (xi_if3 tg (pc + 3) (pc + 3)) := xi_if3_ok (fun S => fun kt kf => lv_icmp_eq S.1 S.2.1 d ht (fun h => kt (x_eq32.mp h)) (fun h => kf (fun q => h (x_eq32.mpr q))))
theorem xr_3ne {off : Int} (d : decode cc pc = .ok (.if_icmp .ne off, 3)) (ht : (pc : Int) + off = (tg : Int)) : x_Snd cl K cc own nL nm MC MS pc (xi_if3 (pc + 3) tg tg) := xi_if3_ok (fun S => fun kt kf => lv_icmp_ne S.1 S.2.1 d ht (fun h => kf (fun q => h (x_eq32.mpr q))) (fun h => kt (x_eq32.mp h)))
/-- a rest of 0, 1, 2 or 3 by 2 -/
def xF_rem (a b : Int × Int) : Option xV := bif decide (a.1 = a.2) && (decide (0 ≤ a.1) && (decide (a.1 ≤ 3) && (decide (b.1 = 2) && decide (b.2 = 2)))) then some (0, a.1 % 2, a.1 % 2) else none
theorem xr_irem (d : decode cc pc = .ok (.irem, 1)) : x_Snd cl K cc own nL nm MC MS pc (xi_bin xF_rem (pc + 1)) := xi_bin_ok (g := fun x y => x - x / y * y) (fun y => ¬ y = 0) (fun x y hy => (fun S => fun k => lv_irem S.1 S.2.1 d hy k)) (fun a b z x y h h1 h2 h3 h4 => by
  unfold xF_rem at h
  cases hb : (decide (a.1 = a.2) && (decide (0 ≤ a.1) && (decide (a.1 ≤ 3) && (decide (b.1 = 2) && decide (b.2 = 2))))) with
  | false => rw [hb] at h; cases h
  | true =>
    rw [hb] at h
    cases h
    simp only [Bool.and_eq_true, decide_eq_true_eq] at hb
    have e : y = 2 := x_eq32.mpr (by rw [show (2 : Int32).toInt = 2 from by decide]; omega)
    subst e
    have hx : x.toInt = a.1 := by omega
    have h4 : x = 0 ∨ x = 1 ∨ x = 2 ∨ x = 3 := by
      have : a.1 = 0 ∨ a.1 = 1 ∨ a.1 = 2 ∨ a.1 = 3 := by omega
      rcases this with q | q | q | q
      · exact Or.inl (x_eq32.mpr (by rw [hx, q]; decide))
      · exact Or.inr (Or.inl (x_eq32.mpr (by rw [hx, q]; decide)))
      · exact Or.inr (Or.inr (Or.inl (x_eq32.mpr (by rw [hx, q]; decide))))
      · exact Or.inr (Or.inr (Or.inr (x_eq32.mpr (by rw [hx, q]; decide))))
    refine ⟨by decide, fun ad V sc => ⟨_, rfl, ?_⟩⟩
    rw [← hx]
    rcases h4 with rfl | rfl | rfl | rfl <;> decide)
-- longs: shifts, masks, quotients
theorem x_shr64 (a s : Int64) (k : Nat) (hs : (s.toBitVec.smod 64).toNat = k) : (a >>> s).toInt = a.toInt >>> k := by
  show (a.toBitVec.sshiftRight (s.toBitVec.smod 64).toNat).toInt = _
  rw [hs, BitVec.toInt_sshiftRight]
  rfl
def x_shn (z : Int) : Bool := decide (z = 11) || (decide (z = 30) || decide (z = 40))
def xF_shrL (a b : Int × Int) : Option xV := bif decide (b.1 = b.2) && x_shn b.1 then some (4, a.1 / 2 ^ b.1.toNat, a.2 / 2 ^ b.1.toNat) else none
theorem x_shrI {x : Int64} {a : Int × Int} (k : Nat) (h1 : a.1 ≤ x.toInt) (h2 : x.toInt ≤ a.2) : a.1 / 2 ^ k ≤ x.toInt >>> k ∧ x.toInt >>> k ≤ a.2 / 2 ^ k := by
  rw [Int.shiftRight_eq_div_pow]
  have hp : (0 : Int) < ((2 ^ k : Nat) : Int) := by exact_mod_cast Nat.two_pow_pos k
  have e : ((2 ^ k : Nat) : Int) = 2 ^ k := by simp
  rw [e] at hp ⊢
  exact ⟨Int.ediv_le_ediv hp h1, Int.ediv_le_ediv hp h2⟩
theorem xr_lshr (d : decode cc pc = .ok (.lshr, 1)) : x_Snd cl K cc own nL nm MC MS pc (xi_shL xF_shrL (pc + 1)) := xi_shL_ok (g := fun x y => x >>> (y.toInt64 &&& 63)) (fun x y => (fun S => fun k => lv_lshr S.1 S.2.1 d rfl k)) (fun a b z x y h h1 h2 h3 h4 ad V sc => by
  unfold xF_shrL at h
  cases hb : (decide (b.1 = b.2) && x_shn b.1) with
  | false => rw [hb] at h; cases h
  | true =>
    rw [hb] at h
    cases h
    unfold x_shn at hb
    simp only [Bool.and_eq_true, Bool.or_eq_true, decide_eq_true_eq] at hb
    have key : (x >>> (y.toInt64 &&& 63)).toInt = x.toInt >>> b.1.toNat := by
      rcases hb.2 with q | q | q
      · have e : y = 11 := x_eq32.mpr (by rw [show (11 : Int32).toInt = 11 from by decide]; omega)
        subst e
        rw [q]
        exact x_shr64 x _ 11 (by decide)
      · have e : y = 30 := x_eq32.mpr (by rw [show (30 : Int32).toInt = 30 from by decide]; omega)
        subst e
        rw [q]
        exact x_shr64 x _ 30 (by decide)
      · have e : y = 40 := x_eq32.mpr (by rw [show (40 : Int32).toInt = 40 from by decide]; omega)
        subst e
        rw [q]
        exact x_shr64 x _ 40 (by decide)
    refine ⟨_, rfl, ?_⟩
    rw [key]
    exact x_shrI b.1.toNat h1 h2)
def xF_andL (a b : Int × Int) : Option xV := bif decide (b.1 = 1073741823) && decide (b.2 = 1073741823) then (bif decide (0 ≤ a.1) && decide (a.2 ≤ 1073741823) then some (4, a) else some (4, 0, 1073741823)) else none
theorem x_and64 (x : Int64) : ((x &&& 1073741823).toBitVec.toNat) = x.toBitVec.toNat % 2 ^ 30 := by
  rw [Int64.toBitVec_and, BitVec.toNat_and]
  rw [show (1073741823 : Int64).toBitVec.toNat = 2 ^ 30 - 1 from by decide, Nat.and_two_pow_sub_one_eq_mod]
theorem x_i64 (x : Int64) (h : x.toBitVec.toNat < 2 ^ 63) : x.toInt = x.toBitVec.toNat := by
  show x.toBitVec.toInt = _
  rw [BitVec.toInt_eq_toNat_cond, if_pos (by omega)]
theorem x_n64 (x : Int64) (h : 0 ≤ x.toInt) : (x.toBitVec.toNat : Int) = x.toInt := by
  have h2 : x.toInt = x.toBitVec.toInt := rfl
  rw [h2] at h ⊢
  rw [BitVec.toInt_eq_toNat_cond] at h ⊢
  split at h
  · rw [if_pos (by assumption)]
  · have := x.toBitVec.isLt
    omega
theorem xr_land (d : decode cc pc = .ok (.land, 1)) : x_Snd cl K cc own nL nm MC MS pc (xi_binL xF_andL (pc + 1)) := xi_binL_ok (g := fun x y => x &&& y) (fun _ => True) (fun x y _ => (fun S => fun k => lv_land S.1 S.2.1 d k)) (fun a b z x y h h1 h2 h3 h4 => ⟨trivial, fun ad V sc => by
  unfold xF_andL at h
  cases hb : (decide (b.1 = 1073741823) && decide (b.2 = 1073741823)) with
  | false => rw [hb] at h; cases h
  | true =>
    rw [hb] at h
    simp only [cond_true] at h
    simp only [Bool.and_eq_true, decide_eq_true_eq] at hb
    have e : y = 1073741823 := Int64.toInt_inj.mp (by rw [show (1073741823 : Int64).toInt = 1073741823 from by decide]; omega)
    subst e
    have hn := x_and64 x
    have hlt : x.toBitVec.toNat % 2 ^ 30 < 2 ^ 30 := Nat.mod_lt _ (by decide)
    have hi := x_i64 (x &&& 1073741823) (by rw [hn]; omega)
    rw [hn] at hi
    cases hb2 : (decide (0 ≤ a.1) && decide (a.2 ≤ 1073741823)) with
    | false =>
      rw [hb2] at h
      cases h
      exact ⟨_, rfl, by show (0 : Int) ≤ _; omega, by show _ ≤ (1073741823 : Int); omega⟩
    | true =>
      rw [hb2] at h
      cases h
      simp only [Bool.and_eq_true, decide_eq_true_eq] at hb2
      have h0 := x_n64 x (by omega)
      have hm : x.toBitVec.toNat % 2 ^ 30 = x.toBitVec.toNat := Nat.mod_eq_of_lt (by omega)
      rw [hm] at hi
      exact ⟨_, rfl, by show a.1 ≤ _; omega, by show _ ≤ a.2; omega⟩⟩)
def xF_divL (a b : Int × Int) : Option xV := bif decide (0 ≤ a.1) && (decide (1 ≤ b.1) && decide (b.1 = b.2)) then some (4, a.1 / b.1, a.2 / b.1) else none
theorem xr_ldiv (d : decode cc pc = .ok (.ldiv, 1)) : x_Snd cl K cc own nL nm MC MS pc (xi_binL xF_divL (pc + 1)) := xi_binL_ok (g := fun x y => x / y) (fun y => ¬ y = 0) (fun x y hy => (fun S => fun k => lv_ldiv S.1 S.2.1 d hy k)) (fun a b z x y h h1 h2 h3 h4 => by
  unfold xF_divL at h
  cases hb : (decide (0 ≤ a.1) && (decide (1 ≤ b.1) && decide (b.1 = b.2))) with
  | false => rw [hb] at h; cases h
  | true =>
    rw [hb] at h
    cases h
    simp only [Bool.and_eq_true, decide_eq_true_eq] at hb
    have hy : y.toInt = b.1 := by omega
    refine ⟨fun e => by rw [e] at hy; have : (0 : Int64).toInt = 0 := by decide
                        omega, fun ad V sc => ⟨_, rfl, ?_⟩⟩
    have hne : y ≠ -1 := fun e => by
      rw [e] at hy
      have : (-1 : Int64).toInt = -1 := by decide
      omega
    rw [Int64.toInt_div_of_ne_right x y hne, Int.tdiv_eq_ediv_of_nonneg (by omega), hy]
    exact ⟨Int.ediv_le_ediv (by omega) h1, Int.ediv_le_ediv (by omega) h2⟩)
/-- the script: its length is the token 15, the place k is the token k -/
def x_Scr (R : Room) (s : State) (A : Nat → Prop) (H : Heap) (V : List Int) (sc : Nat × Nat × List Nat) : Prop := ∃ (L : Nat) (xs : Nat → Int32), va_X sc.1 L xs s H ∧ sc.1 < H.size ∧ ¬ A sc.1 ∧ L ≤ 6 ∧ V[15]? = some (L : Int) ∧ V[16]? = some ((L : Int) - 6) ∧ ∀ j : Nat, j < L → V[j]? = some (xs j).toInt
def xi_slen (nx : Nat) : xS → Option (List xS) := fun t => match t.2.2.1 with
  | (10, _, _) :: r => some [(nx, t.2.1, (3, 15, 0) :: r, t.2.2.2)]
  | _ => none
def xi_sld (nx : Nat) : xS → Option (List xS) := fun t => match t.2.2.1 with
  | i :: (10, _, _) :: r => match x_bi t.2.2.2.2.1 i, t.2.2.2.2.1[16]? with
    | some b, some q => bif decide (b.1 = b.2) && (decide (0 ≤ b.1) && (decide (b.1 ≤ 5) && decide (0 ≤ q.1))) then some [(nx, t.2.1, (3, b.1, 0) :: r, t.2.2.2)] else none
    | _, _ => none
  | _ => none
theorem xr_slen (hS : ∀ R s A H V sc, K R s A H V sc → x_Scr R s A H V sc) (d : decode cc pc = .ok (.arraylength, 1)) : x_Snd cl K cc own nL nm MC MS pc (xi_slen (pc + 1)) := by
  intro V sc p l e R s m args below meth c D A H0 Q C hA hK t ts hpc hf hg
  unfold xi_slen at hf
  split at hf
  · rename_i a b r hst
    cases hf
    subst hpc
    intro ls stk H locs ⟨lv, ws, tys, h1, h2, h3, h4, h5, h6, h7, h8, h9⟩
    rw [hst] at h3
    match stk, h3 with
    | v :: rest, h3 =>
      obtain ⟨rfl, -⟩ := h3.1
      obtain ⟨L, xs, g1, g2, g3, g4, g5, g6, g7⟩ := hS _ _ _ _ _ _ hK
      refine va_slen C.1.1 C.1.2.1 g1 g2 g3 h8 d (hg _ List.mem_cons_self ls (.int (Int32.ofNat L) :: rest) H locs ⟨lv, ws, tys, h1, h2, ⟨⟨_, rfl, ?_⟩, h3.2⟩, h4, h5, h6, h7, h8, h9⟩)
      show V[15]? = _
      rw [g5]
      have : (Int32.ofNat L).toInt = (L : Int) := nI_toInt (by omega)
      rw [this]
  · cases hf
theorem xr_sld (hS : ∀ R s A H V sc, K R s A H V sc → x_Scr R s A H V sc) (d : decode cc pc = .ok (.iaload, 1)) : x_Snd cl K cc own nL nm MC MS pc (xi_sld (pc + 1)) := by
  intro V sc p l e R s m args below meth c D A H0 Q C hA hK t ts hpc hf hg
  unfold xi_sld at hf
  split at hf
  · rename_i i a b r hst
    split at hf
    · rename_i ib q hib hq
      cases hb : (decide (ib.1 = ib.2) && (decide (0 ≤ ib.1) && (decide (ib.1 ≤ 5) && decide (0 ≤ q.1)))) with
      | false => rw [hb] at hf; cases hf
      | true =>
        rw [hb] at hf
        cases hf
        subst hpc
        simp only [Bool.and_eq_true, decide_eq_true_eq] at hb
        intro ls stk H locs ⟨lv, ws, tys, h1, h2, h3, h4, h5, h6, h7, h8, h9⟩
        rw [hst] at h3
        match stk, h3 with
        | v :: v' :: rest, h3 =>
          obtain ⟨ni, rfl, i1, i2⟩ := x_bi_ok h9 hib h3.1
          obtain ⟨rfl, -⟩ := h3.2.1
          obtain ⟨L, xs, g1, g2, g3, g4, g5, g6, g7⟩ := hS _ _ _ _ _ _ hK
          obtain ⟨z, z1, z2, z3⟩ := h9 16 q hq
          rw [g6] at z1
          cases z1
          have e : ni.toNatClampNeg = ib.1.toNat := by
            show ni.toInt.toNat = _
            omega
          refine va_sld C.1.1 C.1.2.1 g1 g2 g3 h8 (i := ni) (vp_in_iff.mpr ⟨by omega, by omega⟩) d (hg _ List.mem_cons_self ls (.int (xs ni.toNatClampNeg) :: rest) H locs ⟨lv, ws, tys, h1, h2, ⟨⟨_, rfl, ?_⟩, h3.2.2⟩, h4, h5, h6, h7, h8, h9⟩)
          rw [e]
          have h5' : ib.1.toNat < L := by
            have := hb.2.2.2
            omega
          exact g7 _ h5'
    · cases hf
  · cases hf
/-- two ints of which the tables of tokens know the result -/
def x_mt (tk : xT) (c : Nat) (q : Int × Int) : xT := match tk[c]? with
  | some z => tk.set c (x_max z.1 q.1, x_min z.2 q.2)
  | none => tk
theorem x_mt_ok {tk : xT} {V : List Int} {c : Nat} {q : Int × Int} {z : Int} (h : x_tk tk V) (hv : V[c]? = some z) (h1 : q.1 ≤ z) (h2 : z ≤ q.2) : x_tk (x_mt tk c q) V := by
  unfold x_mt
  split
  · rename_i w hw
    obtain ⟨n, n1, n2, n3⟩ := h c w hw
    rw [hv] at n1
    cases n1
    exact x_tk_set h hv (x_max_le n2 h1) (x_le_min n3 h2)
  · exact h
def x_r32 (q : Int × Int) : Bool := decide (-2147483648 ≤ q.1) && decide (q.2 ≤ 2147483647)
def xi_bT (px py : xV) (c : Nat) (F : Int × Int → Int × Int → Int × Int) (nx : Nat) : xS → Option (List xS) := fun t => match t.2.2.1 with
  | y :: x :: r => match x_bi t.2.2.2.2.1 x, x_bi t.2.2.2.2.1 y with
    | some a, some b => bif x_eqv x px && (x_eqv y py && x_r32 (F a b)) then some [(nx, t.2.1, (3, (c : Int), 0) :: r, t.2.2.2.1, x_mt t.2.2.2.2.1 c (F a b), t.2.2.2.2.2)] else none
    | _, _ => none
  | _ => none
theorem xi_bT_ok {px py : xV} {c : Nat} {F : Int × Int → Int × Int → Int × Int} {g : Int32 → Int32 → Int32} {G : Int → Int → Int} (hw : ∀ x y, x_Stk cc own nL pc nx [.int y, .int x] [.int (g x y)]) (hgG : ∀ x y : Int32, (g x y).toInt = (G x.toInt y.toInt).bmod 4294967296)
    (hF : ∀ (a b : Int × Int) (x y : Int), a.1 ≤ x → x ≤ a.2 → b.1 ≤ y → y ≤ b.2 → (F a b).1 ≤ G x y ∧ G x y ≤ (F a b).2) (hV : ∀ R s A H V sc, K R s A H V sc → ∀ ad (x y : Int32), x_rel ad V sc px (.int x) → x_rel ad V sc py (.int y) → V[c]? = some (G x.toInt y.toInt)) : x_Snd cl K cc own nL nm MC MS pc (xi_bT px py c F nx) := by
  intro V sc p l e R s m args below meth c D A H0 Q C hA hK t ts hpc hf hg
  unfold xi_bT at hf
  split at hf
  · rename_i y x r hst
    split at hf
    · rename_i a b ha hb
      cases hbb : (x_eqv x px && (x_eqv y py && x_r32 (F a b))) with
      | false => rw [hbb] at hf; cases hf
      | true =>
        rw [hbb] at hf
        cases hf
        simp only [Bool.and_eq_true] at hbb
        obtain ⟨q1, q2, q3⟩ := hbb
        have e1 := x_eqv_ok q1
        have e2 := x_eqv_ok q2
        subst e1
        subst e2
        unfold x_r32 at q3
        simp only [Bool.and_eq_true, decide_eq_true_eq] at q3
        subst hpc
        intro ls stk H locs ⟨lv, ws, tys, h1, h2, h3, h4, h5, h6, h7, h8, h9⟩
        rw [hst] at h3
        match stk, h3 with
        | v1 :: v2 :: rest, h3 =>
          obtain ⟨ny, rfl, y1, y2⟩ := x_bi_ok h9 hb h3.1
          obtain ⟨nx', rfl, x1, x2⟩ := x_bi_ok h9 ha h3.2.1
          obtain ⟨f1, f2⟩ := hF a b nx'.toInt ny.toInt x1 x2 y1 y2
          have hv := hV _ _ _ _ _ _ hK _ nx' ny h3.2.1 h3.1
          have eg : (g nx' ny).toInt = G nx'.toInt ny.toInt := by rw [hgG, x_bmod (by omega) (by omega)]
          exact hw nx' ny C.1 (hg _ List.mem_cons_self ls (.int (g nx' ny) :: rest) H locs ⟨lv, ws, tys, h1, h2, ⟨⟨_, rfl, by simp only [Int.toNat_natCast]; rw [eg]; exact hv⟩, h3.2.2⟩, h4, h5, h6, h7, h8, x_mt_ok h9 hv f1 f2⟩)
    · cases hf
  · cases hf
def xG_add (a b : Int × Int) : Int × Int := (a.1 + b.1, a.2 + b.2)
def xG_sub (a b : Int × Int) : Int × Int := (a.1 - b.2, a.2 - b.1)
def xG_mul (a b : Int × Int) : Int × Int := (x_min (x_min (a.1 * b.1) (a.2 * b.1)) (x_min (a.1 * b.2) (a.2 * b.2)), x_max (x_max (a.1 * b.1) (a.2 * b.1)) (x_max (a.1 * b.2) (a.2 * b.2)))
theorem xr_taddI {px py : xV} {c : Nat} (d : decode cc pc = .ok (.iadd, 1)) (hV : ∀ R s A H V sc, K R s A H V sc → ∀ ad (x y : Int32), x_rel ad V sc px (.int x) → x_rel ad V sc py (.int y) → V[c]? = some (x.toInt + y.toInt)) : x_Snd cl K cc own nL nm MC MS pc (xi_bT px py c xG_add (pc + 1)) := xi_bT_ok (g := fun x y => x + y) (G := fun x y => x + y) (fun x y => (fun S => fun k => lv_iadd S.1 S.2.1 d k)) (fun x y => Int32.toInt_add x y) (fun a b x y h1 h2 h3 h4 => ⟨by show a.1 + b.1 ≤ _; omega, by show _ ≤ a.2 + b.2; omega⟩) hV
theorem xr_tsubI {px py : xV} {c : Nat} (d : decode cc pc = .ok (.isub, 1)) (hV : ∀ R s A H V sc, K R s A H V sc → ∀ ad (x y : Int32), x_rel ad V sc px (.int x) → x_rel ad V sc py (.int y) → V[c]? = some (x.toInt - y.toInt)) : x_Snd cl K cc own nL nm MC MS pc (xi_bT px py c xG_sub (pc + 1)) := xi_bT_ok (g := fun x y => x - y) (G := fun x y => x - y) (fun x y => (fun S => fun k => lv_isub S.1 S.2.1 d k)) (fun x y => Int32.toInt_sub x y) (fun a b x y h1 h2 h3 h4 => ⟨by show a.1 - b.2 ≤ _; omega, by show _ ≤ a.2 - b.1; omega⟩) hV
theorem xr_tmulI {px py : xV} {c : Nat} (d : decode cc pc = .ok (.imul, 1)) (hV : ∀ R s A H V sc, K R s A H V sc → ∀ ad (x y : Int32), x_rel ad V sc px (.int x) → x_rel ad V sc py (.int y) → V[c]? = some (x.toInt * y.toInt)) : x_Snd cl K cc own nL nm MC MS pc (xi_bT px py c xG_mul (pc + 1)) := xi_bT_ok (g := fun x y => x * y) (G := fun x y => x * y) (fun x y => (fun S => fun k => lv_imul S.1 S.2.1 d k)) (fun x y => Int32.toInt_mul x y) (fun a b x y h1 h2 h3 h4 => x_corner h1 h2 h3 h4) hV
def xi_nT (px : xV) (c : Nat) (nx : Nat) : xS → Option (List xS) := fun t => match t.2.2.1 with
  | x :: r => match x_bi t.2.2.2.2.1 x with
    | some a => bif x_eqv x px && x_r32 (-a.2, -a.1) then some [(nx, t.2.1, (3, (c : Int), 0) :: r, t.2.2.2.1, x_mt t.2.2.2.2.1 c (-a.2, -a.1), t.2.2.2.2.2)] else none
    | _ => none
  | _ => none
theorem xr_tnegI {px : xV} {c : Nat} (d : decode cc pc = .ok (.ineg, 1)) (hV : ∀ R s A H V sc, K R s A H V sc → ∀ ad (x : Int32), x_rel ad V sc px (.int x) → V[c]? = some (-x.toInt)) : x_Snd cl K cc own nL nm MC MS pc (xi_nT px c (pc + 1)) := by
  have hw : ∀ x, x_Stk cc own nL pc (pc + 1) [.int x] [.int (-x)] := fun x => (fun S => fun k => lv_ineg S.1 S.2.1 d k)
  intro V sc p l e R s m args below meth c D A H0 Q C hA hK t ts hpc hf hg
  unfold xi_nT at hf
  split at hf
  · rename_i x r hst
    split at hf
    · rename_i a ha
      cases hbb : (x_eqv x px && x_r32 (-a.2, -a.1)) with
      | false => rw [hbb] at hf; cases hf
      | true =>
        rw [hbb] at hf
        cases hf
        simp only [Bool.and_eq_true] at hbb
        obtain ⟨q1, q3⟩ := hbb
        have e1 := x_eqv_ok q1
        subst e1
        unfold x_r32 at q3
        simp only [Bool.and_eq_true, decide_eq_true_eq] at q3
        subst hpc
        intro ls stk H locs ⟨lv, ws, tys, h1, h2, h3, h4, h5, h6, h7, h8, h9⟩
        rw [hst] at h3
        match stk, h3 with
        | v2 :: rest, h3 =>
          obtain ⟨nx', rfl, x1, x2⟩ := x_bi_ok h9 ha h3.1
          have hv := hV _ _ _ _ _ _ hK _ nx' h3.1
          have eg : (-nx').toInt = -nx'.toInt := by rw [Int32.toInt_neg, x_bmod (by omega) (by omega)]
          exact hw nx' C.1 (hg _ List.mem_cons_self ls (.int (-nx') :: rest) H locs ⟨lv, ws, tys, h1, h2, ⟨⟨_, rfl, by simp only [Int.toNat_natCast]; rw [eg]; exact hv⟩, h3.2⟩, h4, h5, h6, h7, h8, x_mt_ok h9 hv (by show -a.2 ≤ _; omega) (by show _ ≤ -a.1; omega)⟩)
    · cases hf
  · cases hf
def xi_aTL (px py : xV) (c : Nat) (nx : Nat) : xS → Option (List xS) := fun t => match t.2.2.1 with
  | y :: x :: r => match x_bl t.2.2.2.2.1 x, x_bl t.2.2.2.2.1 y with
    | some a, some b => bif x_eqv x px && (x_eqv y py && x_r32 (-2147483648 + (a.1 + b.1) / 2147483648, (a.2 + b.2) / 2147483648)) then some [(nx, t.2.1, (6, (c : Int), 0) :: r, t.2.2.2.1, x_mt t.2.2.2.2.1 c (xG_add a b), t.2.2.2.2.2)] else none
    | _, _ => none
  | _ => none
theorem xr_taddL {px py : xV} {c : Nat} (d : decode cc pc = .ok (.ladd, 1)) (hV : ∀ R s A H V sc, K R s A H V sc → ∀ ad (x y : Int64), x_rel ad V sc px (.long x) → x_rel ad V sc py (.long y) → V[c]? = some (x.toInt + y.toInt)) : x_Snd cl K cc own nL nm MC MS pc (xi_aTL px py c (pc + 1)) := by
  have hw : ∀ x y, x_Stk cc own nL pc (pc + 1) [.long y, .long x] [.long (x + y)] := fun x y => (fun S => fun k => lv_ladd S.1 S.2.1 d k)
  intro V sc p l e R s m args below meth c D A H0 Q C hA hK t ts hpc hf hg
  unfold xi_aTL at hf
  split at hf
  · rename_i y x r hst
    split at hf
    · rename_i a b ha hb
      cases hbb : (x_eqv x px && (x_eqv y py && x_r32 (-2147483648 + (a.1 + b.1) / 2147483648, (a.2 + b.2) / 2147483648))) with
      | false => rw [hbb] at hf; cases hf
      | true =>
        rw [hbb] at hf
        cases hf
        simp only [Bool.and_eq_true] at hbb
        obtain ⟨q1, q2, q3⟩ := hbb
        have e1 := x_eqv_ok q1
        have e2 := x_eqv_ok q2
        subst e1
        subst e2
        unfold x_r32 at q3
        simp only [Bool.and_eq_true, decide_eq_true_eq] at q3
        subst hpc
        intro ls stk H locs ⟨lv, ws, tys, h1, h2, h3, h4, h5, h6, h7, h8, h9⟩
        rw [hst] at h3
        match stk, h3 with
        | v1 :: v2 :: rest, h3 =>
          obtain ⟨ny, rfl, y1, y2⟩ := x_bl_ok h9 hb h3.1
          obtain ⟨nx', rfl, x1, x2⟩ := x_bl_ok h9 ha h3.2.1
          have hv := hV _ _ _ _ _ _ hK _ nx' ny h3.2.1 h3.1
          have eg : (nx' + ny).toInt = nx'.toInt + ny.toInt := by rw [Int64.toInt_add]; exact x_bmodL (by omega) (by omega)
          exact hw nx' ny C.1 (hg _ List.mem_cons_self ls (.long (nx' + ny) :: rest) H locs ⟨lv, ws, tys, h1, h2, ⟨⟨_, rfl, by simp only [Int.toNat_natCast]; rw [eg]; exact hv⟩, h3.2.2⟩, h4, h5, h6, h7, h8, x_mt_ok h9 hv (by show a.1 + b.1 ≤ _; omega) (by show _ ≤ a.2 + b.2; omega)⟩)
    · cases hf
  · cases hf
/-- a comparison of two, as one of a third and a number -/
def xi_if2R (k : Nat) (px py : xV) (c : Nat) (z : Int) (tg nx : Nat) : xS → Option (List xS) := fun t => match t.2.2.1 with
  | y :: x :: r => bif x_eqv x px && x_eqv y py then match t.2.2.2.2.1[c]? with
      | some a => some (x_way k a (z, z) t (3, (c : Int), 0) (0, z, z) r tg ++ x_way (x_neg k) a (z, z) t (3, (c : Int), 0) (0, z, z) r nx)
      | none => none
    else xi_if2 k tg nx t
  | _ => none
theorem xi_if2R_ok {k : Nat} {px py : xV} {c : Nat} {z : Int} (hw : x_If2 cc own nL pc tg nx k) (hV : ∀ R s A H V sc, K R s A H V sc → ∀ ad (x y : Int32), x_rel ad V sc px (.int x) → x_rel ad V sc py (.int y) → ∃ n, V[c]? = some n ∧ n - z = x.toInt - y.toInt) (hpx : px.1 = 0 ∨ px.1 = 3) (hpy : py.1 = 0 ∨ py.1 = 3) : x_Snd cl K cc own nL nm MC MS pc (xi_if2R k px py c z tg nx) := by
  intro V sc p l e R s m args below meth c D A H0 Q C hA hK t ts hpc hf hg
  unfold xi_if2R at hf
  split at hf
  · rename_i y x r hst
    cases hbb : (x_eqv x px && x_eqv y py) with
    | false => rw [hbb] at hf; exact xi_if2_ok hw C hA hK t ts hpc hf hg
    | true =>
      rw [hbb] at hf
      simp only [cond_true] at hf
      simp only [Bool.and_eq_true] at hbb
      have e1 := x_eqv_ok hbb.1
      have e2 := x_eqv_ok hbb.2
      subst e1
      subst e2
      split at hf
      · rename_i a ha
        cases hf
        subst hpc
        intro ls stk H locs ⟨lv, ws, tys, h1, h2, h3, h4, h5, h6, h7, h8, h9⟩
        rw [hst] at h3
        match stk, h3 with
        | v1 :: v2 :: rest, h3 =>
          have hi : ∀ {q : xV} {v : Value} {ad : List Nat}, (q.1 = 0 ∨ q.1 = 3) → x_rel ad V sc q v → ∃ n, v = .int n := fun {q v ad} hq hr => by
            obtain ⟨q1, q2, q3⟩ := q
            rcases hq with h0 | h0
            · simp only at h0; subst h0; exact ⟨_, hr.choose_spec.1⟩
            · simp only at h0; subst h0; exact ⟨_, hr.choose_spec.1⟩
          obtain ⟨ny, rfl⟩ := hi hpy h3.1
          obtain ⟨nx', rfl⟩ := hi hpx h3.2.1
          obtain ⟨n, n1, n2⟩ := hV _ _ _ _ _ _ hK _ nx' ny h3.2.1 h3.1
          obtain ⟨n', m1, m2, m3⟩ := h9 _ _ ha
          rw [n1] at m1
          cases m1
          have hzz : (z, z).1 ≤ z ∧ z ≤ (z, z).2 := ⟨Int.le_refl z, Int.le_refl z⟩
          have hcc : ∀ k, x_cnd k nx'.toInt ny.toInt → x_cnd k n z := fun k h => by
            unfold x_cnd at h ⊢
            split <;> simp only at h <;> omega
          refine hw C.1 (fun hc => ?_) (fun hc => ?_)
          · have hc := hcc _ hc
            obtain ⟨⟨g1, g2⟩, g3, g4⟩ := x_nar_ok ⟨m2, m3⟩ hzz hc
            exact hg _ (List.mem_append_left _ (x_way_in (x_may_ok ⟨m2, m3⟩ hzz hc))) ls rest H locs ⟨lv, ws, tys, h1, h2, h3.2.2, h4, h5, h6, h7, h8, x_tk_set h9 (by simp only [Int.toNat_natCast]; exact n1) g1 g2⟩
          · have hc := hcc _ (x_neg_ok hc)
            obtain ⟨⟨g1, g2⟩, g3, g4⟩ := x_nar_ok ⟨m2, m3⟩ hzz hc
            exact hg _ (List.mem_append_right _ (x_way_in (x_may_ok ⟨m2, m3⟩ hzz hc))) ls rest H locs ⟨lv, ws, tys, h1, h2, h3.2.2, h4, h5, h6, h7, h8, x_tk_set h9 (by simp only [Int.toNat_natCast]; exact n1) g1 g2⟩
      · cases hf
  · cases hf
/-- a comparison of two tokens that is known -/
def xi_if2K (k : Nat) (px py : xV) (b : Bool) (tg nx : Nat) : xS → Option (List xS) := fun t => match t.2.2.1 with
  | y :: x :: r => bif x_eqv x px && x_eqv y py then some [(bif b then tg else nx, t.2.1, r, t.2.2.2)] else xi_if2 k tg nx t
  | _ => none
theorem xi_if2K_ok {k : Nat} {px py : xV} {b : Bool} (hw : x_If2 cc own nL pc tg nx k) (hV : ∀ R s A H V sc, K R s A H V sc → ∀ ad (x y : Int32), x_rel ad V sc px (.int x) → x_rel ad V sc py (.int y) → (b = true ↔ x_cnd k x.toInt y.toInt)) (hpx : px.1 = 0 ∨ px.1 = 3) (hpy : py.1 = 0 ∨ py.1 = 3) : x_Snd cl K cc own nL nm MC MS pc (xi_if2K k px py b tg nx) := by
  intro V sc p l e R s m args below meth c D A H0 Q C hA hK t ts hpc hf hg
  unfold xi_if2K at hf
  split at hf
  · rename_i y x r hst
    cases hbb : (x_eqv x px && x_eqv y py) with
    | false => rw [hbb] at hf; exact xi_if2_ok hw C hA hK t ts hpc hf hg
    | true =>
      rw [hbb] at hf
      simp only [cond_true] at hf
      simp only [Bool.and_eq_true] at hbb
      have e1 := x_eqv_ok hbb.1
      have e2 := x_eqv_ok hbb.2
      subst e1
      subst e2
      cases hf
      subst hpc
      intro ls stk H locs ⟨lv, ws, tys, h1, h2, h3, h4⟩
      rw [hst] at h3
      match stk, h3 with
      | v1 :: v2 :: rest, h3 =>
        have hi : ∀ {q : xV} {v : Value} {ad : List Nat}, (q.1 = 0 ∨ q.1 = 3) → x_rel ad V sc q v → ∃ n, v = .int n := fun {q v ad} hq hr => by
          obtain ⟨q1, q2, q3⟩ := q
          rcases hq with h0 | h0
          · simp only at h0; subst h0; exact ⟨_, hr.choose_spec.1⟩
          · simp only at h0; subst h0; exact ⟨_, hr.choose_spec.1⟩
        obtain ⟨ny, rfl⟩ := hi hpy h3.1
        obtain ⟨nx', rfl⟩ := hi hpx h3.2.1
        have hv := hV _ _ _ _ _ _ hK _ nx' ny h3.2.1 h3.1
        have hgo := hg _ List.mem_cons_self ls rest H locs ⟨lv, ws, tys, h1, h2, h3.2.2, h4⟩
        refine hw C.1 (fun hc => ?_) (fun hc => ?_)
        · rw [hv.mpr hc] at hgo
          exact hgo
        · have hb : b = false := by
            cases b with
            | false => rfl
            | true => exact absurd (hv.mp rfl) hc
          rw [hb] at hgo
          exact hgo
  · cases hf
/-- one of an array's elements, by the bounds of all -/
def xi_aldH (b : Bool) (nx : Nat) : xS → Option (List xS) := fun t => match t.2.2.1 with
  | i :: (1, j, _) :: r => match x_bi t.2.2.2.2.1 i, x_at t.2.2.2.1 j.toNat with
    | some ib, some (kd, _, n, d, o) => bif x_akd b kd && (decide (0 ≤ ib.1) && decide (ib.2 < n)) then match x_hul d o with
      | some x => some [(nx, t.2.1, x :: r, t.2.2.2)]
      | none => none
      else none
    | _, _ => none
  | _ => none
theorem xi_aldH_ok {b : Bool} (hw : ∀ kd, x_akd b kd = true → x_Al cl cc own nL nm MC MS pc nx (x_aty kd)) : x_Snd cl K cc own nL nm MC MS pc (xi_aldH b nx) := by
  intro V sc p l e R s m args below meth c D A H0 Q C hA hK t ts hpc hf hg
  unfold xi_aldH at hf
  split at hf
  · rename_i i j jb r hst
    split at hf
    · rename_i ib kd cN n d o hib hcell
      cases hb : (x_akd b kd && (decide (0 ≤ ib.1) && decide (ib.2 < n))) with
      | false => rw [hb] at hf; cases hf
      | true =>
        rw [hb] at hf
        simp only [cond_true] at hf
        split at hf
        · rename_i x hx
          cases hf
          subst hpc
          simp only [Bool.and_eq_true, decide_eq_true_eq] at hb
          intro ls stk H locs ⟨lv, ws, tys, h1, h2, h3, h4, h5, h6, h7, h8, h9⟩
          rw [hst] at h3
          match stk, h3 with
          | v1 :: v2 :: rest, h3 =>
            obtain ⟨ni, rfl, i1, i2⟩ := x_bi_ok h9 hib h3.1
            obtain ⟨a, ee, hq, rfl, hc⟩ := x_ref h4 h3.2.1 hcell
            obtain ⟨t0, cA, f, g1, rfl, g2, g3⟩ := x_arr hb.1 hc
            obtain ⟨k1, k2, k3, k4⟩ := x_ix hb.2.1 hb.2.2 i1 i2
            exact hw kd hb.1 C h5 h6 hq g1 k1 (hg _ List.mem_cons_self ls (.int (f ni.toNatClampNeg) :: rest) H locs ⟨lv, ws, tys, h1, h2, ⟨x_hul_ok hx (fun _ h => h) _ (g3 _ k2), h3.2.2⟩, h4, h5, h6, h7, h8, h9⟩)
        · cases hf
    · cases hf
  · cases hf
theorem xr_ialdH (d : decode cc pc = .ok (.iaload, 1)) : x_Snd cl K cc own nL nm MC MS pc (xi_aldH false (pc + 1)) := xi_aldH_ok (fun kd hk => by
  have e := Nat.eq_of_beq_eq_true hk
  subst e
  intro p l e R s m args below meth c C H locs cells slots Q ls rest D tys ws a q0 t0 n cA f i h1 h2 h3 h4 h5 k
  exact va_iald C.1.1 C.1.2.1 h1 h2 _ _ h3 h4 h5 d k)
/-- counting up by one: a token's next -/
def x_even (j : Int) : Bool := decide (j = 20) || (decide (j = 22) || (decide (j = 24) || (decide (j = 26) || (decide (j = 28) || decide (j = 30)))))
def xi_incT (i nx : Nat) : xS → Option (List xS) := fun t => match x_find t.2.1 i with
  | some (3, j, z) => match t.2.2.2.2.1[j.toNat]? with
    | some a => bif x_even j && decide (a.2 < 2147483647) then some [(nx, (i, (3, j + 1, 0)) :: t.2.1.filter (x_flt 0 i), t.2.2.1, t.2.2.2.1, t.2.2.2.2.1.set (j.toNat + 1) (a.1 + 1, a.2 + 1), t.2.2.2.2.2)] else xi_inc i 1 nx t
    | none => none
  | _ => xi_inc i 1 nx t
theorem xr_iincT {i : Nat} (hV : ∀ R s A H V sc, K R s A H V sc → ∀ j : Int, x_even j = true → V[j.toNat + 1]? = V[j.toNat]?.map (· + 1)) (d : decode cc pc = .ok (.iinc i 1, 3)) (hn : i < nL) : x_Snd cl K cc own nL nm MC MS pc (xi_incT i (pc + 3)) := by
  have hw : x_Inc cc own nL pc (pc + 3) i 1 := (fun S => fun hl hk k => lv_iinc S.1 S.2.1 d hl hk rfl hn rfl k)
  intro V sc p l e R s m args below meth c D A H0 Q C hA hK t ts hpc hf hg
  unfold xi_incT at hf
  split at hf
  · rename_i j z hx
    split at hf
    · rename_i a ha
      cases hbb : (x_even j && decide (a.2 < 2147483647)) with
      | false => rw [hbb] at hf; exact xi_inc_ok (by decide) hw C hA hK t ts hpc hf hg
      | true =>
        rw [hbb] at hf
        cases hf
        simp only [Bool.and_eq_true, decide_eq_true_eq] at hbb
        subst hpc
        intro ls stk H locs ⟨lv, ws, tys, h1, h2, h3, h4, h5, h6, h7, h8, h9⟩
        obtain ⟨k, v, hk, hr⟩ := x_find_ok h2 hx
        obtain ⟨n, rfl, hn2⟩ := hr
        simp only at hn2
        obtain ⟨n', m1, m2, m3⟩ := h9 _ _ ha
        rw [hn2] at m1
        cases m1
        have hv := hV _ _ _ _ _ _ hK j hbb.1
        rw [hn2] at hv
        have hv : V[j.toNat + 1]? = some (n.toInt + 1) := hv
        have hr := x_rng n
        have en : (n + Int32.ofInt 1).toInt = n.toInt + 1 := by
          rw [Int32.toInt_add, show (Int32.ofInt 1).toInt = 1 from by decide]
          exact x_bmod (by omega) (by omega)
        have hj : 0 ≤ j := by
          have := hbb.1
          unfold x_even at this
          simp only [Bool.or_eq_true, decide_eq_true_eq] at this
          omega
        have ej : (j + 1).toNat = j.toNat + 1 := by omega
        refine hw C.1 h1 hk (fun ls' hl' => hg _ List.mem_cons_self ls' stk H locs ⟨_, ws, tys, hl', ⟨⟨rfl, ⟨_, rfl, ?_⟩⟩, x_all2_filter h2 x_flt_eq⟩, h3, h4, h5, h6, h7, h8, x_tk_set h9 hv (by show a.1 + 1 ≤ _; omega) (by show _ ≤ a.2 + 1; omega)⟩)
        simp only [ej]
        rw [hv, en]
    · cases hf
  · exact xi_inc_ok (by decide) hw C hA hK t ts hpc hf hg
/-- the token 22 is not above the token 20 -/
def xi_rel (f : xS → Option (List xS)) : xS → Option (List xS) := fun t => match t.2.2.2.2.1[20]?, t.2.2.2.2.1[22]? with
  | some a, some b => f (x_tks t 22 (b.1, x_min b.2 a.2))
  | _, _ => f t
theorem xi_rel_ok {f : xS → Option (List xS)} (hV : ∀ R s A H V sc, K R s A H V sc → ∀ x y, V[20]? = some x → V[22]? = some y → y ≤ x) (hw : x_Snd cl K cc own nL nm MC MS pc f) : x_Snd cl K cc own nL nm MC MS pc (xi_rel f) := by
  intro V sc p l e R s m args below meth c D A H0 Q C hA hK t ts hpc hf hg
  unfold xi_rel at hf
  split at hf
  · rename_i a b ha hb
    intro ls stk H locs hI
    obtain ⟨x, x1, x2, x3⟩ := x_In_tk hI 20 a ha
    obtain ⟨y, y1, y2, y3⟩ := x_In_tk hI 22 b hb
    have := hV _ _ _ _ _ _ hK x y x1 y1
    exact hw C hA hK (x_tks t 22 (b.1, x_min b.2 a.2)) ts hpc hf hg ls stk H locs (x_tks_in hI y1 y2 (x_le_min y3 (by omega)))
  · exact hw C hA hK t ts hpc hf hg
theorem xw_getf {ci k ix N : Nat} {C : String} {T : u_T} (hc : cl[ci]? = some (C, T, N)) (hin : ∀ w ∈ u_ws C T N, w ∈ x_tbl) (hk : k < N) (hw : Cond.fieldLink own ix (T k).1 (T k).2.1 (T k).2.2.1 ∈ x_tbl) (d : decode cc pc = .ok (.getfield ix, 3)) : x_Gf cl cc own nL nm MC MS pc (pc + 3) ci k := by
  intro p l e R s m args below meth c C1 H locs cells slots Q ls rest D tys ws a q0 fs v h1 h2 h3 h4 kk
  exact va_get C1.1.1 C1.1.2.1 C1.1.2.2.2.2 hin C1.1.2.2.2.1 h1 h2 q0 h3 hc k hk (C1.1.2.2.2.2 _ hw) (fun _ h => h) h4 d kk
theorem xw_iald (d : decode cc pc = .ok (.iaload, 1)) : x_Al cl cc own nL nm MC MS pc (pc + 1) .int := by
  intro p l e R s m args below meth c C H locs cells slots Q ls rest D tys ws a q0 t0 n cA f i h1 h2 h3 h4 h5 k
  exact va_iald C.1.1 C.1.2.1 h1 h2 _ _ h3 h4 h5 d k
/-- a point's own wire, looked at twice (16 .. 42): none, or what the point there has -/
def xi_reck (ci ks kv p1 p2 : Nat) : xS → Option (List xS) := fun t => match x_find t.2.1 0, x_find t.2.1 1 with
  | some (1, j, _), some x => match x_bi t.2.2.2.2.1 x, x_at t.2.2.2.1 j.toNat with
    | some b, some (0, c, n, d, o) => bif Nat.beq c ci && (Nat.ble (ks + 1) n && Nat.ble (kv + 1) n) then match x_get d o ks, x_get d o kv with
      | (1, js, _), (1, jv, _) => match x_at t.2.2.2.1 js.toNat, x_at t.2.2.2.1 jv.toNat with
        | some (1, _, n1, d1, o1), some (1, _, n2, d2, o2) => match x_hul d1 o1, x_hul d2 o2 with
          | some (0, _, hi), some z => bif decide (0 ≤ b.1) && (decide (b.2 < n1) && decide (hi < n2)) then some [(p1, t.2.1, t.2.2.1, t.2.2.2), (p2, t.2.1, z :: t.2.2.1, t.2.2.2)] else none
          | _, _ => none
        | _, _ => none
      | _, _ => none
      else none
    | _, _ => none
  | _, _ => none
theorem xi_reck_ok {ci ks kv p1 p2 c16 c17 c20 c21 c22 c32 c33 c36 c37 c40 c41 c42 : Nat} (w16 : x_Ld cc own nL c16 c17 0 2) (w17 : x_Gf cl cc own nL nm MC MS c17 c20 ci ks) (w20 : x_Ld cc own nL c20 c21 1 0) (w21 : x_Al cl cc own nL nm MC MS c21 c22 .int) (w22 : x_If1 cc own nL c22 c32 p1 3)
    (w32 : x_Ld cc own nL c32 c33 0 2) (w33 : x_Gf cl cc own nL nm MC MS c33 c36 ci kv) (w36 : x_Ld cc own nL c36 c37 0 2) (w37 : x_Gf cl cc own nL nm MC MS c37 c40 ci ks) (w40 : x_Ld cc own nL c40 c41 1 0) (w41 : x_Al cl cc own nL nm MC MS c41 c42 .int) (w42 : x_Al cl cc own nL nm MC MS c42 p2 .int) : x_Snd cl K cc own nL nm MC MS c16 (xi_reck ci ks kv p1 p2) := by
  intro V sc p l e R s m args below meth c D A H0 Q C hA hK t ts hpc hf hg
  unfold xi_reck at hf
  split at hf
  · rename_i j jb x hx0 hx1
    split at hf
    · rename_i b c9 n d o hb hcell
      cases hbb : (Nat.beq c9 ci && (Nat.ble (ks + 1) n && Nat.ble (kv + 1) n)) with
      | false => rw [hbb] at hf; cases hf
      | true =>
        rw [hbb] at hf
        simp only [cond_true] at hf
        split at hf
        · rename_i js jsb jv jvb hs hv
          split at hf
          · rename_i cs n1 d1 o1 cv n2 d2 o2 hcs hcv
            split at hf
            · rename_i lo hi z hh1 hh2
              cases hb2 : (decide (0 ≤ b.1) && (decide (b.2 < n1) && decide (hi < n2))) with
              | false => rw [hb2] at hf; cases hf
              | true =>
                rw [hb2] at hf
                cases hf
                simp only [Bool.and_eq_true, decide_eq_true_eq] at hb2
                simp only [Bool.and_eq_true] at hbb
                obtain ⟨e1, e2, e3⟩ := hbb
                have e1 := Nat.eq_of_beq_eq_true e1
                have e2 := Nat.le_of_ble_eq_true e2
                have e3 := Nat.le_of_ble_eq_true e3
                subst e1
                subst hpc
                intro ls stk H locs ⟨lv, ws, tys, h1, h2, h3, h4, h5, h6, h7, h8, h9⟩
                obtain ⟨k0, v0, hk0, hr0⟩ := x_find_ok h2 hx0
                obtain ⟨k1, v1, hk1, hr1⟩ := x_find_ok h2 hx1
                have hl0 := lv_at h1 k0 hk0
                have hl1 := lv_at h1 k1 hk1
                obtain ⟨a, ee, hq, rfl, hc⟩ := x_ref h4 hr0 hcell
                obtain ⟨fs, rfl, hfl, hff⟩ := hc
                obtain ⟨vs, hvs, hrs⟩ := hff ks (by show ks < n; omega)
                obtain ⟨vv, hvv, hrv⟩ := hff kv (by show kv < n; omega)
                have hrs : x_rel (ws.map Prod.fst) V sc (x_get d o ks) vs := hrs
                have hrv : x_rel (ws.map Prod.fst) V sc (x_get d o kv) vv := hrv
                rw [hs] at hrs
                rw [hv] at hrv
                obtain ⟨as, es, hqs, rfl, hcS⟩ := x_ref h4 hrs hcs
                obtain ⟨av, ev, hqv, rfl, hcV⟩ := x_ref h4 hrv hcv
                obtain ⟨ts0, cAs, fS, gs1, rfl, gs2, gs3⟩ := hcS
                obtain ⟨tv0, cAv, fV, gv1, rfl, gv2, gv3⟩ := hcV
                obtain ⟨np, rfl, p1', p2'⟩ := x_bi_ok h9 hb hr1
                obtain ⟨i1, i2, i3, i4⟩ := x_ix hb2.1 hb2.2.1 p1' p2'
                have hkd : x_kd 2 (.ref a) := Or.inr ⟨a, rfl⟩
                have hki : x_kd 0 (.int np) := ⟨np, rfl⟩
                refine w16 C.1 hl0 hkd (w17 C h5 h6 hq hvs (w20 C.1 hl1 hki (w21 C h5 h6 hqs gs1 i1 (w22 C.1 (fun hge => ?_) (fun hlt => ?_)))))
                · have hh : x_rel (ws.map Prod.fst) V sc (0, lo, hi) (.int (fS np.toNatClampNeg)) := x_hul_ok hh1 (fun _ h => h) _ (gs3 _ i2)
                  obtain ⟨m0, me, m1, m2⟩ := hh
                  cases me
                  have hge : (0 : Int) ≤ (fS np.toNatClampNeg).toInt := hge
                  simp only at m2
                  obtain ⟨j1, j2, j3, j4⟩ := x_ix (lo := 0) (hi := hi) (n := n2) (Int.le_refl 0) hb2.2.2 hge m2
                  refine w32 C.1 hl0 hkd (w33 C h5 h6 hq hvv (w36 C.1 hl0 hkd (w37 C h5 h6 hq hvs (w40 C.1 hl1 hki (w41 C h5 h6 hqs gs1 i1 (w42 C h5 h6 hqv gv1 j1 ?_))))))
                  exact hg _ (List.mem_cons_of_mem _ List.mem_cons_self) ls (.int (fV (fS np.toNatClampNeg).toNatClampNeg) :: stk) H locs ⟨lv, ws, tys, h1, h2, ⟨x_hul_ok hh2 (fun _ h => h) _ (gv3 _ j2), h3⟩, h4, h5, h6, h7, h8, h9⟩
                · exact hg _ List.mem_cons_self ls stk H locs ⟨lv, ws, tys, h1, h2, h3, h4, h5, h6, h7, h8, h9⟩
            · cases hf
          · cases hf
        · cases hf
    · cases hf
  · cases hf
theorem xw_aload0 (d : decode cc pc = .ok (.aload_n 0, 1)) : x_Ld cc own nL pc (pc + 1) 0 2 := (fun S => fun hl hk k => by rcases hk with rfl | ⟨a, rfl⟩; exact lv_aload_nN S.1 S.2.1 d rfl hl k; exact lv_aload_n S.1 S.2.1 d rfl hl k)
theorem xw_iload1 (d : decode cc pc = .ok (.iload_n 1, 1)) : x_Ld cc own nL pc (pc + 1) 1 0 := (fun S => fun hl hk k => by obtain ⟨n, rfl⟩ := hk; exact lv_iload_n S.1 S.2.1 d rfl hl k)
theorem xw_ifge {off : Int} (d : decode cc pc = .ok (.ifCond .ge off, 3)) (ht : (pc : Int) + off = (tg : Int)) : x_If1 cc own nL pc tg (pc + 3) 3 := (fun S => fun kt kf => lv_if_ge S.1 S.2.1 d ht (fun h => kt (x_ge0.mp h)) (fun h => kf (fun q => h (x_ge0.mpr q))))
end X12c
end
