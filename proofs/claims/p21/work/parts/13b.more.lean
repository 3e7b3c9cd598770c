noncomputable section
/-! entries for loops and for calls on numbers alone; what the tokens' relations give -/
theorem x_lo {cl : List vw_C} {K : xKx} {I : Nat → xM} {q : xM} {pc L : Nat} {f : xS → Option (List xS)} (h : x_Snd cl K (xm_b q) (xm_y q).cls (xm_l q) (xm_y q).name (xm_c q) (xm_s q) pc f) : x_EOq cl K I q pc (3, f, L, 0) := h
theorem x_cp {cl : List vw_C} {K : xKx} {I : Nat → xM} {q q' : xM} {pc M' na : Nat} (e : I M' = q') (h : x_Cl (xm_b q) (xm_y q).cls (xm_l q) (xm_y q).name (xm_c q) (xm_s q) pc q' na) : x_EOq cl K I q pc (4, x_nof, M', na) := by
  show x_Cl _ _ _ _ _ _ _ (I M') na
  rw [e]
  exact h
def x_top2 (px py : xV) : xS → Bool := fun t => match t.2.2.1 with
  | y :: x :: _ => x_eqv x px && x_eqv y py
  | _ => false
/-- what a token or a number is worth -/
def x_pv (f : Nat → Int) (q : xV) : Int := match q.1 with
  | 0 => q.2.1
  | _ => f q.2.1.toNat
def x_okv (q : xV) : Bool := match q.1 with
  | 0 => decide (q.2.1 = q.2.2)
  | 3 => decide (0 ≤ q.2.1) && decide (q.2.1 < 32)
  | _ => false
def x_okL (q : xV) : Bool := match q.1 with
  | 6 => decide (0 ≤ q.2.1) && decide (q.2.1 < 32)
  | _ => false
theorem x_pv_ok {V : List Int} {sc : Nat × Nat × List Nat} {ad : List Nat} {f : Nat → Int} (h2 : ∀ j, j < 32 → V[j]? = some (f j)) {q : xV} {n : Int32} (hq : x_okv q = true) (h : x_rel ad V sc q (.int n)) : n.toInt = x_pv f q := by
  obtain ⟨t, a, b⟩ := q
  unfold x_okv at hq
  split at hq
  · rename_i h0
    simp only at h0
    subst h0
    simp only [decide_eq_true_eq] at hq
    subst hq
    exact x_tC h
  · rename_i h0
    simp only at h0
    subst h0
    simp only [Bool.and_eq_true, decide_eq_true_eq] at hq
    have e : a = (a.toNat : Int) := by omega
    rw [e] at h
    have := x_tI h2 (j := a.toNat) (by omega) h
    rw [this]
    rfl
  · cases hq
theorem x_pvL_ok {V : List Int} {sc : Nat × Nat × List Nat} {ad : List Nat} {f : Nat → Int} (h2 : ∀ j, j < 32 → V[j]? = some (f j)) {q : xV} {n : Int64} (hq : x_okL q = true) (h : x_rel ad V sc q (.long n)) : n.toInt = x_pv f q := by
  obtain ⟨t, a, b⟩ := q
  unfold x_okL at hq
  split at hq
  · rename_i h0
    simp only at h0
    subst h0
    simp only [Bool.and_eq_true, decide_eq_true_eq] at hq
    have e : a = (a.toNat : Int) := by omega
    rw [e] at h
    have := x_tL h2 (j := a.toNat) (by omega) h
    rw [this]
    rfl
  · cases hq
section X13b
variable {K : xKx} {px py : xV} {c : Nat}
theorem x_hV2 (G : Int → Int → Int) (hK : x_KP K) (hx : x_okv px = true) (hy : x_okv py = true) (hc : c < 32) (hG : ∀ f, x_fR f → f c = G (x_pv f px) (x_pv f py)) : ∀ R s A H V sc, K R s A H V sc → ∀ ad (x y : Int32), x_rel ad V sc px (.int x) → x_rel ad V sc py (.int y) → V[c]? = some (G x.toInt y.toInt) := by
  intro R s A H V sc h ad x y h1 h2
  obtain ⟨f, -, g2, g3, -⟩ := hK R s A H V sc h
  rw [x_pv_ok g2 hx h1, x_pv_ok g2 hy h2, ← hG f g3]
  exact g2 c hc
theorem x_hV2L (hK : x_KP K) (hx : x_okL px = true) (hy : x_okL py = true) (hc : c < 32) (hG : ∀ f, x_fR f → f c = x_pv f px + x_pv f py) : ∀ R s A H V sc, K R s A H V sc → ∀ ad (x y : Int64), x_rel ad V sc px (.long x) → x_rel ad V sc py (.long y) → V[c]? = some (x.toInt + y.toInt) := by
  intro R s A H V sc h ad x y h1 h2
  obtain ⟨f, -, g2, g3, -⟩ := hK R s A H V sc h
  rw [x_pvL_ok g2 hx h1, x_pvL_ok g2 hy h2, ← hG f g3]
  exact g2 c hc
theorem x_hV1 (hK : x_KP K) (hx : x_okv px = true) (hc : c < 32) (hG : ∀ f, x_fR f → f c = -x_pv f px) : ∀ R s A H V sc, K R s A H V sc → ∀ ad (x : Int32), x_rel ad V sc px (.int x) → V[c]? = some (-x.toInt) := by
  intro R s A H V sc h ad x h1
  obtain ⟨f, -, g2, g3, -⟩ := hK R s A H V sc h
  rw [x_pv_ok g2 hx h1, ← hG f g3]
  exact g2 c hc
theorem x_hVR {z : Int} (hK : x_KP K) (hx : x_okv px = true) (hy : x_okv py = true) (hc : c < 32) (hG : ∀ f, x_fR f → f c - z = x_pv f px - x_pv f py) : ∀ R s A H V sc, K R s A H V sc → ∀ ad (x y : Int32), x_rel ad V sc px (.int x) → x_rel ad V sc py (.int y) → ∃ n, V[c]? = some n ∧ n - z = x.toInt - y.toInt := by
  intro R s A H V sc h ad x y h1 h2
  obtain ⟨f, -, g2, g3, -⟩ := hK R s A H V sc h
  rw [x_pv_ok g2 hx h1, x_pv_ok g2 hy h2]
  exact ⟨f c, g2 c hc, hG f g3⟩
end X13b
section X13c
variable {cc : ByteArray} {own : String} {nL pc tg : Nat}
theorem xw_icmpgt {off : Int} (d : decode cc pc = .ok (.if_icmp .gt off, 3)) (ht : (pc : Int) + off = (tg : Int)) : x_If2 cc own nL pc tg (pc + 3) 4 := (fun S => fun kt kf => lv_icmp_gt S.1 S.2.1 d ht (fun h => kt (x_lt32.mp h)) (fun h => kf (fun q => h (x_lt32.mpr q))))
theorem xw_icmpne {off : Int} (d : decode cc pc = .ok (.if_icmp .ne off, 3)) (ht : (pc : Int) + off = (tg : Int)) : x_If2 cc own nL pc tg (pc + 3) 1 := (fun S => fun kt kf => lv_icmp_ne S.1 S.2.1 d ht (fun h => kt (fun q => h (x_eq32.mpr q))) (fun h => kf (fun q => q (x_eq32.mp h))))
end X13c
/-- the tokens 1 and 2 are equal, or not: what a comparison 'not equal' of them says -/
def x_KE (b : Bool) (K : xKx) : Prop := ∀ R s A H V sc, K R s A H V sc → ∀ ad (x y : Int32), x_rel ad V sc (3, 1, 0) (.int x) → x_rel ad V sc (3, 2, 0) (.int y) → (b = true ↔ x_cnd 1 x.toInt y.toInt)
/-- all ways end with 1 -/
def x_one1 (rs : Option (List xS)) : Bool := match rs with
  | some l => l.all (fun t => Nat.beq t.1 2149 && match t.2.2.1 with
    | [v] => x_eqv v (0, 1, 1)
    | _ => false)
  | none => false
/-- one way, and there the picture u -/
def x_goes (rs : Option (List xS)) (u : xS) : Bool := match rs with
  | some [t] => x_le 100 (99999, 99999) t u
  | _ => false
end
