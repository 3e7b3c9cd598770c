noncomputable section
/-! behind the constructors: the relation -/
def chT (e : Option (Nat × List (Int × Int))) (c : xC) : Bool := match e with
  | some (t, l) => match l with
    | r :: _ => bif Nat.beq t 1 then chU r c else chL l c
    | [] => true
  | none => true
theorem chT_1 {r : Int × Int} {l : List (Int × Int)} {c : xC} (h : chT (some (1, r :: l)) c = true) : chU r c = true := h
theorem chT_n {t : Nat} {l : List (Int × Int)} {c : xC} (ht : t ≠ 1 ∨ l = []) (h : chT (some (t, l)) c = true) : chL l c = true := by
  cases l with
  | nil => rfl
  | cons r l' =>
    have hb : Nat.beq t 1 = false := by
      cases hb : Nat.beq t 1 with
      | true =>
        have e := Nat.eq_of_beq_eq_true hb
        rcases ht with g | g
        · exact absurd e g
        · cases g
      | false => rfl
    replace h : (bif Nat.beq t 1 then chU r c else chL (r :: l') c) = true := h
    rw [hb] at h
    exact h
theorem chK : ∀ j : Nat, j < 275 → (match w_18[j]? with | some c => chT (x_at kTab j) c | none => true) = true := by decide +kernel
theorem kTab_len : kTab.length = 275 := by decide +kernel
def kSel (k : Int) (l : List (Int × Int)) : Int × Int := if k < 0 then (1, 0) else x_nthP l k.toNat
theorem kTyO_none {T : List (Nat × List (Int × Int))} {c k : Int} (h : x_at T c.toNat = none) : kTyO T c k = (1, 0) := by
  unfold kTyO
  by_cases c0 : c < 0
  · exact if_pos c0
  · rw [if_neg c0]
    split
    · rename_i hx
      rw [h] at hx
      cases hx
    · rename_i hx
      rw [h] at hx
      cases hx
    · rfl
theorem kTyO_some {T : List (Nat × List (Int × Int))} {c k : Int} {t : Nat} {l : List (Int × Int)} (c0 : ¬ c < 0) (h : x_at T c.toNat = some (t, l)) : (∃ r l', t = 1 ∧ l = r :: l' ∧ kTyO T c k = r) ∨ ((t ≠ 1 ∨ l = []) ∧ kTyO T c k = kSel k l) := by
  by_cases t1 : t = 1
  · subst t1
    cases l with
    | nil =>
      refine Or.inr ⟨Or.inr rfl, ?_⟩
      unfold kTyO
      rw [if_neg c0]
      split
      · rename_i hx
        rw [h] at hx
        cases hx
      · rename_i hx
        rw [h] at hx
        cases hx
        rfl
      · rename_i hx
        rw [h] at hx
        cases hx
    | cons r l' =>
      refine Or.inl ⟨r, l', rfl, rfl, ?_⟩
      unfold kTyO
      rw [if_neg c0, h]
      first | done | rfl
  · refine Or.inr ⟨Or.inl t1, ?_⟩
    unfold kTyO
    rw [if_neg c0]
    split
    · rename_i hx
      rw [h] at hx
      cases hx
      exact absurd rfl t1
    · rename_i hx
      rw [h] at hx
      cases hx
      rfl
    · rename_i hx
      rw [h] at hx
      cases hx
theorem i0.kty {w u : eW} (h : i0 w u) : e_Has kTy u := fun c k hl => by
  unfold kTy at hl ⊢
  by_cases c0 : c < 0
  · rw [show kTyO kTab c k = (1, 0) from if_pos c0] at hl
    exact absurd hl (by decide)
  have ec : ((c.toNat : Nat) : Int) = c := by omega
  cases hT : x_at kTab c.toNat with
  | none =>
    rw [kTyO_none hT] at hl
    exact absurd hl (by decide)
  | some tl =>
    obtain ⟨t, l⟩ := tl
    have c1 : c.toNat < 275 := by
      rw [x_at_eq] at hT
      have := (List.getElem?_eq_some_iff.mp hT).1
      rw [kTab_len] at this
      exact this
    have q := chK c.toNat c1
    obtain ⟨x, hx2⟩ := w18_get (c := c) (by omega) (by omega)
    rw [hx2] at q
    replace q : chT (x_at kTab c.toNat) x = true := q
    rw [hT] at q
    rcases kTyO_some (k := k) c0 hT with ⟨r, l', rfl, rfl, e⟩ | ⟨g, e⟩
    · rw [e] at hl ⊢
      have v := chU_ok h hx2 (chT_1 q) hl (by omega) k
      rw [ec] at v
      exact v
    · by_cases k0 : k < 0
      · rw [e, show kSel k l = (1, 0) from if_pos k0] at hl
        exact absurd hl (by decide)
      · have e2 : kTyO kTab c k = x_nthP l k.toNat := e.trans (if_neg k0)
        rw [e2] at hl ⊢
        have v := chL_ok h hx2 (chT_n g q) (k := k) (by omega) hl
        rw [ec] at v
        exact v
theorem kTy_no {c k : Int} (h : ¬ Bk c) : kTy c k = (1, 0) := by
  by_cases c0 : c < 0
  · exact if_pos c0
  · exact kTyO_none (by rw [x_at_eq, List.getElem?_eq_none (by rw [kTab_len]; unfold Bk at h; omega)])
theorem chR1 : (match w_18[1]? with | some c => chL kRb c | none => false) = true := by decide +kernel
theorem i0.kry {w u : eW} (h : i0 w u) (ha : e_all u) : e_Has kRy u := fun c k hl => by
  unfold kRy at hl ⊢
  by_cases c1 : c = 1
  · subst c1
    rw [if_pos rfl] at hl ⊢
    by_cases k0 : k < 0
    · rw [if_pos k0] at hl
      exact absurd hl (by decide)
    · rw [if_neg k0] at hl ⊢
      have q := chR1
      split at q
      · rename_i x hx
        exact chL_ok h (j := 1) hx q (by omega) hl
      · cases q
  · rw [if_neg c1] at hl ⊢
    by_cases c5 : 5 ≤ c ∧ c ≤ 7
    · rw [if_pos c5]
      exact ha c k
    · rw [if_neg c5] at hl
      exact absurd hl (by decide)
theorem kRy_no {c k : Int} (h : ¬ Bk c) : kRy c k = (1, 0) := by
  unfold kRy
  unfold Bk at h
  rw [if_neg (by omega), if_neg (by omega)]
theorem i0.arm {w u : eW} (h : i0 w u) {q k : Nat} {z : Nat → Int} (hq : ∀ n : Nat, n < 4 → pv (17 * n + q) k = some (z n)) {a : Int} (a0 : 0 ≤ a) (a1 : a ≤ 3) : u (17 * a + q) k = z a.toNat := by
  have e := h.vl (hq a.toNat (by omega))
  rw [show ((17 * a.toNat + q : Nat) : Int) = 17 * a + q by omega] at e
  exact e
theorem i0.row {w u : eW} (h : i0 w u) {q m : Nat} {z : Nat → Int} (hq : ∀ n : Nat, n < m → pv q n = some (z n)) {a : Int} (a0 : 0 ≤ a) (a1 : a < m) : u q a = z a.toNat := by
  have e := h.vl (hq a.toNat (by omega))
  rw [show ((a.toNat : Nat) : Int) = a by omega] at e
  exact e
set_option maxRecDepth 20000 in
theorem i0.kRel {w u : eW} (h : i0 w u) (ha : e_all u) : kRel (e_PB Bk u) := by
  have b : ∀ c k : Int, 0 ≤ c → c ≤ 274 → e_PB Bk u c k = u c k := fun c k c0 c1 => e_PB_in ⟨c0, c1⟩
  have hT : e_Has kTy (e_PB Bk u) := h.kty.pbm (fun _ _ => kTy_no)
  have hR : e_Has kRy (e_PB Bk u) := (h.kry ha).pbm (fun _ _ => kRy_no)
  have kn : ∀ c k : Int, 0 ≤ c → c ≤ 274 → kn1 (e_PB Bk u c k) := fun c k c0 c1 => by rw [b c k c0 c1]; exact ha c k
  have e13 : e_PB Bk u 0 13 = 0 := (b 0 13 (by decide) (by decide)).trans (h.vl (j := 0) (k := 13) (by decide +kernel))
  have e12 : e_PB Bk u 0 12 = 0 := (b 0 12 (by decide) (by decide)).trans (h.vl (j := 0) (k := 12) (by decide +kernel))
  have e14 : e_PB Bk u 0 14 = 1 := (b 0 14 (by decide) (by decide)).trans (h.vl (j := 0) (k := 14) (by decide +kernel))
  have e3 : e_PB Bk u 1 3 = 2 := (b 1 3 (by decide) (by decide)).trans (h.vl (j := 1) (k := 3) (by decide +kernel))
  have e190 : e_PB Bk u 19 0 = 0 := (b 19 0 (by decide) (by decide)).trans (h.vl (j := 19) (k := 0) (by decide +kernel))
  have e191 : e_PB Bk u 19 1 = 0 := (b 19 1 (by decide) (by decide)).trans (h.vl (j := 19) (k := 1) (by decide +kernel))
  have e262 : e_PB Bk u 262 0 = 0 := (b 262 0 (by decide) (by decide)).trans (h.vl (j := 262) (k := 0) (by decide +kernel))
  have e7 : ∀ a, 0 ≤ a → a ≤ 3 → e_PB Bk u (17 * a + 86) 7 = 17 * a + 94 := fun a a0 a1 => by
    rw [b (17 * a + 86) 7 (by omega) (by omega)]
    have q : u (17 * a + 86) 7 = 17 * ((a.toNat : Nat) : Int) + 94 := h.arm (q := 86) (k := 7) (z := fun n => 17 * (n : Int) + 94) (by decide +kernel) a0 a1
    rw [show ((a.toNat : Nat) : Int) = a by omega] at q
    exact q
  have e8 : ∀ a, 0 ≤ a → a ≤ 3 → e_PB Bk u (17 * a + 86) 8 = 0 := fun a a0 a1 => by
    rw [b (17 * a + 86) 8 (by omega) (by omega)]
    exact h.arm (q := 86) (k := 8) (z := fun _ => 0) (by decide +kernel) a0 a1
  have e17 : ∀ a, 0 ≤ a → a ≤ 3 → e_PB Bk u (17 * a + 86) 17 = -1 := fun a a0 a1 => by
    rw [b (17 * a + 86) 17 (by omega) (by omega)]
    exact h.arm (q := 86) (k := 17) (z := fun _ => -1) (by decide +kernel) a0 a1
  have ec0 : ∀ a, 0 ≤ a → a ≤ 3 → e_PB Bk u (17 * a + 94) 0 = 0 := fun a a0 a1 => by
    rw [b (17 * a + 94) 0 (by omega) (by omega)]
    exact h.arm (q := 94) (k := 0) (z := fun _ => 0) (by decide +kernel) a0 a1
  have ec1 : ∀ a, 0 ≤ a → a ≤ 3 → e_PB Bk u (17 * a + 94) 1 = 0 := fun a a0 a1 => by
    rw [b (17 * a + 94) 1 (by omega) (by omega)]
    exact h.arm (q := 94) (k := 1) (z := fun _ => 0) (by decide +kernel) a0 a1
  have e18 : ∀ i, 0 ≤ i → i ≤ 63 → e_PB Bk u 18 i = i := fun i i0' i1 => by
    rw [b 18 i (by decide) (by decide)]
    have q : u 18 i = ((i.toNat : Nat) : Int) := h.row (q := 18) (m := 64) (z := fun n => (n : Int)) (by decide +kernel) i0' (by omega)
    rw [show ((i.toNat : Nat) : Int) = i by omega] at q
    exact q
  have e15 : ∀ i, 0 ≤ i → i ≤ 63 → e_PB Bk u 15 i = -1 := fun i i0' i1 => by
    rw [b 15 i (by decide) (by decide)]
    exact h.row (q := 15) (m := 64) (z := fun _ => -1) (by decide +kernel) i0' (by omega)
  have cd : ∀ a, 0 ≤ a → a ≤ 3 → isCd (17 * a + 94) := fun a a0 a1 => by unfold isCd; omega
  have hD : cdD (e_PB Bk u) := by
    refine ⟨by rw [e3]; exact Or.inl rfl, fun a a0 a1 => ⟨by rw [e7 a a0 a1]; exact cd a a0 a1, by rw [e7 a a0 a1, e3]; omega⟩, fun a c a0 a1 c0 c1 n => ?_⟩
    rw [e7 a a0 a1, e7 c c0 c1]
    omega
  refine ⟨hT, hR, ⟨by omega, by omega, e14⟩, hD, fun _ => ⟨fun a a0 a1 => ⟨⟨kn _ _ (by omega) (by omega), kn _ _ (by omega) (by omega)⟩, e17 a a0 a1, ⟨fun i _ _ => kn _ _ (by omega) (by omega), fun i _ _ => kn _ _ (by omega) (by omega)⟩, fun j j0 j1 => ?_⟩, ⟨hD.1, fun a a0 a1 => ⟨?_, (hD.2.1 a a0 a1).2⟩, hD.2.2⟩, ⟨fun i i0' i1 q => ?_, fun p p0 p1 => ⟨p, ⟨p0, p1⟩, e18 p p0 p1⟩, fun _ => 0, fun p p0 p1 => ⟨(show (0 : Int) ≤ 0 ∧ (0 : Int) ≤ 63 by decide), fun q => ?_⟩⟩, ⟨fun p p0 p1 => ?_, fun c c0 c1 => ?_, fun p p0 p1 => ?_⟩, e262⟩, fun e => by exfalso; omega⟩
  · rw [e8 a a0 a1] at j1
    omega
  · rw [e7 a a0 a1]
    exact codK.zero (cd a a0 a1) (ec0 a a0 a1) (ec1 a a0 a1)
  · rw [e18 i i0' i1, e15 i i0' i1] at q
    omega
  · rw [e15 p p0 p1] at q
    omega
  · rw [e191] at p1
    omega
  · rw [e190] at c1
    omega
  · rw [e191] at p1
    omega
theorem mTy_no {c k : Int} (h : ¬ Bm c) : mTy c k = (1, 0) := by
  unfold Bm at h
  unfold mTy
  split
  · rw [if_neg (by omega)]
  · omega
  · rename_i n hn
    unfold x_nthP
    rw [x_at_eq, List.getElem?_eq_none (by have : mArr.length = 80 := (by decide +kernel); omega)]
theorem hTy_no {c k : Int} (h : ¬ Bm c) : hTy c k = (1, 0) := by
  unfold Bm at h
  rcases hTy_cases c k with e | ⟨-, c0, c1⟩ | e | e
  · exact e
  · omega
  · omega
  · omega
theorem ch276z : (match w_18[276]? with | some c => x_eqv c.2.2.2.1 (0, 0, 0) && (Nat.beq c.2.2.1 33060 && c.2.2.2.2.all (fun q => x_eqv q.2 (0, 0, 0) || decide ((16 ≤ q.1 ∧ q.1 < 160 ∧ ((q.1 - 16) % 36 = 1 ∨ (q.1 - 16) % 36 = 2 ∨ (q.1 - 16) % 36 = 3 ∨ (q.1 - 16) % 36 = 9)) ∨ (416 ≤ q.1 ∧ q.1 < 20576 ∧ (q.1 - 416) % 1260 = 1) ∨ (20836 ≤ q.1 ∧ q.1 < 20876)))) | none => false) = true := by decide +kernel
theorem i0.z276 {w u : eW} (h : i0 w u) {k : Int} (k0 : 0 ≤ k) (k1 : k < 33060) (h1 : ¬ mRa 276 k) (h2 : ¬ mRb 276 k) (h3 : ¬ mRc 276 k) : u 276 k = 0 := by
  have q := ch276z
  split at q
  · rename_i c hc
    simp only [Bool.and_eq_true] at q
    have hd := x_eqv_ok q.1
    have hn := Nat.eq_of_beq_eq_true q.2.1
    have v := h.at (j := 276) hc (k := k) k0 (by omega)
    rcases x_get_or (d := c.2.2.2.1) c.2.2.2.2 k.toNat with e | ⟨p, g1, g2, g3⟩
    · rw [e, hd] at v
      have v1 : (0 : Int) ≤ u 276 k ∧ u 276 k ≤ 0 := v
      show u 276 k = 0
      omega
    · rw [g3] at v
      have f := List.all_eq_true.mp q.2.2 p g1
      simp only [Bool.or_eq_true, decide_eq_true_eq] at f
      rcases f with f | f
      · rw [x_eqv_ok f] at v
        have v1 : (0 : Int) ≤ u 276 k ∧ u 276 k ≤ 0 := v
        show u 276 k = 0
        omega
      · exfalso
        unfold mRa at h1
        unfold mRb at h2
        unfold mRc at h3
        omega
  · cases q
theorem i0.mRel {w u : eW} (h : i0 w u) : mRel (e_PB Bm u) := by
  have b : ∀ c k : Int, 275 ≤ c → c ≤ 356 → e_PB Bm u c k = u c k := fun c k c0 c1 => e_PB_in ⟨c0, c1⟩
  have hT : e_Has mTy (e_PB Bm u) := h.mty.1.pbm (fun _ _ => mTy_no)
  have hH : e_Has hTy (e_PB Bm u) := h.mty.2.pbm (fun _ _ => hTy_no)
  have f : ∀ k : Nat, pv 275 k = some 0 → e_PB Bm u 275 k = 0 := fun k q => (b 275 k (by decide) (by decide)).trans (h.vl q)
  have z3 : e_PB Bm u 275 3 = 0 := f 3 (by decide +kernel)
  have z5 : e_PB Bm u 275 5 = 0 := f 5 (by decide +kernel)
  have z6 : e_PB Bm u 275 6 = 0 := f 6 (by decide +kernel)
  refine ⟨hT, hH, ⟨z6, fun _ => z5⟩, Or.inl ⟨z3, G0, newOk.bInvP hT ⟨⟨z3, f 10 (by decide +kernel), f 23 (by decide +kernel), f 30 (by decide +kernel), f 40 (by decide +kernel), f 42 (by decide +kernel), f 49 (by decide +kernel), z5⟩, fun a a0 a1 => ⟨?_, ?_, ?_⟩, fun p p0 p1 => ?_, fun k k0 k1 h1 h2 h3 => ?_⟩⟩⟩
  · rw [b 286 a (by decide) (by decide)]
    exact h.row (q := 286) (m := 4) (z := fun _ => 0) (by decide +kernel) a0 (by omega)
  · rw [b 338 a (by decide) (by decide)]
    exact h.row (q := 338) (m := 4) (z := fun _ => 0) (by decide +kernel) a0 (by omega)
  · rw [b 276 (36 * a + 17) (by decide) (by decide)]
    have e := h.vl (j := 276) (k := 36 * a.toNat + 17) ((by decide +kernel : ∀ n : Nat, n < 4 → pv 276 (36 * n + 17) = some (-1)) a.toNat (by omega))
    rw [show ((36 * a.toNat + 17 : Nat) : Int) = 36 * a + 17 by omega] at e
    exact e
  · rw [b 318 p (by decide) (by decide)]
    exact h.row (q := 318) (m := 64) (z := fun _ => -1) (by decide +kernel) p0 (by omega)
  · rw [b 276 k (by decide) (by decide)]
    exact h.z276 k0 k1 h1 h2 h3
theorem i0.lwR {w u : eW} (h : i0 w u) (ha : e_all u) : lwR u := by
  refine ⟨⟨ha, fun c k _ _ q => h.2.2 c k q, h.bk (fun _ => Iff.rfl), h.bm (fun _ => Iff.rfl), h.kRel ha, h.mRel⟩, ?_, ?_, ?_⟩
  · have e1 : u 275 9 = 0 := h.vl (j := 275) (k := 9) (by decide +kernel)
    have e2 : u 1 0 = 0 := h.vl (j := 1) (k := 0) (by decide +kernel)
    omega
  · have e1 : u 275 3 = 0 := h.vl (j := 275) (k := 3) (by decide +kernel)
    have e2 : u 0 13 = 0 := h.vl (j := 0) (k := 13) (by decide +kernel)
    omega
  · have e1 : u 275 10 = 0 := h.vl (j := 275) (k := 10) (by decide +kernel)
    have e2 : u 0 11 = 0 := h.vl (j := 0) (k := 11) (by decide +kernel)
    omega
end
