noncomputable section
/-! one picture is weaker than another: what may be forgotten, and a token that counts -/
/-- V and U say the same but for the tokens a .. a + 3 -/
def x_off (a : Nat) (V U : List Int) : Prop := V.length = U.length ∧ ∀ j, ¬ (a ≤ j ∧ j ≤ a + 3) → V[j]? = U[j]?
theorem x_off.refl {a : Nat} {V : List Int} : x_off a V V := ⟨rfl, fun _ _ => rfl⟩
theorem x_off.symm {a : Nat} {V U : List Int} (h : x_off a V U) : x_off a U V := ⟨h.1.symm, fun j h1 => (h.2 j h1).symm⟩
theorem x_off.trans {a : Nat} {V U T : List Int} (h : x_off a V U) (g : x_off a U T) : x_off a V T := ⟨h.1.trans g.1, fun j h1 => (h.2 j h1).trans (g.2 j h1)⟩
/-- the token a becomes k, the token a + 2 becomes i; each with its next -/
def x_vup (V : List Int) (a : Nat) (k i : Int) : List Int := (((V.set a k).set (a + 1) (k + 1)).set (a + 2) i).set (a + 3) (i + 1)
theorem x_vup_off (V : List Int) (a : Nat) (k i : Int) : x_off a V (x_vup V a k i) := by
  refine ⟨by simp [x_vup], fun j h1 => ?_⟩
  unfold x_vup
  rw [List.getElem?_set_ne (by omega), List.getElem?_set_ne (by omega), List.getElem?_set_ne (by omega), List.getElem?_set_ne (by omega)]
theorem x_vup_a {V : List Int} {a : Nat} {k i : Int} (h : a + 3 < V.length) : (x_vup V a k i)[a]? = some k := by
  unfold x_vup
  rw [List.getElem?_set_ne (by omega), List.getElem?_set_ne (by omega), List.getElem?_set_ne (by omega), List.getElem?_set_self (by omega)]
theorem x_vup_s {V : List Int} {a : Nat} {k i : Int} (h : a + 3 < V.length) : (x_vup V a k i)[a + 1]? = some (k + 1) := by
  unfold x_vup
  rw [List.getElem?_set_ne (by omega), List.getElem?_set_ne (by omega), List.getElem?_set_self (by simp; omega)]
theorem x_vup_b {V : List Int} {a : Nat} {k i : Int} (h : a + 3 < V.length) : (x_vup V a k i)[a + 2]? = some i := by
  unfold x_vup
  rw [List.getElem?_set_ne (by omega), List.getElem?_set_self (by simp; omega)]
theorem x_vup_t {V : List Int} {a : Nat} {k i : Int} (h : a + 3 < V.length) : (x_vup V a k i)[a + 3]? = some (i + 1) := by
  unfold x_vup
  rw [List.getElem?_set_self (by simp; omega)]
/-- not one of the tokens a .. a + 3 -/
def x_nt (a : Nat) (x : xV) : Bool := match x.1 with
  | 3 => !(Nat.ble a x.2.1.toNat && Nat.ble x.2.1.toNat (a + 3))
  | 6 => !(Nat.ble a x.2.1.toNat && Nat.ble x.2.1.toNat (a + 3))
  | _ => true
theorem x_nbn {a b : Nat} (h : (!(Nat.ble a b && Nat.ble b (a + 3))) = true) : ¬ (a ≤ b ∧ b ≤ a + 3) := fun e => by
  rw [Nat.ble_eq_true_of_le e.1, Nat.ble_eq_true_of_le e.2] at h
  cases h
theorem x_nt_ok {a : Nat} {ad : List Nat} {V U : List Int} {sc : Nat × Nat × List Nat} {x : xV} {v : Value} (ho : x_off a V U) (h : x_nt a x = true) (hr : x_rel ad V sc x v) : x_rel ad U sc x v := by
  obtain ⟨t, i, b⟩ := x
  unfold x_rel at hr ⊢
  unfold x_nt at h
  split at hr <;> try exact hr
  · rename_i h0
    simp only at h0
    subst h0
    obtain ⟨n, e1, e2⟩ := hr
    exact ⟨n, e1, by rw [← ho.2 _ (x_nbn h)]; exact e2⟩
  · rename_i h0
    simp only at h0
    subst h0
    obtain ⟨n, e1, e2⟩ := hr
    exact ⟨n, e1, by rw [← ho.2 _ (x_nbn h)]; exact e2⟩
/-- what x says (with the tokens' bounds tk) gives what y says -/
def x_leV (a : Nat) (tk : xT) (x y : xV) : Bool := match y.1 with
  | 0 => match x_bi tk x with
    | some b => decide (y.2.1 ≤ b.1) && decide (b.2 ≤ y.2.2)
    | none => false
  | 4 => match x_bl tk x with
    | some b => decide (y.2.1 ≤ b.1) && decide (b.2 ≤ y.2.2)
    | none => false
  | _ => x_eqv x y && x_nt a y
theorem x_leV_ok {a : Nat} {ad : List Nat} {V U : List Int} {sc : Nat × Nat × List Nat} {tk : xT} {x y : xV} {v : Value} (ho : x_off a V U) (ht : x_tk tk V) (h : x_leV a tk x y = true) (hr : x_rel ad V sc x v) : x_rel ad U sc y v := by
  obtain ⟨t, i, b⟩ := y
  unfold x_leV at h
  split at h
  · rename_i h0
    simp only at h0
    subst h0
    split at h
    · rename_i q hq
      simp only [Bool.and_eq_true, decide_eq_true_eq] at h
      obtain ⟨n, rfl, h1, h2⟩ := x_bi_ok ht hq hr
      exact ⟨n, rfl, Int.le_trans h.1 h1, Int.le_trans h2 h.2⟩
    · cases h
  · rename_i h0
    simp only at h0
    subst h0
    split at h
    · rename_i q hq
      simp only [Bool.and_eq_true, decide_eq_true_eq] at h
      obtain ⟨n, rfl, h1, h2⟩ := x_bl_ok ht hq hr
      exact ⟨n, rfl, Int.le_trans h.1 h1, Int.le_trans h2 h.2⟩
    · cases h
  · simp only [Bool.and_eq_true] at h
    have e := x_eqv_ok h.1
    subst e
    exact x_nt_ok ho h.2 hr
def x_leO (a : Nat) (tk : xT) (d' : xV) : xA → xA → Bool
  | [], [] => true
  | p :: r, q :: r' => Nat.beq p.1 q.1 && (x_leV a tk p.2 q.2 && x_leO a tk d' r r')
  | p :: r, [] => x_leV a tk p.2 d' && x_leO a tk d' r []
  | [], _ :: _ => false
theorem x_leO_ok {a : Nat} {ad : List Nat} {V U : List Int} {sc : Nat × Nat × List Nat} {tk : xT} {d d' : xV} (ho : x_off a V U) (ht : x_tk tk V) (hd : x_leV a tk d d' = true) : ∀ {o o' : xA}, x_leO a tk d' o o' = true → ∀ (k : Nat) (v : Value), x_rel ad V sc (x_get d o k) v → x_rel ad U sc (x_get d' o' k) v
  | [], [], _, k, v, hr => x_leV_ok ho ht hd hr
  | p :: r, q :: r', h, k, v, hr => by
    unfold x_leO at h
    simp only [Bool.and_eq_true] at h
    have e := Nat.eq_of_beq_eq_true h.1
    rw [x_get_cons] at hr ⊢
    rw [← e]
    cases hb : Nat.beq p.1 k with
    | true => rw [hb] at hr; exact x_leV_ok ho ht h.2.1 hr
    | false => rw [hb] at hr; exact x_leO_ok ho ht hd h.2.2 k v hr
  | p :: r, [], h, k, v, hr => by
    unfold x_leO at h
    simp only [Bool.and_eq_true] at h
    rw [x_get_cons] at hr
    cases hb : Nat.beq p.1 k with
    | true => rw [hb] at hr; exact x_leV_ok ho ht h.1 hr
    | false => rw [hb] at hr; exact x_leO_ok (o' := []) ho ht hd h.2 k v hr
  | [], _ :: _, h, _, _, _ => by unfold x_leO at h; cases h
def x_leC (a : Nat) (tk : xT) (x y : xC) : Bool := Nat.beq x.1 y.1 && (Nat.beq x.2.1 y.2.1 && (Nat.beq x.2.2.1 y.2.2.1 && (x_leV a tk x.2.2.2.1 y.2.2.2.1 && x_leO a tk y.2.2.2.1 x.2.2.2.2 y.2.2.2.2)))
theorem x_leC_ok {cl : List vw_C} {tys : List (ClassId × FieldType)} {a : Nat} {ad : List Nat} {V U : List Int} {sc : Nat × Nat × List Nat} {tk : xT} {x y : xC} {e : va_E} (ho : x_off a V U) (ht : x_tk tk V) (h : x_leC a tk x y = true) (hc : x_cell cl ad V sc tys x e) : x_cell cl ad U sc tys y e := by
  obtain ⟨t, n, ln, d, o⟩ := x
  obtain ⟨t', n', ln', d', o'⟩ := y
  unfold x_leC at h
  simp only [Bool.and_eq_true] at h
  obtain ⟨h1, h2, h3, h4, h5⟩ := h
  have e1 := Nat.eq_of_beq_eq_true h1
  have e2 := Nat.eq_of_beq_eq_true h2
  have e3 := Nat.eq_of_beq_eq_true h3
  subst e1
  subst e2
  subst e3
  have key := fun (k : Nat) (v : Value) => x_leO_ok (ad := ad) (sc := sc) ho ht h4 h5 k v
  unfold x_cell at hc ⊢
  split at hc
  · rename_i h0; simp only at h0; subst h0
    obtain ⟨fs, g1, g2, g3⟩ := hc
    exact ⟨fs, g1, g2, fun k hk => by obtain ⟨v, k1, k2⟩ := g3 k hk; exact ⟨v, k1, key k v k2⟩⟩
  · rename_i h0; simp only at h0; subst h0
    obtain ⟨t0, cA, f, g1, g2, g3, g4⟩ := hc
    exact ⟨t0, cA, f, g1, g2, g3, fun k hk => key k _ (g4 k hk)⟩
  · rename_i h0; simp only at h0; subst h0
    obtain ⟨t0, cA, f, g1, g2, g3, g4⟩ := hc
    exact ⟨t0, cA, f, g1, g2, g3, fun k hk => key k _ (g4 k hk)⟩
  · rename_i h0; simp only at h0; subst h0
    obtain ⟨t0, cA, f, g1, g2, g3, g4⟩ := hc
    exact ⟨t0, cA, f, g1, g2, g3, fun k hk => key k _ (g4 k hk)⟩
  · rename_i h0; simp only at h0; subst h0
    obtain ⟨t0, cA, r, f, g0, g1, g2, g3, g4⟩ := hc
    exact ⟨t0, cA, r, f, g0, g1, g2, g3, fun k hk => key k _ (g4 k hk)⟩
  · rename_i h0; simp only at h0; subst h0
    obtain ⟨t0, cA, f, g1, g2, g3, g4⟩ := hc
    exact ⟨t0, cA, f, g1, g2, g3, fun k hk => key k _ (g4 k hk)⟩
  · exact hc.elim
def x_leW (a : Nat) (tk : xT) : List xC → List xC → Bool
  | [], [] => true
  | x :: r, y :: r' => x_leC a tk x y && x_leW a tk r r'
  | _, _ => false
theorem x_leW_ok {a : Nat} {tk : xT} : ∀ {w w' : List xC}, x_leW a tk w w' = true → w.length = w'.length ∧ ∀ (k : Nat) (y : xC), w'[k]? = some y → ∃ x, w[k]? = some x ∧ x_leC a tk x y = true
  | [], [], _ => ⟨rfl, fun k y h => by simp at h⟩
  | x :: r, y :: r', h => by
    unfold x_leW at h
    simp only [Bool.and_eq_true] at h
    obtain ⟨h1, h2⟩ := x_leW_ok h.2
    refine ⟨by simp [h1], fun k z hz => ?_⟩
    cases k with
    | zero => cases hz; exact ⟨x, rfl, h.1⟩
    | succ k => simp only [List.getElem?_cons_succ] at hz ⊢; exact h2 k z hz
  | [], _ :: _, h => by unfold x_leW at h; cases h
  | _ :: _, [], h => by unfold x_leW at h; cases h
def x_leS (a : Nat) (tk : xT) : List xV → List xV → Bool
  | [], [] => true
  | x :: r, y :: r' => x_leV a tk x y && x_leS a tk r r'
  | _, _ => false
theorem x_leS_ok {a : Nat} {ad : List Nat} {V U : List Int} {sc : Nat × Nat × List Nat} {tk : xT} (ho : x_off a V U) (ht : x_tk tk V) : ∀ {st st' : List xV} {vs : List Value}, x_leS a tk st st' = true → x_all2 (x_rel ad V sc) st vs → x_all2 (x_rel ad U sc) st' vs
  | [], [], [], _, _ => trivial
  | x :: r, y :: r', v :: vs, h, hr => by
    unfold x_leS at h
    simp only [Bool.and_eq_true] at h
    exact ⟨x_leV_ok ho ht h.1 hr.1, x_leS_ok ho ht h.2 hr.2⟩
  | [], _ :: _, _, h, _ => by unfold x_leS at h; cases h
  | _ :: _, [], _, h, _ => by unfold x_leS at h; cases h
  | [], [], _ :: _, _, hr => hr.elim
  | _ :: _, _ :: _, [], _, hr => hr.elim
/-- locals: those that count (their places c.1, c.2) stand as the tokens a, a + 2 -/
def x_leL (a : Nat) (tk : xT) (c : Nat × Nat) (l : xL) : xL → Bool
  | [] => true
  | q :: r => (bif Nat.beq q.1 c.1 then x_eqv q.2 (3, (a : Int), 0) else bif Nat.beq q.1 c.2 then x_eqv q.2 (3, ((a + 2 : Nat) : Int), 0) else match x_find l q.1 with
    | some x => x_leV a tk x q.2
    | none => false) && x_leL a tk c l r
theorem x_leL_ok {a : Nat} {ad : List Nat} {V U : List Int} {sc : Nat × Nat × List Nat} {tk : xT} {c : Nat × Nat} {nL : Nat} {ls : Array Slot} {l : xL} {lv : List (Nat × Value)} (ho : x_off a V U) (ht : x_tk tk V) (hl : lv_has ls nL lv) (h2 : x_all2 (fun a q => a.1 = q.1 ∧ x_rel ad V sc a.2 q.2) l lv) (hc : c.1 ≠ 99999 → ∃ vc, ls[c.1]? = some (.val vc) ∧ x_rel ad U sc (3, (a : Int), 0) vc) (hc2 : c.2 ≠ 99999 → ∃ vc, ls[c.2]? = some (.val vc) ∧ x_rel ad U sc (3, ((a + 2 : Nat) : Int), 0) vc) : ∀ {l' : xL}, (∀ q ∈ l', q.1 ≠ 99999) → x_leL a tk c l l' = true → ∃ lv', lv_has ls nL lv' ∧ x_all2 (fun a q => a.1 = q.1 ∧ x_rel ad U sc a.2 q.2) l' lv'
  | [], _, _ => ⟨[], ⟨hl.1, hl.2.1, fun q hq => absurd hq List.not_mem_nil⟩, trivial⟩
  | q :: r, hn, h => by
    unfold x_leL at h
    simp only [Bool.and_eq_true] at h
    obtain ⟨lv', g1, g2⟩ := x_leL_ok ho ht hl h2 hc hc2 (fun q hq => hn q (List.mem_cons_of_mem _ hq)) h.2
    have h1 := h.1
    cases hb : Nat.beq q.1 c.1 with
    | true =>
      rw [hb] at h1
      have e := Nat.eq_of_beq_eq_true hb
      obtain ⟨vc, k1, k2⟩ := hc (fun z => hn q List.mem_cons_self (e.trans z))
      refine ⟨(c.1, vc) :: lv', ⟨g1.1, g1.2.1, fun p hp => ?_⟩, ⟨e, by rw [x_eqv_ok h1]; exact k2⟩, g2⟩
      rcases List.mem_cons.mp hp with rfl | hp
      · exact k1
      · exact g1.2.2 p hp
    | false =>
    cases hb2 : Nat.beq q.1 c.2 with
    | true =>
      rw [hb, hb2] at h1
      have e := Nat.eq_of_beq_eq_true hb2
      obtain ⟨vc, k1, k2⟩ := hc2 (fun z => hn q List.mem_cons_self (e.trans z))
      refine ⟨(c.2, vc) :: lv', ⟨g1.1, g1.2.1, fun p hp => ?_⟩, ⟨e, by rw [x_eqv_ok h1]; exact k2⟩, g2⟩
      rcases List.mem_cons.mp hp with rfl | hp
      · exact k1
      · exact g1.2.2 p hp
    | false =>
      rw [hb, hb2] at h1
      simp only [cond_false] at h1
      split at h1
      · rename_i x hx
        obtain ⟨k, v, hk, hr⟩ := x_find_ok h2 hx
        refine ⟨(q.1, v) :: lv', ⟨g1.1, g1.2.1, fun p hp => ?_⟩, ⟨rfl, x_leV_ok ho ht h1 hr⟩, g2⟩
        rcases List.mem_cons.mp hp with rfl | hp
        · exact lv_at hl k hk
        · exact g1.2.2 p hp
      · cases h1
def x_leT (a : Nat) : Nat → xT → xT → Bool
  | _, [], [] => true
  | i, p :: r, q :: r' => (bif Nat.ble a i && Nat.ble i (a + 3) then true else decide (q.1 ≤ p.1) && decide (p.2 ≤ q.2)) && x_leT a (i + 1) r r'
  | _, _, _ => false
theorem x_leT_ok {a : Nat} : ∀ {i : Nat} {tk tk' : xT}, x_leT a i tk tk' = true → ∀ (j : Nat) (q : Int × Int), ¬ (a ≤ i + j ∧ i + j ≤ a + 3) → tk'[j]? = some q → ∃ p, tk[j]? = some p ∧ q.1 ≤ p.1 ∧ p.2 ≤ q.2
  | _, [], [], _, j, q, _, hj => by simp at hj
  | i, p :: r, q :: r', h, j, z, n1, hj => by
    unfold x_leT at h
    simp only [Bool.and_eq_true] at h
    cases j with
    | zero =>
      cases hj
      have h1 := h.1
      have hb : (Nat.ble a i && Nat.ble i (a + 3)) = false := by
        cases hb : (Nat.ble a i && Nat.ble i (a + 3)) with
        | false => rfl
        | true =>
          simp only [Bool.and_eq_true] at hb
          exact absurd ⟨Nat.le_of_ble_eq_true hb.1, Nat.le_of_ble_eq_true hb.2⟩ n1
      rw [hb] at h1
      simp only [cond_false, Bool.and_eq_true, decide_eq_true_eq] at h1
      exact ⟨p, rfl, h1⟩
    | succ j =>
      simp only [List.getElem?_cons_succ] at hj ⊢
      exact x_leT_ok h.2 j z (by omega) hj
  | _, [], _ :: _, h, _, _, _, _ => by unfold x_leT at h; cases h
  | _, _ :: _, [], h, _, _, _, _ => by unfold x_leT at h; cases h
/-- the picture t gives the picture u, but for the locals c.1, c.2 and the tokens a .. a + 3 -/
def x_le (a : Nat) (c : Nat × Nat) (t u : xS) : Bool := Nat.beq t.1 u.1 && (u.2.1.all (fun q => Nat.ble q.1 5000) && (x_leL a t.2.2.2.2.1 c t.2.1 u.2.1 && (x_leS a t.2.2.2.2.1 t.2.2.1 u.2.2.1 && (x_leW a t.2.2.2.2.1 t.2.2.2.1 u.2.2.2.1 && (x_leT a 0 t.2.2.2.2.1 u.2.2.2.2.1 && (Nat.ble t.2.2.2.2.2.1 u.2.2.2.2.2.1 && Nat.ble t.2.2.2.2.2.2 u.2.2.2.2.2.2))))))
theorem x_le_ok {cl : List vw_C} {V U : List Int} {sc : Nat × Nat × List Nat} {nL : Nat} {s : State} {D : va_G} {A : Nat → Prop} {H0 : Heap} {a : Nat} {c : Nat × Nat} {t u : xS} {ls : Array Slot} {stk : List Value} {H : Heap} {locs : List Loc} (ho : x_off a V U) (h : x_le a c t u = true)
    (hc : ∀ ad, c.1 ≠ 99999 → ∃ vc, ls[c.1]? = some (.val vc) ∧ x_rel ad U sc (3, (a : Int), 0) vc) (hc2 : ∀ ad, c.2 ≠ 99999 → ∃ vc, ls[c.2]? = some (.val vc) ∧ x_rel ad U sc (3, ((a + 2 : Nat) : Int), 0) vc) (ha : ∀ j q, (a ≤ j ∧ j ≤ a + 3) → u.2.2.2.2.1[j]? = some q → ∃ n, U[j]? = some n ∧ q.1 ≤ n ∧ n ≤ q.2)
    (hI : x_In cl V sc nL s D A H0 t ls stk H locs) : x_In cl U sc nL s D A H0 u ls stk H locs := by
  unfold x_le at h
  simp only [Bool.and_eq_true] at h
  obtain ⟨-, b1, b2, b3, b4, b5, -, -⟩ := h
  obtain ⟨lv, ws, tys, h1, h2, h3, h4, h5, h6, h7, h8, h9⟩ := hI
  have hn : ∀ q ∈ u.2.1, q.1 ≠ 99999 := fun q hq e => by
    have := Nat.le_of_ble_eq_true (List.all_eq_true.mp b1 q hq)
    omega
  obtain ⟨g1, g2⟩ := x_leW_ok b4
  obtain ⟨lv', k1, k2⟩ := x_leL_ok ho h9 h1 h2 (hc (ws.map Prod.fst)) (hc2 (ws.map Prod.fst)) hn b2
  refine ⟨lv', ws, tys, k1, k2, x_leS_ok ho h9 b3 h3, ⟨g1.symm.trans h4.1, h4.2.1, fun k y q hy hq => ?_⟩, h5, h6, h7, h8, fun j q hj => ?_⟩
  · obtain ⟨x, hx, hxy⟩ := g2 k y hy
    exact x_leC_ok ho h9 hxy (h4.2.2 k x q hx hq)
  · by_cases e1 : a ≤ j ∧ j ≤ a + 3
    · exact ha j q e1 hj
    · obtain ⟨p, hp, p1, p2⟩ := x_leT_ok b5 j q (by simpa using e1) hj
      obtain ⟨n, n1, n2, n3⟩ := h9 j p hp
      exact ⟨n, by rw [← ho.2 j e1]; exact n1, Int.le_trans p1 n2, Int.le_trans n3 p2⟩
theorem x_le_W {p : Program} {l : Launch} {e : Env} {R : Room} {s : State} {m : MethodId} {args : Array Value} {below : List Frame} {meth : Method} {c : Code} {H : Heap} {locs : List Loc} {Q : State → Prop} {a : Nat} {i : Nat × Nat} {t u : xS} {ls : Array Slot} {stk : List Value} (h : x_le a i t u = true) (k : W p l e R s m args below meth c H locs u.2.2.2.2.2.1 u.2.2.2.2.2.2 Q (F0 m u.1 ls stk)) : W p l e R s m args below meth c H locs t.2.2.2.2.2.1 t.2.2.2.2.2.2 Q (F0 m t.1 ls stk) := by
  unfold x_le at h
  simp only [Bool.and_eq_true] at h
  obtain ⟨b0, -, -, -, -, -, b6, b7⟩ := h
  rw [Nat.eq_of_beq_eq_true b0]
  exact W.widen (Nat.le_of_ble_eq_true b6) (Nat.le_of_ble_eq_true b7) k
end
